theorem ldL_law_164 : decode cL_law 164 = .ok (.aload_n 1, 1) := dq0 kk_43 (by decide +kernel)
theorem ldL_law_165 : decode cL_law 165 = .ok (.aload_n 0, 1) := dq0 kk_42 (by decide +kernel)
theorem ldL_law_166 : decode cL_law 166 = .ok (.iload_n 3, 1) := dq0 kk_29 (by decide +kernel)
theorem ldL_law_167 : decode cL_law 167 = .ok (.iconst 1, 1) := dq0 kk_4 (by decide +kernel)
theorem ldL_law_168 : decode cL_law 168 = .ok (.iadd, 1) := dq0 kk_96 (by decide +kernel)
theorem ldL_law_169 : decode cL_law 169 = .ok (.iaload, 1) := dq0 kk_46 (by decide +kernel)
theorem ldL_law_170 : decode cL_law 170 = .ok (.aload_n 0, 1) := dq0 kk_42 (by decide +kernel)
theorem ldL_law_171 : decode cL_law 171 = .ok (.iload_n 3, 1) := dq0 kk_29 (by decide +kernel)
theorem ldL_law_172 : decode cL_law 172 = .ok (.iconst 2, 1) := dq0 kk_5 (by decide +kernel)
theorem ldL_law_173 : decode cL_law 173 = .ok (.iadd, 1) := dq0 kk_96 (by decide +kernel)
theorem ldL_law_174 : decode cL_law 174 = .ok (.iaload, 1) := dq0 kk_46 (by decide +kernel)
theorem ldL_law_175 : decode cL_law 175 = .ok (.aload_n 0, 1) := dq0 kk_42 (by decide +kernel)
theorem ldL_law_176 : decode cL_law 176 = .ok (.iload_n 3, 1) := dq0 kk_29 (by decide +kernel)
theorem ldL_law_177 : decode cL_law 177 = .ok (.iconst 3, 1) := dq0 kk_6 (by decide +kernel)
theorem ldL_law_178 : decode cL_law 178 = .ok (.iadd, 1) := dq0 kk_96 (by decide +kernel)
theorem ldL_law_179 : decode cL_law 179 = .ok (.iaload, 1) := dq0 kk_46 (by decide +kernel)
theorem ldL_law_180 : decode cL_law 180 = .ok (.aload_n 0, 1) := dq0 kk_42 (by decide +kernel)
theorem ldL_law_181 : decode cL_law 181 = .ok (.iload_n 3, 1) := dq0 kk_29 (by decide +kernel)
theorem ldL_law_182 : decode cL_law 182 = .ok (.iconst 4, 1) := dq0 kk_7 (by decide +kernel)
theorem ldL_law_183 : decode cL_law 183 = .ok (.iadd, 1) := dq0 kk_96 (by decide +kernel)
theorem ldL_law_184 : decode cL_law 184 = .ok (.iaload, 1) := dq0 kk_46 (by decide +kernel)
theorem ldL_law_185 : decode cL_law 185 = .ok (.aload_n 0, 1) := dq0 kk_42 (by decide +kernel)
theorem ldL_law_186 : decode cL_law 186 = .ok (.iload_n 3, 1) := dq0 kk_29 (by decide +kernel)
theorem ldL_law_187 : decode cL_law 187 = .ok (.iconst 5, 1) := dq0 kk_8 (by decide +kernel)
theorem ldL_law_188 : decode cL_law 188 = .ok (.iadd, 1) := dq0 kk_96 (by decide +kernel)
theorem ldL_law_189 : decode cL_law 189 = .ok (.iaload, 1) := dq0 kk_46 (by decide +kernel)
theorem ldL_law_190 : decode cL_law 190 = .ok (.invokevirtual 13, 3) := dqV kk_182 (by decide +kernel)
theorem ltk_X11_feed : Cond.code yX11_feed cX11_feed 6 (some .int) ∈ TB := tbm (tc2 (List.mem_of_getElem? (i := 91) rfl)) rfl
theorem lgc_X11_feed : GoodIn TB (cw yX11_feed cX11_feed 6 (some .int)) := goodIn_c2 ltk_X11_feed
theorem ltb_0 : Cond.methodLink "ToneLinesLaw" 13 yX11_feed ∈ TB := tbm (tc2 (List.mem_of_getElem? (i := 88) rfl)) rfl
theorem ltb_1 : Cond.instanceMethod yX11_feed ∈ TB := tbm (tc2 (List.mem_of_getElem? (i := 89) rfl)) rfl
theorem ltb_2 : Cond.selects "ToneLines" yX11_feed yX11_feed ∈ TB := tbm (tc2 (List.mem_of_getElem? (i := 90) rfl)) rfl
theorem ltb_3 : Cond.initialized "ToneLines" ∈ TB := rtb_28
theorem lgv_L_13 : GoodIn TB (wsV RL 13 RX11 yX11_feed (cw yX11_feed cX11_feed 6 (some .int))) := goodIn_4 ltb_0 ltb_1 ltb_2 ltb_3 lgc_X11_feed
theorem lhv_X11_feed : yX11_feed.cls = RX11 ∧ yX11_feed.cls ≠ "java/lang/invoke/MethodHandle" ∧ yX11_feed.cls ≠ "java/lang/invoke/VarHandle" ∧ (parseMethodDescriptor yX11_feed.desc).map (fun d => d.parameters.length) = some 5 := by decide +kernel
theorem ldL_law_193 : decode cL_law 193 = .ok (.pop, 1) := dq0 kk_87 (by decide +kernel)
theorem ldL_law_194 : decode cL_law 194 = .ok (.aload_n 2, 1) := dq0 kk_44 (by decide +kernel)
theorem ldL_law_195 : decode cL_law 195 = .ok (.aload_n 0, 1) := dq0 kk_42 (by decide +kernel)
theorem ldL_law_196 : decode cL_law 196 = .ok (.iload_n 3, 1) := dq0 kk_29 (by decide +kernel)
theorem ldL_law_197 : decode cL_law 197 = .ok (.iconst 1, 1) := dq0 kk_4 (by decide +kernel)
theorem ldL_law_198 : decode cL_law 198 = .ok (.iadd, 1) := dq0 kk_96 (by decide +kernel)
theorem ldL_law_199 : decode cL_law 199 = .ok (.iaload, 1) := dq0 kk_46 (by decide +kernel)
theorem ldL_law_200 : decode cL_law 200 = .ok (.aload_n 0, 1) := dq0 kk_42 (by decide +kernel)
theorem ldL_law_201 : decode cL_law 201 = .ok (.iload_n 3, 1) := dq0 kk_29 (by decide +kernel)
theorem ldL_law_202 : decode cL_law 202 = .ok (.iconst 2, 1) := dq0 kk_5 (by decide +kernel)
theorem ldL_law_203 : decode cL_law 203 = .ok (.iadd, 1) := dq0 kk_96 (by decide +kernel)
theorem ldL_law_204 : decode cL_law 204 = .ok (.iaload, 1) := dq0 kk_46 (by decide +kernel)
theorem ldL_law_205 : decode cL_law 205 = .ok (.aload_n 0, 1) := dq0 kk_42 (by decide +kernel)
theorem ldL_law_206 : decode cL_law 206 = .ok (.iload_n 3, 1) := dq0 kk_29 (by decide +kernel)
theorem ldL_law_207 : decode cL_law 207 = .ok (.iconst 3, 1) := dq0 kk_6 (by decide +kernel)
theorem ldL_law_208 : decode cL_law 208 = .ok (.iadd, 1) := dq0 kk_96 (by decide +kernel)
theorem ldL_law_209 : decode cL_law 209 = .ok (.iaload, 1) := dq0 kk_46 (by decide +kernel)
theorem ldL_law_210 : decode cL_law 210 = .ok (.aload_n 0, 1) := dq0 kk_42 (by decide +kernel)
theorem ldL_law_211 : decode cL_law 211 = .ok (.iload_n 3, 1) := dq0 kk_29 (by decide +kernel)
theorem ldL_law_212 : decode cL_law 212 = .ok (.iconst 4, 1) := dq0 kk_7 (by decide +kernel)
theorem ldL_law_213 : decode cL_law 213 = .ok (.iadd, 1) := dq0 kk_96 (by decide +kernel)
theorem ldL_law_214 : decode cL_law 214 = .ok (.iaload, 1) := dq0 kk_46 (by decide +kernel)
theorem ldL_law_215 : decode cL_law 215 = .ok (.aload_n 0, 1) := dq0 kk_42 (by decide +kernel)
theorem ldL_law_216 : decode cL_law 216 = .ok (.iload_n 3, 1) := dq0 kk_29 (by decide +kernel)
theorem ldL_law_217 : decode cL_law 217 = .ok (.iconst 5, 1) := dq0 kk_8 (by decide +kernel)
theorem ldL_law_218 : decode cL_law 218 = .ok (.iadd, 1) := dq0 kk_96 (by decide +kernel)
theorem ldL_law_219 : decode cL_law 219 = .ok (.iaload, 1) := dq0 kk_46 (by decide +kernel)
theorem ldL_law_220 : decode cL_law 220 = .ok (.invokevirtual 17, 3) := dqV kk_182 (by decide +kernel)
theorem ltk_X12_feed : Cond.code yX12_feed cX12_feed 8 (some .int) ∈ TB := tbm (tc5 (List.mem_of_getElem? (i := 141) rfl)) rfl
theorem lgc_X12_feed : GoodIn TB (cw yX12_feed cX12_feed 8 (some .int)) := goodIn_c2 ltk_X12_feed
theorem ltb_4 : Cond.methodLink "ToneLinesLaw" 17 yX12_feed ∈ TB := tbm (tc5 (List.mem_of_getElem? (i := 138) rfl)) rfl
theorem ltb_5 : Cond.instanceMethod yX12_feed ∈ TB := tbm (tc5 (List.mem_of_getElem? (i := 139) rfl)) rfl
theorem ltb_6 : Cond.selects "ToneLinesModel" yX12_feed yX12_feed ∈ TB := tbm (tc5 (List.mem_of_getElem? (i := 140) rfl)) rfl
theorem ltb_7 : Cond.initialized "ToneLinesModel" ∈ TB := rtb_119
theorem lgv_L_17 : GoodIn TB (wsV RL 17 RX12 yX12_feed (cw yX12_feed cX12_feed 8 (some .int))) := goodIn_4 ltb_4 ltb_5 ltb_6 ltb_7 lgc_X12_feed
theorem lhv_X12_feed : yX12_feed.cls = RX12 ∧ yX12_feed.cls ≠ "java/lang/invoke/MethodHandle" ∧ yX12_feed.cls ≠ "java/lang/invoke/VarHandle" ∧ (parseMethodDescriptor yX12_feed.desc).map (fun d => d.parameters.length) = some 5 := by decide +kernel
theorem ldL_law_223 : decode cL_law 223 = .ok (.pop, 1) := dq0 kk_87 (by decide +kernel)
theorem ldL_law_224 : decode cL_law 224 = .ok (.goto 841, 3) := dqT kk_167 (by decide +kernel)
set_option maxRecDepth 8000 in
set_option maxHeartbeats 1000000 in
theorem lc_0 {p : Program} {l : Launch} {e : Env} {s : State} {m : MethodId} {below : List Frame} {meth : Method} {c : Code} {D : va_G} {B b L : Nat} {cy : Nat → ClassId} {H : Heap} {locs : List Loc} {ls : Array Slot} {xs : Nat → Int32} {M : Mem} {Q : State → Prop} {i : Nat} (F : CallFix p m c code 4 s #[Value.ref b] TB RL) (hX : va_X b L xs s s.heap) (hbl : b < s.heap.size) (hbA : ¬ B ≤ b) (hi : i + 6 ≤ L) (hL : L ≤ 3072) (hJx : Jx M) (w : Wd D B cy s s.heap M H locs) (hl : lv_has ls 4 [(3, .int (zI (i : Int))), (2, .ref (B + 146)), (1, .ref (B + 0)), (0, .ref b)]) (kk : ∀ (M1 : Mem) (H1 : Heap) (locs1 : List Loc), Jx M1 → Wd D B cy s s.heap M1 H1 locs1 → W p l e room_1 s m #[Value.ref b] below meth c H1 locs1 159 13107 Q (F0 m 1065 ls [])) : W p l e room_1 s m #[Value.ref b] below meth c H locs 159 13107 Q (F0 m 164 ls []) := by
  have hx := F.1
  have hb := F.2.1
  obtain ⟨T, tn, Ps, mr, xw, Hs, kw, yw, Gs, hJ, hxy, hHG⟩ := hJx
  obtain ⟨qw, hv, ed, hv2, ed2, o, rfl, rfl, hb1, hb2⟩ := hxy.i
  have hta := hJ.1.2.2.2.2.1.1
  have hix1 := ix_z (z := (i : Int) + 1) (by omega) (by omega)
  obtain ⟨x1, bx1, ex1⟩ := rg_ex (xs ((i : Int) + 1).toNat)
  have hix2 := ix_z (z := (i : Int) + 2) (by omega) (by omega)
  obtain ⟨x2, bx2, ex2⟩ := rg_ex (xs ((i : Int) + 2).toNat)
  have hix3 := ix_z (z := (i : Int) + 3) (by omega) (by omega)
  obtain ⟨x3, bx3, ex3⟩ := rg_ex (xs ((i : Int) + 3).toNat)
  have hix4 := ix_z (z := (i : Int) + 4) (by omega) (by omega)
  obtain ⟨x4, bx4, ex4⟩ := rg_ex (xs ((i : Int) + 4).toNat)
  have hix5 := ix_z (z := (i : Int) + 5) (by omega) (by omega)
  obtain ⟨x5, bx5, ex5⟩ := rg_ex (xs ((i : Int) + 5).toNat)
  refine lv_aload_n hx hb ldL_law_164 rfl (lv_at hl 2 rfl) ?_
  refine lv_aload_n hx hb ldL_law_165 rfl (lv_at hl 3 rfl) ?_
  refine lv_iload_n hx hb ldL_law_166 rfl (lv_at hl 0 rfl) ?_
  refine lv_iconst (v := zI 1) hx hb ldL_law_167 rfl ?_
  refine z_iadd (z := (i : Int) + 1) hx hb ldL_law_168 (by omega) ?_
  refine va_sld hx hb hX hbl hbA w.2.2.1 (vpi hix1.1 (by rw [hix1.2]; omega)) ldL_law_169 ?_
  refine r_val ((congrArg xs hix1.2).trans ex1) ?_
  refine lv_aload_n hx hb ldL_law_170 rfl (lv_at hl 3 rfl) ?_
  refine lv_iload_n hx hb ldL_law_171 rfl (lv_at hl 0 rfl) ?_
  refine lv_iconst (v := zI 2) hx hb ldL_law_172 rfl ?_
  refine z_iadd (z := (i : Int) + 2) hx hb ldL_law_173 (by omega) ?_
  refine va_sld hx hb hX hbl hbA w.2.2.1 (vpi hix2.1 (by rw [hix2.2]; omega)) ldL_law_174 ?_
  refine r_val ((congrArg xs hix2.2).trans ex2) ?_
  refine lv_aload_n hx hb ldL_law_175 rfl (lv_at hl 3 rfl) ?_
  refine lv_iload_n hx hb ldL_law_176 rfl (lv_at hl 0 rfl) ?_
  refine lv_iconst (v := zI 3) hx hb ldL_law_177 rfl ?_
  refine z_iadd (z := (i : Int) + 3) hx hb ldL_law_178 (by omega) ?_
  refine va_sld hx hb hX hbl hbA w.2.2.1 (vpi hix3.1 (by rw [hix3.2]; omega)) ldL_law_179 ?_
  refine r_val ((congrArg xs hix3.2).trans ex3) ?_
  refine lv_aload_n hx hb ldL_law_180 rfl (lv_at hl 3 rfl) ?_
  refine lv_iload_n hx hb ldL_law_181 rfl (lv_at hl 0 rfl) ?_
  refine lv_iconst (v := zI 4) hx hb ldL_law_182 rfl ?_
  refine z_iadd (z := (i : Int) + 4) hx hb ldL_law_183 (by omega) ?_
  refine va_sld hx hb hX hbl hbA w.2.2.1 (vpi hix4.1 (by rw [hix4.2]; omega)) ldL_law_184 ?_
  refine r_val ((congrArg xs hix4.2).trans ex4) ?_
  refine lv_aload_n hx hb ldL_law_185 rfl (lv_at hl 3 rfl) ?_
  refine lv_iload_n hx hb ldL_law_186 rfl (lv_at hl 0 rfl) ?_
  refine lv_iconst (v := zI 5) hx hb ldL_law_187 rfl ?_
  refine z_iadd (z := (i : Int) + 5) hx hb ldL_law_188 (by omega) ?_
  refine va_sld hx hb hX hbl hbA w.2.2.1 (vpi hix5.1 (by rw [hix5.2]; omega)) ldL_law_189 ?_
  refine r_val ((congrArg xs hix5.2).trans ex5) ?_
  refine k_Vi F w (As := [.int (zI x1), .int (zI x2), .int (zI x3), .int (zI x4), .int (zI x5)]) (rest := []) (a := 0) (kd_lt (a := 0) (show kd 0 = (11, 0, 0) from rfl) (by decide)) (sh_11 rfl _ _) rfl (Ci_and2 (q_X11_feed (x := x1) ⟨by omega, by omega⟩ (x1 := x2) ⟨by omega, by omega⟩ (x2 := x3) ⟨by omega, by omega⟩ (x3 := x4) ⟨by omega, by omega⟩ (x4 := x5) ⟨by omega, by omega⟩ hJ.1.1) (s_X11_feed hJ.1.2.2.2.2.1 hJ.1.2.2.1 (z1 := x1) (z2 := x2) (z3 := x3) (z4 := x4) (z5 := x5)) (by decide) (by decide)) lgv_L_13 lhv_X11_feed ⟨(Nat.le_of_ble_eq_true rfl), (Nat.le_of_ble_eq_true rfl)⟩ hl.1 rfl (Nat.le_of_ble_eq_true rfl) ⟨(Nat.le_of_ble_eq_true rfl), (Nat.le_of_ble_eq_true rfl)⟩ ldL_law_190 (fun r1 N2 H locs hp w => ?_)
  obtain ⟨hp, M2N2, hAN2, hqN2⟩ := hp
  obtain ⟨z3, erz3, bz3, hIN2, hFN2⟩ := hp
  subst erz3
  rcases hqN2 with ⟨hcN2, _, eMN2⟩ | ⟨hcN2, _, hTN2, _⟩
  · have hJ4a := Jg.c hJ hIN2 hFN2 (fun b9 k9 h => by (try dsimp only at h); rcases h with ⟨rfl, rfl⟩ | rfl <;> first | decide | omega) (isTc.ag (eMN2 ▸ hJ.1.2.2.1) hAN2.1 hJ.1.2.2.2.2.1.1) (hJ.1.2.2.2.2.1) (CS.tape hJ.2.1 hFN2 (fun b9 k9 h => by (try dsimp only at h); rcases h with ⟨rfl, rfl⟩ | rfl <;> first | decide | omega))
    refine lv_pop hx hb ldL_law_193 rfl ?_
    refine lv_aload_n hx hb ldL_law_194 rfl (lv_at hl 1 rfl) ?_
    refine lv_aload_n hx hb ldL_law_195 rfl (lv_at hl 3 rfl) ?_
    refine lv_iload_n hx hb ldL_law_196 rfl (lv_at hl 0 rfl) ?_
    refine lv_iconst (v := zI 1) hx hb ldL_law_197 rfl ?_
    refine z_iadd (z := (i : Int) + 1) hx hb ldL_law_198 (by omega) ?_
    refine va_sld hx hb hX hbl hbA w.2.2.1 (vpi hix1.1 (by rw [hix1.2]; omega)) ldL_law_199 ?_
    refine r_val ((congrArg xs hix1.2).trans ex1) ?_
    refine lv_aload_n hx hb ldL_law_200 rfl (lv_at hl 3 rfl) ?_
    refine lv_iload_n hx hb ldL_law_201 rfl (lv_at hl 0 rfl) ?_
    refine lv_iconst (v := zI 2) hx hb ldL_law_202 rfl ?_
    refine z_iadd (z := (i : Int) + 2) hx hb ldL_law_203 (by omega) ?_
    refine va_sld hx hb hX hbl hbA w.2.2.1 (vpi hix2.1 (by rw [hix2.2]; omega)) ldL_law_204 ?_
    refine r_val ((congrArg xs hix2.2).trans ex2) ?_
    refine lv_aload_n hx hb ldL_law_205 rfl (lv_at hl 3 rfl) ?_
    refine lv_iload_n hx hb ldL_law_206 rfl (lv_at hl 0 rfl) ?_
    refine lv_iconst (v := zI 3) hx hb ldL_law_207 rfl ?_
    refine z_iadd (z := (i : Int) + 3) hx hb ldL_law_208 (by omega) ?_
    refine va_sld hx hb hX hbl hbA w.2.2.1 (vpi hix3.1 (by rw [hix3.2]; omega)) ldL_law_209 ?_
    refine r_val ((congrArg xs hix3.2).trans ex3) ?_
    refine lv_aload_n hx hb ldL_law_210 rfl (lv_at hl 3 rfl) ?_
    refine lv_iload_n hx hb ldL_law_211 rfl (lv_at hl 0 rfl) ?_
    refine lv_iconst (v := zI 4) hx hb ldL_law_212 rfl ?_
    refine z_iadd (z := (i : Int) + 4) hx hb ldL_law_213 (by omega) ?_
    refine va_sld hx hb hX hbl hbA w.2.2.1 (vpi hix4.1 (by rw [hix4.2]; omega)) ldL_law_214 ?_
    refine r_val ((congrArg xs hix4.2).trans ex4) ?_
    refine lv_aload_n hx hb ldL_law_215 rfl (lv_at hl 3 rfl) ?_
    refine lv_iload_n hx hb ldL_law_216 rfl (lv_at hl 0 rfl) ?_
    refine lv_iconst (v := zI 5) hx hb ldL_law_217 rfl ?_
    refine z_iadd (z := (i : Int) + 5) hx hb ldL_law_218 (by omega) ?_
    refine va_sld hx hb hX hbl hbA w.2.2.1 (vpi hix5.1 (by rw [hix5.2]; omega)) ldL_law_219 ?_
    refine r_val ((congrArg xs hix5.2).trans ex5) ?_
    refine k_Vi F w (As := [.int (zI x1), .int (zI x2), .int (zI x3), .int (zI x4), .int (zI x5)]) (rest := []) (a := 146) (kd_lt (a := 146) (show kd 146 = (12, 0, 0) from rfl) (by decide)) (sh_12 rfl _ _) rfl (Ci_and2 (q_X12_feed (x := x1) ⟨by omega, by omega⟩ (x1 := x2) ⟨by omega, by omega⟩ (x2 := x3) ⟨by omega, by omega⟩ (x3 := x4) ⟨by omega, by omega⟩ (x4 := x5) ⟨by omega, by omega⟩ hJ4a.1.2.1) (t_feed hJ4a.1.2.2.2.2.2 hJ4a.1.2.2.2.1 (z1 := x1) (z2 := x2) (z3 := x3) (z4 := x4) (z5 := x5)) (by decide) (by decide)) lgv_L_17 lhv_X12_feed ⟨(Nat.le_of_ble_eq_true rfl), (Nat.le_of_ble_eq_true rfl)⟩ hl.1 rfl (Nat.le_of_ble_eq_true rfl) ⟨(Nat.le_of_ble_eq_true rfl), (Nat.le_of_ble_eq_true rfl)⟩ ldL_law_220 (fun r5 N6 H locs hp w => ?_)
    obtain ⟨hp, M2N6, hAN6, hqN6⟩ := hp
    obtain ⟨z7, erz7, bz7, hIN6, hFN6⟩ := hp
    subst erz7
    rcases hqN6 with ⟨hcN6, _, eMN6⟩ | ⟨hcN6, _, hTN6, _⟩
    · have hJ8a := Jg.r hJ4a hIN6 hFN6 (fun b9 k9 h => by (try dsimp only at h); rcases h with ⟨rfl, rfl⟩ | rfl <;> first | decide | omega) (isTr.ag (eMN6 ▸ hJ4a.1.2.2.2.1) hAN6.1 hJ4a.1.2.2.2.2.2.1) (hJ4a.1.2.2.2.2.2) (hJ4a.2.2.F hFN6 (fun k9 => by first | decide | (dsimp only; first | done | decide | omega) | omega) (fun k9 => by first | decide | (dsimp only; first | done | decide | omega) | omega) (fun k9 => by first | decide | (dsimp only; first | done | decide | omega) | omega) (by first | decide | (dsimp only; first | done | decide | omega) | omega) (by first | decide | (dsimp only; first | done | decide | omega) | omega))
      refine lv_pop hx hb ldL_law_223 rfl ?_
      refine lv_goto (tgt := 1065) hx hb ldL_law_224 (by decide) ?_
      exact kk _ _ _ (Jx.of hJ8a rfl (by omega) rfl rfl rfl (alF.e hb1 hb2) hHG) w
    · exact False.elim (by omega)
  · have hJ4b := Jg.c hJ hIN2 hFN2 (fun b9 k9 h => by (try dsimp only at h); rcases h with ⟨rfl, rfl⟩ | rfl <;> first | decide | omega) (isTc.ag hTN2 hAN2.1 hcN2) (⟨hcN2, ap20_ok hJ.1.2.2.2.2.1.2⟩) (CS.tape hJ.2.1 hFN2 (fun b9 k9 h => by (try dsimp only at h); rcases h with ⟨rfl, rfl⟩ | rfl <;> first | decide | omega))
    refine lv_pop hx hb ldL_law_193 rfl ?_
    refine lv_aload_n hx hb ldL_law_194 rfl (lv_at hl 1 rfl) ?_
    refine lv_aload_n hx hb ldL_law_195 rfl (lv_at hl 3 rfl) ?_
    refine lv_iload_n hx hb ldL_law_196 rfl (lv_at hl 0 rfl) ?_
    refine lv_iconst (v := zI 1) hx hb ldL_law_197 rfl ?_
    refine z_iadd (z := (i : Int) + 1) hx hb ldL_law_198 (by omega) ?_
    refine va_sld hx hb hX hbl hbA w.2.2.1 (vpi hix1.1 (by rw [hix1.2]; omega)) ldL_law_199 ?_
    refine r_val ((congrArg xs hix1.2).trans ex1) ?_
    refine lv_aload_n hx hb ldL_law_200 rfl (lv_at hl 3 rfl) ?_
    refine lv_iload_n hx hb ldL_law_201 rfl (lv_at hl 0 rfl) ?_
    refine lv_iconst (v := zI 2) hx hb ldL_law_202 rfl ?_
    refine z_iadd (z := (i : Int) + 2) hx hb ldL_law_203 (by omega) ?_
    refine va_sld hx hb hX hbl hbA w.2.2.1 (vpi hix2.1 (by rw [hix2.2]; omega)) ldL_law_204 ?_
    refine r_val ((congrArg xs hix2.2).trans ex2) ?_
    refine lv_aload_n hx hb ldL_law_205 rfl (lv_at hl 3 rfl) ?_
    refine lv_iload_n hx hb ldL_law_206 rfl (lv_at hl 0 rfl) ?_
    refine lv_iconst (v := zI 3) hx hb ldL_law_207 rfl ?_
    refine z_iadd (z := (i : Int) + 3) hx hb ldL_law_208 (by omega) ?_
    refine va_sld hx hb hX hbl hbA w.2.2.1 (vpi hix3.1 (by rw [hix3.2]; omega)) ldL_law_209 ?_
    refine r_val ((congrArg xs hix3.2).trans ex3) ?_
    refine lv_aload_n hx hb ldL_law_210 rfl (lv_at hl 3 rfl) ?_
    refine lv_iload_n hx hb ldL_law_211 rfl (lv_at hl 0 rfl) ?_
    refine lv_iconst (v := zI 4) hx hb ldL_law_212 rfl ?_
    refine z_iadd (z := (i : Int) + 4) hx hb ldL_law_213 (by omega) ?_
    refine va_sld hx hb hX hbl hbA w.2.2.1 (vpi hix4.1 (by rw [hix4.2]; omega)) ldL_law_214 ?_
    refine r_val ((congrArg xs hix4.2).trans ex4) ?_
    refine lv_aload_n hx hb ldL_law_215 rfl (lv_at hl 3 rfl) ?_
    refine lv_iload_n hx hb ldL_law_216 rfl (lv_at hl 0 rfl) ?_
    refine lv_iconst (v := zI 5) hx hb ldL_law_217 rfl ?_
    refine z_iadd (z := (i : Int) + 5) hx hb ldL_law_218 (by omega) ?_
    refine va_sld hx hb hX hbl hbA w.2.2.1 (vpi hix5.1 (by rw [hix5.2]; omega)) ldL_law_219 ?_
    refine r_val ((congrArg xs hix5.2).trans ex5) ?_
    refine k_Vi F w (As := [.int (zI x1), .int (zI x2), .int (zI x3), .int (zI x4), .int (zI x5)]) (rest := []) (a := 146) (kd_lt (a := 146) (show kd 146 = (12, 0, 0) from rfl) (by decide)) (sh_12 rfl _ _) rfl (Ci_and2 (q_X12_feed (x := x1) ⟨by omega, by omega⟩ (x1 := x2) ⟨by omega, by omega⟩ (x2 := x3) ⟨by omega, by omega⟩ (x3 := x4) ⟨by omega, by omega⟩ (x4 := x5) ⟨by omega, by omega⟩ hJ4b.1.2.1) (t_feed hJ4b.1.2.2.2.2.2 hJ4b.1.2.2.2.1 (z1 := x1) (z2 := x2) (z3 := x3) (z4 := x4) (z5 := x5)) (by decide) (by decide)) lgv_L_17 lhv_X12_feed ⟨(Nat.le_of_ble_eq_true rfl), (Nat.le_of_ble_eq_true rfl)⟩ hl.1 rfl (Nat.le_of_ble_eq_true rfl) ⟨(Nat.le_of_ble_eq_true rfl), (Nat.le_of_ble_eq_true rfl)⟩ ldL_law_220 (fun r9 N10 H locs hp w => ?_)
    obtain ⟨hp, M2N10, hAN10, hqN10⟩ := hp
    obtain ⟨z11, erz11, bz11, hIN10, hFN10⟩ := hp
    subst erz11
    rcases hqN10 with ⟨hcN10, _, eMN10⟩ | ⟨hcN10, _, hTN10, _⟩
    · exact False.elim (by omega)
    · have hJ12b := Jg.r hJ4b hIN10 hFN10 (fun b9 k9 h => by (try dsimp only at h); rcases h with ⟨rfl, rfl⟩ | rfl <;> first | decide | omega) (isTr.ag hTN10 hAN10.1 hcN10) (⟨hcN10, ap20_ok hJ4b.1.2.2.2.2.2.2⟩) (hJ4b.2.2.F hFN10 (fun k9 => by first | decide | (dsimp only; first | done | decide | omega) | omega) (fun k9 => by first | decide | (dsimp only; first | done | decide | omega) | omega) (fun k9 => by first | decide | (dsimp only; first | done | decide | omega) | omega) (by first | decide | (dsimp only; first | done | decide | omega) | omega) (by first | decide | (dsimp only; first | done | decide | omega) | omega))
      refine lv_pop hx hb ldL_law_223 rfl ?_
      refine lv_goto (tgt := 1065) hx hb ldL_law_224 (by decide) ?_
      exact kk _ _ _ (Jx.of hJ12b rfl (by omega) rfl rfl rfl (alF.e hb1 hb2) hHG) w
theorem ldL_law_227 : decode cL_law 227 = .ok (.aload_n 1, 1) := dq0 kk_43 (by decide +kernel)
theorem ldL_law_228 : decode cL_law 228 = .ok (.aload_n 0, 1) := dq0 kk_42 (by decide +kernel)
theorem ldL_law_229 : decode cL_law 229 = .ok (.iload_n 3, 1) := dq0 kk_29 (by decide +kernel)
theorem ldL_law_230 : decode cL_law 230 = .ok (.iconst 1, 1) := dq0 kk_4 (by decide +kernel)
theorem ldL_law_231 : decode cL_law 231 = .ok (.iadd, 1) := dq0 kk_96 (by decide +kernel)
theorem ldL_law_232 : decode cL_law 232 = .ok (.iaload, 1) := dq0 kk_46 (by decide +kernel)
theorem ldL_law_233 : decode cL_law 233 = .ok (.invokevirtual 18, 3) := dqV kk_182 (by decide +kernel)
theorem ltk_X11_back : Cond.code yX11_back cX11_back 2 (some .int) ∈ TB := tbm (tc2 (List.mem_of_getElem? (i := 99) rfl)) rfl
theorem lgc_X11_back : GoodIn TB (cw yX11_back cX11_back 2 (some .int)) := goodIn_c2 ltk_X11_back
theorem ltb_8 : Cond.methodLink "ToneLinesLaw" 18 yX11_back ∈ TB := tbm (tc2 (List.mem_of_getElem? (i := 96) rfl)) rfl
theorem ltb_9 : Cond.instanceMethod yX11_back ∈ TB := tbm (tc2 (List.mem_of_getElem? (i := 97) rfl)) rfl
theorem ltb_10 : Cond.selects "ToneLines" yX11_back yX11_back ∈ TB := tbm (tc2 (List.mem_of_getElem? (i := 98) rfl)) rfl
theorem lgv_L_18 : GoodIn TB (wsV RL 18 RX11 yX11_back (cw yX11_back cX11_back 2 (some .int))) := goodIn_4 ltb_8 ltb_9 ltb_10 ltb_3 lgc_X11_back
theorem lhv_X11_back : yX11_back.cls = RX11 ∧ yX11_back.cls ≠ "java/lang/invoke/MethodHandle" ∧ yX11_back.cls ≠ "java/lang/invoke/VarHandle" ∧ (parseMethodDescriptor yX11_back.desc).map (fun d => d.parameters.length) = some 1 := by decide +kernel
theorem ldL_law_236 : decode cL_law 236 = .ok (.pop, 1) := dq0 kk_87 (by decide +kernel)
theorem ldL_law_237 : decode cL_law 237 = .ok (.aload_n 2, 1) := dq0 kk_44 (by decide +kernel)
theorem ldL_law_238 : decode cL_law 238 = .ok (.aload_n 0, 1) := dq0 kk_42 (by decide +kernel)
theorem ldL_law_239 : decode cL_law 239 = .ok (.iload_n 3, 1) := dq0 kk_29 (by decide +kernel)
theorem ldL_law_240 : decode cL_law 240 = .ok (.iconst 1, 1) := dq0 kk_4 (by decide +kernel)
theorem ldL_law_241 : decode cL_law 241 = .ok (.iadd, 1) := dq0 kk_96 (by decide +kernel)
theorem ldL_law_242 : decode cL_law 242 = .ok (.iaload, 1) := dq0 kk_46 (by decide +kernel)
theorem ldL_law_243 : decode cL_law 243 = .ok (.invokevirtual 22, 3) := dqV kk_182 (by decide +kernel)
theorem ltk_X12_back : Cond.code yX12_back cX12_back 2 (some .int) ∈ TB := tbm (tc5 (List.mem_of_getElem? (i := 145) rfl)) rfl
theorem lgc_X12_back : GoodIn TB (cw yX12_back cX12_back 2 (some .int)) := goodIn_c2 ltk_X12_back
theorem ltb_11 : Cond.methodLink "ToneLinesLaw" 22 yX12_back ∈ TB := tbm (tc5 (List.mem_of_getElem? (i := 142) rfl)) rfl
theorem ltb_12 : Cond.instanceMethod yX12_back ∈ TB := tbm (tc5 (List.mem_of_getElem? (i := 143) rfl)) rfl
theorem ltb_13 : Cond.selects "ToneLinesModel" yX12_back yX12_back ∈ TB := tbm (tc5 (List.mem_of_getElem? (i := 144) rfl)) rfl
theorem lgv_L_22 : GoodIn TB (wsV RL 22 RX12 yX12_back (cw yX12_back cX12_back 2 (some .int))) := goodIn_4 ltb_11 ltb_12 ltb_13 ltb_7 lgc_X12_back
theorem lhv_X12_back : yX12_back.cls = RX12 ∧ yX12_back.cls ≠ "java/lang/invoke/MethodHandle" ∧ yX12_back.cls ≠ "java/lang/invoke/VarHandle" ∧ (parseMethodDescriptor yX12_back.desc).map (fun d => d.parameters.length) = some 1 := by decide +kernel
theorem ldL_law_246 : decode cL_law 246 = .ok (.pop, 1) := dq0 kk_87 (by decide +kernel)
theorem ldL_law_247 : decode cL_law 247 = .ok (.goto 818, 3) := dqT kk_167 (by decide +kernel)
set_option maxRecDepth 8000 in
set_option maxHeartbeats 1000000 in
theorem lc_1 {p : Program} {l : Launch} {e : Env} {s : State} {m : MethodId} {below : List Frame} {meth : Method} {c : Code} {D : va_G} {B b L : Nat} {cy : Nat → ClassId} {H : Heap} {locs : List Loc} {ls : Array Slot} {xs : Nat → Int32} {M : Mem} {Q : State → Prop} {i : Nat} (F : CallFix p m c code 4 s #[Value.ref b] TB RL) (hX : va_X b L xs s s.heap) (hbl : b < s.heap.size) (hbA : ¬ B ≤ b) (hi : i + 6 ≤ L) (hL : L ≤ 3072) (hJx : Jx M) (w : Wd D B cy s s.heap M H locs) (hl : lv_has ls 4 [(3, .int (zI (i : Int))), (2, .ref (B + 146)), (1, .ref (B + 0)), (0, .ref b)]) (kk : ∀ (M1 : Mem) (H1 : Heap) (locs1 : List Loc), Jx M1 → Wd D B cy s s.heap M1 H1 locs1 → W p l e room_1 s m #[Value.ref b] below meth c H1 locs1 159 13107 Q (F0 m 1065 ls [])) : W p l e room_1 s m #[Value.ref b] below meth c H locs 159 13107 Q (F0 m 227 ls []) := by
  have hx := F.1
  have hb := F.2.1
  obtain ⟨T, tn, Ps, mr, xw, Hs, kw, yw, Gs, hJ, hxy, hHG⟩ := hJx
  obtain ⟨qw, hv, ed, hv2, ed2, o, rfl, rfl, hb1, hb2⟩ := hxy.i
  have hta := hJ.1.2.2.2.2.1.1
  have hix1 := ix_z (z := (i : Int) + 1) (by omega) (by omega)
  obtain ⟨x1, bx1, ex1⟩ := rg_ex (xs ((i : Int) + 1).toNat)
  refine lv_aload_n hx hb ldL_law_227 rfl (lv_at hl 2 rfl) ?_
  refine lv_aload_n hx hb ldL_law_228 rfl (lv_at hl 3 rfl) ?_
  refine lv_iload_n hx hb ldL_law_229 rfl (lv_at hl 0 rfl) ?_
  refine lv_iconst (v := zI 1) hx hb ldL_law_230 rfl ?_
  refine z_iadd (z := (i : Int) + 1) hx hb ldL_law_231 (by omega) ?_
  refine va_sld hx hb hX hbl hbA w.2.2.1 (vpi hix1.1 (by rw [hix1.2]; omega)) ldL_law_232 ?_
  refine r_val ((congrArg xs hix1.2).trans ex1) ?_
  refine k_Vi F w (As := [.int (zI x1)]) (rest := []) (a := 0) (kd_lt (a := 0) (show kd 0 = (11, 0, 0) from rfl) (by decide)) (sh_11 rfl _ _) rfl (x_X11_back (x := x1) ⟨by omega, by omega⟩ (ts := (tn : Nat)) hJ.1.2.2.1.1 (by have h9 := hJ.1.2.2.2.2.1.1; omega) hJ.1.1) lgv_L_18 lhv_X11_back ⟨(Nat.le_of_ble_eq_true rfl), (Nat.le_of_ble_eq_true rfl)⟩ hl.1 rfl (Nat.le_of_ble_eq_true rfl) ⟨(Nat.le_of_ble_eq_true rfl), (Nat.le_of_ble_eq_true rfl)⟩ ldL_law_233 (fun r1 N2 H locs hp w => ?_)
  obtain ⟨z3, rfl, bz3, ⟨nz3, enz3, xz3⟩, hIN2, hFN2⟩ := hp
  have hmz3 : 0 ≤ nz3 ∧ nz3 ≤ ((tn : Nat) : Int) := by omega
  have hJ4 := Jg.c hJ hIN2 hFN2 (fun b9 k9 h => by (try dsimp only at h); rcases h with ⟨rfl, rfl⟩ <;> first | decide | omega) (isTc.B (S := _) hJ.1.2.2.1 hFN2 (fun k9 => by first | decide | (dsimp only; first | done | decide | omega) | omega) enz3 hmz3) (okT.le hJ.1.2.2.2.2.1 (by have h9 := hJ.1.2.2.2.2.1.1; omega)) (CS.tape hJ.2.1 hFN2 (fun b9 k9 h => by (try dsimp only at h); rcases h with ⟨rfl, rfl⟩ <;> first | decide | omega))
  refine lv_pop hx hb ldL_law_236 rfl ?_
  refine lv_aload_n hx hb ldL_law_237 rfl (lv_at hl 1 rfl) ?_
  refine lv_aload_n hx hb ldL_law_238 rfl (lv_at hl 3 rfl) ?_
  refine lv_iload_n hx hb ldL_law_239 rfl (lv_at hl 0 rfl) ?_
  refine lv_iconst (v := zI 1) hx hb ldL_law_240 rfl ?_
  refine z_iadd (z := (i : Int) + 1) hx hb ldL_law_241 (by omega) ?_
  refine va_sld hx hb hX hbl hbA w.2.2.1 (vpi hix1.1 (by rw [hix1.2]; omega)) ldL_law_242 ?_
  refine r_val ((congrArg xs hix1.2).trans ex1) ?_
  refine k_Vi F w (As := [.int (zI x1)]) (rest := []) (a := 146) (kd_lt (a := 146) (show kd 146 = (12, 0, 0) from rfl) (by decide)) (sh_12 rfl _ _) rfl (x_X12_back (x := x1) ⟨by omega, by omega⟩ (ts := (tn : Nat)) hJ4.1.2.2.2.1.1 (by have h9 := hJ4.1.2.2.2.2.2.1; omega) hJ4.1.2.1) lgv_L_22 lhv_X12_back ⟨(Nat.le_of_ble_eq_true rfl), (Nat.le_of_ble_eq_true rfl)⟩ hl.1 rfl (Nat.le_of_ble_eq_true rfl) ⟨(Nat.le_of_ble_eq_true rfl), (Nat.le_of_ble_eq_true rfl)⟩ ldL_law_243 (fun r5 N6 H locs hp w => ?_)
  obtain ⟨z7, rfl, bz7, ⟨nz7, enz7, xz7⟩, hIN6, hFN6⟩ := hp
  have hmz7 : 0 ≤ nz7 ∧ nz7 ≤ ((tn : Nat) : Int) := by omega
  have hJ8 := Jg.r hJ4 hIN6 hFN6 (fun b9 k9 h => by (try dsimp only at h); rcases h with ⟨rfl, rfl⟩ <;> first | decide | omega) (isTr.B (S := _) hJ4.1.2.2.2.1 hFN6 (fun k9 => by first | decide | (dsimp only; first | done | decide | omega) | omega) enz7 hmz7) (okT.le hJ4.1.2.2.2.2.2 (by have h9 := hJ4.1.2.2.2.2.2.1; omega)) (hJ4.2.2.F hFN6 (fun k9 => by first | decide | (dsimp only; first | done | decide | omega) | omega) (fun k9 => by first | decide | (dsimp only; first | done | decide | omega) | omega) (fun k9 => by first | decide | (dsimp only; first | done | decide | omega) | omega) (by first | decide | (dsimp only; first | done | decide | omega) | omega) (by first | decide | (dsimp only; first | done | decide | omega) | omega))
  refine lv_pop hx hb ldL_law_246 rfl ?_
  refine lv_goto (tgt := 1065) hx hb ldL_law_247 (by decide) ?_
  exact kk _ _ _ (Jx.of hJ8 rfl (by omega) rfl rfl rfl (alF.e hb1 hb2) hHG) w
theorem ldL_law_250 : decode cL_law 250 = .ok (.aload_n 1, 1) := dq0 kk_43 (by decide +kernel)
theorem ldL_law_251 : decode cL_law 251 = .ok (.invokevirtual 23, 3) := dqV kk_182 (by decide +kernel)
theorem ltk_X11_word : Cond.code yX11_word cX11_word 2 (some .int) ∈ TB := tbm (tc2 (List.mem_of_getElem? (i := 103) rfl)) rfl
theorem lgc_X11_word : GoodIn TB (cw yX11_word cX11_word 2 (some .int)) := goodIn_c2 ltk_X11_word
theorem ltb_14 : Cond.methodLink "ToneLinesLaw" 23 yX11_word ∈ TB := tbm (tc2 (List.mem_of_getElem? (i := 100) rfl)) rfl
theorem ltb_15 : Cond.instanceMethod yX11_word ∈ TB := tbm (tc2 (List.mem_of_getElem? (i := 101) rfl)) rfl
theorem ltb_16 : Cond.selects "ToneLines" yX11_word yX11_word ∈ TB := tbm (tc2 (List.mem_of_getElem? (i := 102) rfl)) rfl
theorem lgv_L_23 : GoodIn TB (wsV RL 23 RX11 yX11_word (cw yX11_word cX11_word 2 (some .int))) := goodIn_4 ltb_14 ltb_15 ltb_16 ltb_3 lgc_X11_word
theorem lhv_X11_word : yX11_word.cls = RX11 ∧ yX11_word.cls ≠ "java/lang/invoke/MethodHandle" ∧ yX11_word.cls ≠ "java/lang/invoke/VarHandle" ∧ (parseMethodDescriptor yX11_word.desc).map (fun d => d.parameters.length) = some 0 := by decide +kernel
theorem ldL_law_254 : decode cL_law 254 = .ok (.pop, 1) := dq0 kk_87 (by decide +kernel)
theorem ldL_law_255 : decode cL_law 255 = .ok (.aload_n 2, 1) := dq0 kk_44 (by decide +kernel)
theorem ldL_law_256 : decode cL_law 256 = .ok (.invokevirtual 27, 3) := dqV kk_182 (by decide +kernel)
theorem ltk_X12_word : Cond.code yX12_word cX12_word 2 (some .int) ∈ TB := tbm (tc5 (List.mem_of_getElem? (i := 152) rfl)) rfl
theorem lgc_X12_word : GoodIn TB (cw yX12_word cX12_word 2 (some .int)) := goodIn_c2 ltk_X12_word
theorem ltb_17 : Cond.methodLink "ToneLinesLaw" 27 yX12_word ∈ TB := tbm (tc5 (List.mem_of_getElem? (i := 149) rfl)) rfl
theorem ltb_18 : Cond.instanceMethod yX12_word ∈ TB := tbm (tc5 (List.mem_of_getElem? (i := 150) rfl)) rfl
theorem ltb_19 : Cond.selects "ToneLinesModel" yX12_word yX12_word ∈ TB := tbm (tc5 (List.mem_of_getElem? (i := 151) rfl)) rfl
theorem lgv_L_27 : GoodIn TB (wsV RL 27 RX12 yX12_word (cw yX12_word cX12_word 2 (some .int))) := goodIn_4 ltb_17 ltb_18 ltb_19 ltb_7 lgc_X12_word
theorem lhv_X12_word : yX12_word.cls = RX12 ∧ yX12_word.cls ≠ "java/lang/invoke/MethodHandle" ∧ yX12_word.cls ≠ "java/lang/invoke/VarHandle" ∧ (parseMethodDescriptor yX12_word.desc).map (fun d => d.parameters.length) = some 0 := by decide +kernel
theorem ldL_law_259 : decode cL_law 259 = .ok (.pop, 1) := dq0 kk_87 (by decide +kernel)
theorem ldL_law_260 : decode cL_law 260 = .ok (.goto 805, 3) := dqT kk_167 (by decide +kernel)
set_option maxRecDepth 8000 in
set_option maxHeartbeats 1000000 in
theorem lc_2 {p : Program} {l : Launch} {e : Env} {s : State} {m : MethodId} {below : List Frame} {meth : Method} {c : Code} {D : va_G} {B b L : Nat} {cy : Nat → ClassId} {H : Heap} {locs : List Loc} {ls : Array Slot} {xs : Nat → Int32} {M : Mem} {Q : State → Prop} {i : Nat} (F : CallFix p m c code 4 s #[Value.ref b] TB RL) (hX : va_X b L xs s s.heap) (hbl : b < s.heap.size) (hbA : ¬ B ≤ b) (hi : i + 6 ≤ L) (hL : L ≤ 3072) (hJx : Jx M) (w : Wd D B cy s s.heap M H locs) (hl : lv_has ls 4 [(3, .int (zI (i : Int))), (2, .ref (B + 146)), (1, .ref (B + 0)), (0, .ref b)]) (kk : ∀ (M1 : Mem) (H1 : Heap) (locs1 : List Loc), Jx M1 → Wd D B cy s s.heap M1 H1 locs1 → W p l e room_1 s m #[Value.ref b] below meth c H1 locs1 159 13107 Q (F0 m 1065 ls [])) : W p l e room_1 s m #[Value.ref b] below meth c H locs 159 13107 Q (F0 m 250 ls []) := by
  have hx := F.1
  have hb := F.2.1
  obtain ⟨T, tn, Ps, mr, xw, Hs, kw, yw, Gs, hJ, hxy, hHG⟩ := hJx
  obtain ⟨qw, hv, ed, hv2, ed2, o, rfl, rfl, hb1, hb2⟩ := hxy.i
  have hta := hJ.1.2.2.2.2.1.1
  refine lv_aload_n hx hb ldL_law_250 rfl (lv_at hl 2 rfl) ?_
  obtain ⟨rd9, hC9⟩ := hJ.2.1
  refine k_Vi F w (As := []) (rest := []) (a := 0) (kd_lt (a := 0) (show kd 0 = (11, 0, 0) from rfl) (by decide)) (sh_11 rfl _ _) rfl (Ci_and2 (q_X11_word  hJ.1.1) (g_word hJ.1.2.2.2.2.1 hJ.1.2.2.1 hC9) (by decide) (by decide)) lgv_L_23 lhv_X11_word ⟨(Nat.le_of_ble_eq_true rfl), (Nat.le_of_ble_eq_true rfl)⟩ hl.1 rfl (Nat.le_of_ble_eq_true rfl) ⟨(Nat.le_of_ble_eq_true rfl), (Nat.le_of_ble_eq_true rfl)⟩ ldL_law_251 (fun r1 N2 H locs hp w => ?_)
  obtain ⟨hp, M2N2, hAN2, hqN2⟩ := hp
  obtain ⟨z3, erz3, bz3, hIN2, hFN2⟩ := hp
  subst erz3
  obtain ⟨xwN2, kwN2, hKN2, hPN2⟩ := word_c hqN2.2.1 hAN2
  have hJ4 := Jg.c hJ hIN2 hFN2 (fun b9 k9 h => by (try dsimp only at h); rcases h with ⟨rfl, rfl⟩ | ⟨rfl, rfl⟩ | ⟨rfl, rfl⟩ | ⟨rfl, rfl⟩ | ⟨rfl, rfl⟩ | rfl | rfl | rfl | rfl | rfl | rfl | rfl <;> first | decide | omega) (isTc_0 (T := T) (hAN2.1.2.1.trans hqN2.1)) (okT.le hJ.1.2.2.2.2.1 (by decide)) (hKN2)
  refine lv_pop hx hb ldL_law_254 rfl ?_
  refine lv_aload_n hx hb ldL_law_255 rfl (lv_at hl 1 rfl) ?_
  refine k_Vi F w (As := []) (rest := []) (a := 146) (kd_lt (a := 146) (show kd 146 = (12, 0, 0) from rfl) (by decide)) (sh_12 rfl _ _) rfl (Ci_and2 (q_X12_word  hJ4.1.2.1) (m_word hJ4.1.2.2.2.2.2 hJ4.1.2.2.2.1 hJ4.2.2) (by decide) (by decide)) lgv_L_27 lhv_X12_word ⟨(Nat.le_of_ble_eq_true rfl), (Nat.le_of_ble_eq_true rfl)⟩ hl.1 rfl (Nat.le_of_ble_eq_true rfl) ⟨(Nat.le_of_ble_eq_true rfl), (Nat.le_of_ble_eq_true rfl)⟩ ldL_law_256 (fun r5 N6 H locs hp w => ?_)
  obtain ⟨hp, M2N6, hAN6, hqN6⟩ := hp
  obtain ⟨z7, erz7, bz7, hIN6, hFN6⟩ := hp
  subst erz7
  obtain ⟨xwN6, kwN6, hKN6, hPN6⟩ := word_r hqN6.2.1 hAN6
  have hJ8 := Jg.r hJ4 hIN6 hFN6 (fun b9 k9 h => by (try dsimp only at h); rcases h with ⟨rfl, rfl⟩ | ⟨rfl, rfl⟩ | ⟨rfl, rfl⟩ | ⟨rfl, rfl⟩ | rfl | rfl <;> first | decide | omega) (isTr_0 (T := T) (hAN6.1.2.2.2.2.trans hqN6.1)) (okT.le hJ4.1.2.2.2.2.2 (by decide)) (hKN6)
  have hal := WP.al (alF.e hb1 hb2) hHG hPN2 hPN6
  refine lv_pop hx hb ldL_law_259 rfl ?_
  refine lv_goto (tgt := 1065) hx hb ldL_law_260 (by decide) ?_
  exact kk _ _ _ (Jx.of hJ8 rfl (by omega) rfl rfl hal.2.1 hal.1 hal.2.2) w
theorem ldL_law_263 : decode cL_law 263 = .ok (.aload_n 1, 1) := dq0 kk_43 (by decide +kernel)
theorem ldL_law_264 : decode cL_law 264 = .ok (.invokevirtual 28, 3) := dqV kk_182 (by decide +kernel)
theorem ltk_X11_rules : Cond.code yX11_rules cX11_rules 2 (some .int) ∈ TB := tbm (tc3 (List.mem_of_getElem? (i := 36) rfl)) rfl
theorem lgc_X11_rules : GoodIn TB (cw yX11_rules cX11_rules 2 (some .int)) := goodIn_c2 ltk_X11_rules
theorem ltb_20 : Cond.methodLink "ToneLinesLaw" 28 yX11_rules ∈ TB := tbm (tc3 (List.mem_of_getElem? (i := 33) rfl)) rfl
theorem ltb_21 : Cond.instanceMethod yX11_rules ∈ TB := tbm (tc3 (List.mem_of_getElem? (i := 34) rfl)) rfl
theorem ltb_22 : Cond.selects "ToneLines" yX11_rules yX11_rules ∈ TB := tbm (tc3 (List.mem_of_getElem? (i := 35) rfl)) rfl
theorem lgv_L_28 : GoodIn TB (wsV RL 28 RX11 yX11_rules (cw yX11_rules cX11_rules 2 (some .int))) := goodIn_4 ltb_20 ltb_21 ltb_22 ltb_3 lgc_X11_rules
theorem lhv_X11_rules : yX11_rules.cls = RX11 ∧ yX11_rules.cls ≠ "java/lang/invoke/MethodHandle" ∧ yX11_rules.cls ≠ "java/lang/invoke/VarHandle" ∧ (parseMethodDescriptor yX11_rules.desc).map (fun d => d.parameters.length) = some 0 := by decide +kernel
theorem ldL_law_267 : decode cL_law 267 = .ok (.pop, 1) := dq0 kk_87 (by decide +kernel)
theorem ldL_law_268 : decode cL_law 268 = .ok (.aload_n 2, 1) := dq0 kk_44 (by decide +kernel)
theorem ldL_law_269 : decode cL_law 269 = .ok (.invokevirtual 31, 3) := dqV kk_182 (by decide +kernel)
theorem ltk_X12_rules : Cond.code yX12_rules cX12_rules 3 (some .int) ∈ TB := tbm (tc5 (List.mem_of_getElem? (i := 201) rfl)) rfl
theorem lgc_X12_rules : GoodIn TB (cw yX12_rules cX12_rules 3 (some .int)) := goodIn_c2 ltk_X12_rules
theorem ltb_23 : Cond.methodLink "ToneLinesLaw" 31 yX12_rules ∈ TB := tbm (tc5 (List.mem_of_getElem? (i := 198) rfl)) rfl
theorem ltb_24 : Cond.instanceMethod yX12_rules ∈ TB := tbm (tc5 (List.mem_of_getElem? (i := 199) rfl)) rfl
theorem ltb_25 : Cond.selects "ToneLinesModel" yX12_rules yX12_rules ∈ TB := tbm (tc5 (List.mem_of_getElem? (i := 200) rfl)) rfl
theorem lgv_L_31 : GoodIn TB (wsV RL 31 RX12 yX12_rules (cw yX12_rules cX12_rules 3 (some .int))) := goodIn_4 ltb_23 ltb_24 ltb_25 ltb_7 lgc_X12_rules
theorem lhv_X12_rules : yX12_rules.cls = RX12 ∧ yX12_rules.cls ≠ "java/lang/invoke/MethodHandle" ∧ yX12_rules.cls ≠ "java/lang/invoke/VarHandle" ∧ (parseMethodDescriptor yX12_rules.desc).map (fun d => d.parameters.length) = some 0 := by decide +kernel
theorem ldL_law_272 : decode cL_law 272 = .ok (.pop, 1) := dq0 kk_87 (by decide +kernel)
theorem ldL_law_273 : decode cL_law 273 = .ok (.goto 792, 3) := dqT kk_167 (by decide +kernel)
set_option maxRecDepth 8000 in
set_option maxHeartbeats 1000000 in
theorem lc_3 {p : Program} {l : Launch} {e : Env} {s : State} {m : MethodId} {below : List Frame} {meth : Method} {c : Code} {D : va_G} {B b L : Nat} {cy : Nat → ClassId} {H : Heap} {locs : List Loc} {ls : Array Slot} {xs : Nat → Int32} {M : Mem} {Q : State → Prop} {i : Nat} (F : CallFix p m c code 4 s #[Value.ref b] TB RL) (hX : va_X b L xs s s.heap) (hbl : b < s.heap.size) (hbA : ¬ B ≤ b) (hi : i + 6 ≤ L) (hL : L ≤ 3072) (hJx : Jx M) (w : Wd D B cy s s.heap M H locs) (hl : lv_has ls 4 [(3, .int (zI (i : Int))), (2, .ref (B + 146)), (1, .ref (B + 0)), (0, .ref b)]) (kk : ∀ (M1 : Mem) (H1 : Heap) (locs1 : List Loc), Jx M1 → Wd D B cy s s.heap M1 H1 locs1 → W p l e room_1 s m #[Value.ref b] below meth c H1 locs1 159 13107 Q (F0 m 1065 ls [])) : W p l e room_1 s m #[Value.ref b] below meth c H locs 159 13107 Q (F0 m 263 ls []) := by
  have hx := F.1
  have hb := F.2.1
  obtain ⟨T, tn, Ps, mr, xw, Hs, kw, yw, Gs, hJ, hxy, hHG⟩ := hJx
  obtain ⟨qw, hv, ed, hv2, ed2, o, rfl, rfl, hb1, hb2⟩ := hxy.i
  have hta := hJ.1.2.2.2.2.1.1
  refine lv_aload_n hx hb ldL_law_263 rfl (lv_at hl 2 rfl) ?_
  obtain ⟨rd9, hC9⟩ := hJ.2.1
  refine k_Vi F w (As := []) (rest := []) (a := 0) (kd_lt (a := 0) (show kd 0 = (11, 0, 0) from rfl) (by decide)) (sh_11 rfl _ _) rfl (Ci_and2 (q_X11_rules  hJ.1.1) (s_X11_rules hJ.1.2.2.2.2.1 hJ.1.2.2.1) (by decide) (by decide)) lgv_L_28 lhv_X11_rules ⟨(Nat.le_of_ble_eq_true rfl), (Nat.le_of_ble_eq_true rfl)⟩ hl.1 rfl (Nat.le_of_ble_eq_true rfl) ⟨(Nat.le_of_ble_eq_true rfl), (Nat.le_of_ble_eq_true rfl)⟩ ldL_law_264 (fun r1 N2 H locs hp w => ?_)
  obtain ⟨hp, M2N2, hAN2, hqN2⟩ := hp
  obtain ⟨z3, erz3, bz3, hIN2, hFN2⟩ := hp
  subst erz3
  obtain ⟨P1N2, m1N2, hKN2, hPN2⟩ := rules_c hC9 hqN2.2.2 hAN2
  have hJ4 := Jg.c hJ hIN2 hFN2 (fun b9 k9 h => by (try dsimp only at h); rcases h with ⟨rfl, rfl⟩ | ⟨rfl, rfl⟩ | ⟨rfl, rfl⟩ | ⟨rfl, rfl⟩ | ⟨rfl, rfl⟩ | ⟨rfl, rfl⟩ | ⟨rfl, rfl⟩ | ⟨rfl, rfl⟩ | rfl | ⟨q1, q2⟩ | ⟨q1, q2⟩ <;> first | decide | omega) (isTc_0 (T := T) (hAN2.1.2.1.trans hqN2.2.1)) (okT.le hJ.1.2.2.2.2.1 (by decide)) (hKN2)
  refine lv_pop hx hb ldL_law_267 rfl ?_
  refine lv_aload_n hx hb ldL_law_268 rfl (lv_at hl 1 rfl) ?_
  refine k_Vi F w (As := []) (rest := []) (a := 146) (kd_lt (a := 146) (show kd 146 = (12, 0, 0) from rfl) (by decide)) (sh_12 rfl _ _) rfl (Ci_and2 (q_X12_rules  hJ4.1.2.1) (t_rules hJ4.1.2.2.2.2.2 hJ4.1.2.2.2.1 (isWd_of hJ4.1.2.1)) (by decide) (by decide)) lgv_L_31 lhv_X12_rules ⟨(Nat.le_of_ble_eq_true rfl), (Nat.le_of_ble_eq_true rfl)⟩ hl.1 rfl (Nat.le_of_ble_eq_true rfl) ⟨(Nat.le_of_ble_eq_true rfl), (Nat.le_of_ble_eq_true rfl)⟩ ldL_law_269 (fun r5 N6 H locs hp w => ?_)
  obtain ⟨hp, M2N6, hAN6, hqN6⟩ := hp
  obtain ⟨z7, erz7, bz7, hIN6, hFN6⟩ := hp
  subst erz7
  obtain ⟨P1N6, m1N6, hKN6, hPN6⟩ := rules_r hJ4.2.2 hqN6.2.2.1 hqN6.2.2.2.1 hqN6.2.2.2.2 hAN6
  have hJ8 := Jg.r hJ4 hIN6 hFN6 (fun b9 k9 h => by (try dsimp only at h); rcases h with ⟨rfl, rfl⟩ | ⟨rfl, rfl⟩ | ⟨rfl, rfl⟩ | ⟨rfl, rfl⟩ | ⟨rfl, rfl⟩ | ⟨rfl, rfl⟩ | ⟨rfl, rfl⟩ | ⟨rfl, rfl⟩ | rfl | rfl | rfl <;> first | decide | omega) (isTr_0 (T := T) (hAN6.1.2.2.2.2.trans hqN6.2.1)) (okT.le hJ4.1.2.2.2.2.2 (by decide)) (hKN6)
  have hal := RP.al hPN2 hPN6
  refine lv_pop hx hb ldL_law_272 rfl ?_
  refine lv_goto (tgt := 1065) hx hb ldL_law_273 (by decide) ?_
  exact kk _ _ _ (Jx.of hJ8 rfl (by omega) hal.1 hal.2 rfl (alF.e hb1 hb2) hHG) w
theorem ldL_law_276 : decode cL_law 276 = .ok (.aload_n 1, 1) := dq0 kk_43 (by decide +kernel)
theorem ldL_law_277 : decode cL_law 277 = .ok (.aload_n 0, 1) := dq0 kk_42 (by decide +kernel)
theorem ldL_law_278 : decode cL_law 278 = .ok (.iload_n 3, 1) := dq0 kk_29 (by decide +kernel)
theorem ldL_law_279 : decode cL_law 279 = .ok (.iconst 1, 1) := dq0 kk_4 (by decide +kernel)
theorem ldL_law_280 : decode cL_law 280 = .ok (.iadd, 1) := dq0 kk_96 (by decide +kernel)
theorem ldL_law_281 : decode cL_law 281 = .ok (.iaload, 1) := dq0 kk_46 (by decide +kernel)
theorem ldL_law_282 : decode cL_law 282 = .ok (.aload_n 0, 1) := dq0 kk_42 (by decide +kernel)
theorem ldL_law_283 : decode cL_law 283 = .ok (.iload_n 3, 1) := dq0 kk_29 (by decide +kernel)
theorem ldL_law_284 : decode cL_law 284 = .ok (.iconst 2, 1) := dq0 kk_5 (by decide +kernel)
theorem ldL_law_285 : decode cL_law 285 = .ok (.iadd, 1) := dq0 kk_96 (by decide +kernel)
theorem ldL_law_286 : decode cL_law 286 = .ok (.iaload, 1) := dq0 kk_46 (by decide +kernel)
theorem ldL_law_287 : decode cL_law 287 = .ok (.invokevirtual 32, 3) := dqV kk_182 (by decide +kernel)
theorem ltk_X11_line : Cond.code yX11_line cX11_line 3 (some .boolean) ∈ TB := tbm (tc3 (List.mem_of_getElem? (i := 136) rfl)) rfl
theorem lgc_X11_line : GoodIn TB (cw yX11_line cX11_line 3 (some .boolean)) := goodIn_c2 ltk_X11_line
theorem ltb_26 : Cond.methodLink "ToneLinesLaw" 32 yX11_line ∈ TB := tbm (tc3 (List.mem_of_getElem? (i := 133) rfl)) rfl
theorem ltb_27 : Cond.instanceMethod yX11_line ∈ TB := tbm (tc3 (List.mem_of_getElem? (i := 134) rfl)) rfl
theorem ltb_28 : Cond.selects "ToneLines" yX11_line yX11_line ∈ TB := tbm (tc3 (List.mem_of_getElem? (i := 135) rfl)) rfl
theorem lgv_L_32 : GoodIn TB (wsV RL 32 RX11 yX11_line (cw yX11_line cX11_line 3 (some .boolean))) := goodIn_4 ltb_26 ltb_27 ltb_28 ltb_3 lgc_X11_line
theorem lhv_X11_line : yX11_line.cls = RX11 ∧ yX11_line.cls ≠ "java/lang/invoke/MethodHandle" ∧ yX11_line.cls ≠ "java/lang/invoke/VarHandle" ∧ (parseMethodDescriptor yX11_line.desc).map (fun d => d.parameters.length) = some 2 := by decide +kernel
theorem ldL_law_290 : decode cL_law 290 = .ok (.pop, 1) := dq0 kk_87 (by decide +kernel)
theorem ldL_law_291 : decode cL_law 291 = .ok (.aload_n 2, 1) := dq0 kk_44 (by decide +kernel)
theorem ldL_law_292 : decode cL_law 292 = .ok (.aload_n 0, 1) := dq0 kk_42 (by decide +kernel)
theorem ldL_law_293 : decode cL_law 293 = .ok (.iload_n 3, 1) := dq0 kk_29 (by decide +kernel)
theorem ldL_law_294 : decode cL_law 294 = .ok (.iconst 1, 1) := dq0 kk_4 (by decide +kernel)
theorem ldL_law_295 : decode cL_law 295 = .ok (.iadd, 1) := dq0 kk_96 (by decide +kernel)
theorem ldL_law_296 : decode cL_law 296 = .ok (.iaload, 1) := dq0 kk_46 (by decide +kernel)
theorem ldL_law_297 : decode cL_law 297 = .ok (.aload_n 0, 1) := dq0 kk_42 (by decide +kernel)
theorem ldL_law_298 : decode cL_law 298 = .ok (.iload_n 3, 1) := dq0 kk_29 (by decide +kernel)
theorem ldL_law_299 : decode cL_law 299 = .ok (.iconst 2, 1) := dq0 kk_5 (by decide +kernel)
theorem ldL_law_300 : decode cL_law 300 = .ok (.iadd, 1) := dq0 kk_96 (by decide +kernel)
theorem ldL_law_301 : decode cL_law 301 = .ok (.iaload, 1) := dq0 kk_46 (by decide +kernel)
theorem ldL_law_302 : decode cL_law 302 = .ok (.invokevirtual 36, 3) := dqV kk_182 (by decide +kernel)
theorem ltk_X12_line : Cond.code yX12_line cX12_line 3 (some .boolean) ∈ TB := tbm (tc5 (List.mem_of_getElem? (i := 239) rfl)) rfl
theorem lgc_X12_line : GoodIn TB (cw yX12_line cX12_line 3 (some .boolean)) := goodIn_c2 ltk_X12_line
theorem ltb_29 : Cond.methodLink "ToneLinesLaw" 36 yX12_line ∈ TB := tbm (tc5 (List.mem_of_getElem? (i := 236) rfl)) rfl
theorem ltb_30 : Cond.instanceMethod yX12_line ∈ TB := tbm (tc5 (List.mem_of_getElem? (i := 237) rfl)) rfl
theorem ltb_31 : Cond.selects "ToneLinesModel" yX12_line yX12_line ∈ TB := tbm (tc5 (List.mem_of_getElem? (i := 238) rfl)) rfl
theorem lgv_L_36 : GoodIn TB (wsV RL 36 RX12 yX12_line (cw yX12_line cX12_line 3 (some .boolean))) := goodIn_4 ltb_29 ltb_30 ltb_31 ltb_7 lgc_X12_line
theorem lhv_X12_line : yX12_line.cls = RX12 ∧ yX12_line.cls ≠ "java/lang/invoke/MethodHandle" ∧ yX12_line.cls ≠ "java/lang/invoke/VarHandle" ∧ (parseMethodDescriptor yX12_line.desc).map (fun d => d.parameters.length) = some 2 := by decide +kernel
theorem ldL_law_305 : decode cL_law 305 = .ok (.pop, 1) := dq0 kk_87 (by decide +kernel)
theorem ldL_law_306 : decode cL_law 306 = .ok (.goto 759, 3) := dqT kk_167 (by decide +kernel)
set_option maxRecDepth 8000 in
set_option maxHeartbeats 1000000 in
theorem lc_4 {p : Program} {l : Launch} {e : Env} {s : State} {m : MethodId} {below : List Frame} {meth : Method} {c : Code} {D : va_G} {B b L : Nat} {cy : Nat → ClassId} {H : Heap} {locs : List Loc} {ls : Array Slot} {xs : Nat → Int32} {M : Mem} {Q : State → Prop} {i : Nat} (F : CallFix p m c code 4 s #[Value.ref b] TB RL) (hX : va_X b L xs s s.heap) (hbl : b < s.heap.size) (hbA : ¬ B ≤ b) (hi : i + 6 ≤ L) (hL : L ≤ 3072) (hJx : Jx M) (w : Wd D B cy s s.heap M H locs) (hl : lv_has ls 4 [(3, .int (zI (i : Int))), (2, .ref (B + 146)), (1, .ref (B + 0)), (0, .ref b)]) (kk : ∀ (M1 : Mem) (H1 : Heap) (locs1 : List Loc), Jx M1 → Wd D B cy s s.heap M1 H1 locs1 → W p l e room_1 s m #[Value.ref b] below meth c H1 locs1 159 13107 Q (F0 m 1065 ls [])) : W p l e room_1 s m #[Value.ref b] below meth c H locs 159 13107 Q (F0 m 276 ls []) := by
  have hx := F.1
  have hb := F.2.1
  obtain ⟨T, tn, Ps, mr, xw, Hs, kw, yw, Gs, hJ, hxy, hHG⟩ := hJx
  obtain ⟨qw, hv, ed, hv2, ed2, o, rfl, rfl, hb1, hb2⟩ := hxy.i
  have hta := hJ.1.2.2.2.2.1.1
  have hk9 : kw ≤ 12 := hJ.2.2.2.2.2.2.1
  have hix1 := ix_z (z := (i : Int) + 1) (by omega) (by omega)
  obtain ⟨x1, bx1, ex1⟩ := rg_ex (xs ((i : Int) + 1).toNat)
  have hix2 := ix_z (z := (i : Int) + 2) (by omega) (by omega)
  obtain ⟨x2, bx2, ex2⟩ := rg_ex (xs ((i : Int) + 2).toNat)
  refine lv_aload_n hx hb ldL_law_276 rfl (lv_at hl 2 rfl) ?_
  refine lv_aload_n hx hb ldL_law_277 rfl (lv_at hl 3 rfl) ?_
  refine lv_iload_n hx hb ldL_law_278 rfl (lv_at hl 0 rfl) ?_
  refine lv_iconst (v := zI 1) hx hb ldL_law_279 rfl ?_
  refine z_iadd (z := (i : Int) + 1) hx hb ldL_law_280 (by omega) ?_
  refine va_sld hx hb hX hbl hbA w.2.2.1 (vpi hix1.1 (by rw [hix1.2]; omega)) ldL_law_281 ?_
  refine r_val ((congrArg xs hix1.2).trans ex1) ?_
  refine lv_aload_n hx hb ldL_law_282 rfl (lv_at hl 3 rfl) ?_
  refine lv_iload_n hx hb ldL_law_283 rfl (lv_at hl 0 rfl) ?_
  refine lv_iconst (v := zI 2) hx hb ldL_law_284 rfl ?_
  refine z_iadd (z := (i : Int) + 2) hx hb ldL_law_285 (by omega) ?_
  refine va_sld hx hb hX hbl hbA w.2.2.1 (vpi hix2.1 (by rw [hix2.2]; omega)) ldL_law_286 ?_
  refine r_val ((congrArg xs hix2.2).trans ex2) ?_
  obtain ⟨rd9, hC9⟩ := hJ.2.1
  refine k_Vi F w (As := [.int (zI x1), .int (zI x2)]) (rest := []) (a := 0) (kd_lt (a := 0) (show kd 0 = (11, 0, 0) from rfl) (by decide)) (sh_11 rfl _ _) rfl (Ci_and2 (q_X11_line (t := x1) ⟨by omega, by omega⟩ (y := x2) ⟨by omega, by omega⟩ hJ.1.1) (g_line hC9 (t9 := x1) (u9 := x2) (by constructor <;> omega) (by constructor <;> omega)) (by decide) (by decide)) lgv_L_32 lhv_X11_line ⟨(Nat.le_of_ble_eq_true rfl), (Nat.le_of_ble_eq_true rfl)⟩ hl.1 rfl (Nat.le_of_ble_eq_true rfl) ⟨(Nat.le_of_ble_eq_true rfl), (Nat.le_of_ble_eq_true rfl)⟩ ldL_law_287 (fun r1 N2 H locs hp w => ?_)
  obtain ⟨hp, M2N2, hAN2, hqN2⟩ := hp
  obtain ⟨z3, erz3, bz3, hIN2, hFN2⟩ := hp
  subst erz3
  obtain ⟨xwN2, HwN2, kwN2, hKN2, hPN2, hrN2⟩ := AQ.c hqN2 hAN2 ⟨rd9, hC9⟩
  have hJ4 := Jg.c hJ hIN2 hFN2 (fun b9 k9 h => by (try dsimp only at h); rcases h with ⟨rfl, rfl⟩ | ⟨rfl, rfl⟩ | ⟨rfl, rfl⟩ | ⟨rfl, rfl⟩ | rfl | rfl | ⟨q1, q2⟩ <;> first | decide | omega) (isTc.F hJ.1.2.2.1 hFN2 (by first | decide | (dsimp only; first | done | decide | omega) | omega) (fun k9 => by first | decide | (dsimp only; first | done | decide | omega) | omega)) (hJ.1.2.2.2.2.1) (hKN2)
  refine lv_pop hx hb ldL_law_290 rfl ?_
  refine lv_aload_n hx hb ldL_law_291 rfl (lv_at hl 1 rfl) ?_
  refine lv_aload_n hx hb ldL_law_292 rfl (lv_at hl 3 rfl) ?_
  refine lv_iload_n hx hb ldL_law_293 rfl (lv_at hl 0 rfl) ?_
  refine lv_iconst (v := zI 1) hx hb ldL_law_294 rfl ?_
  refine z_iadd (z := (i : Int) + 1) hx hb ldL_law_295 (by omega) ?_
  refine va_sld hx hb hX hbl hbA w.2.2.1 (vpi hix1.1 (by rw [hix1.2]; omega)) ldL_law_296 ?_
  refine r_val ((congrArg xs hix1.2).trans ex1) ?_
  refine lv_aload_n hx hb ldL_law_297 rfl (lv_at hl 3 rfl) ?_
  refine lv_iload_n hx hb ldL_law_298 rfl (lv_at hl 0 rfl) ?_
  refine lv_iconst (v := zI 2) hx hb ldL_law_299 rfl ?_
  refine z_iadd (z := (i : Int) + 2) hx hb ldL_law_300 (by omega) ?_
  refine va_sld hx hb hX hbl hbA w.2.2.1 (vpi hix2.1 (by rw [hix2.2]; omega)) ldL_law_301 ?_
  refine r_val ((congrArg xs hix2.2).trans ex2) ?_
  refine k_Vi F w (As := [.int (zI x1), .int (zI x2)]) (rest := []) (a := 146) (kd_lt (a := 146) (show kd 146 = (12, 0, 0) from rfl) (by decide)) (sh_12 rfl _ _) rfl (Ci_and2 (q_X12_line (t := x1) ⟨by omega, by omega⟩ (y := x2) ⟨by omega, by omega⟩ hJ4.1.2.1) (m_line hJ4.2.2 (t9 := x1) (u9 := x2) (by constructor <;> omega) (by constructor <;> omega)) (by decide) (by decide)) lgv_L_36 lhv_X12_line ⟨(Nat.le_of_ble_eq_true rfl), (Nat.le_of_ble_eq_true rfl)⟩ hl.1 rfl (Nat.le_of_ble_eq_true rfl) ⟨(Nat.le_of_ble_eq_true rfl), (Nat.le_of_ble_eq_true rfl)⟩ ldL_law_302 (fun r5 N6 H locs hp w => ?_)
  obtain ⟨hp, M2N6, hAN6, hqN6⟩ := hp
  obtain ⟨z7, erz7, bz7, hIN6, hFN6⟩ := hp
  subst erz7
  obtain ⟨xwN6, HwN6, kwN6, hKN6, hPN6, hrN6⟩ := AR.c hqN6 hAN6 hJ4.2.2
  have hJ8 := Jg.r hJ4 hIN6 hFN6 (fun b9 k9 h => by (try dsimp only at h); rcases h with ⟨rfl, rfl⟩ | rfl | ⟨rfl, q1, q2⟩ <;> first | decide | omega) (isTr.F hJ4.1.2.2.2.1 hFN6 (by first | decide | (dsimp only; first | done | decide | omega) | omega) (fun k9 => by first | decide | (dsimp only; first | done | decide | omega) | omega)) (hJ4.1.2.2.2.2.2) (hKN6)
  have hal := AP.al hk9 (al_line hb1 hb2) (alF.e hb1 hb2) hHG hPN2 hPN6
  refine lv_pop hx hb ldL_law_305 rfl ?_
  refine lv_goto (tgt := 1065) hx hb ldL_law_306 (by decide) ?_
  exact kk _ _ _ (Jx.of hJ8 rfl (by omega) rfl rfl hal.2.1 hal.1 hal.2.2.1) w
theorem ldL_law_309 : decode cL_law 309 = .ok (.aload_n 1, 1) := dq0 kk_43 (by decide +kernel)
theorem ldL_law_310 : decode cL_law 310 = .ok (.aload_n 0, 1) := dq0 kk_42 (by decide +kernel)
theorem ldL_law_311 : decode cL_law 311 = .ok (.iload_n 3, 1) := dq0 kk_29 (by decide +kernel)
theorem ldL_law_312 : decode cL_law 312 = .ok (.iconst 1, 1) := dq0 kk_4 (by decide +kernel)
theorem ldL_law_313 : decode cL_law 313 = .ok (.iadd, 1) := dq0 kk_96 (by decide +kernel)
theorem ldL_law_314 : decode cL_law 314 = .ok (.iaload, 1) := dq0 kk_46 (by decide +kernel)
theorem ldL_law_315 : decode cL_law 315 = .ok (.aload_n 0, 1) := dq0 kk_42 (by decide +kernel)
theorem ldL_law_316 : decode cL_law 316 = .ok (.iload_n 3, 1) := dq0 kk_29 (by decide +kernel)
theorem ldL_law_317 : decode cL_law 317 = .ok (.iconst 2, 1) := dq0 kk_5 (by decide +kernel)
theorem ldL_law_318 : decode cL_law 318 = .ok (.iadd, 1) := dq0 kk_96 (by decide +kernel)
theorem ldL_law_319 : decode cL_law 319 = .ok (.iaload, 1) := dq0 kk_46 (by decide +kernel)
theorem ldL_law_320 : decode cL_law 320 = .ok (.invokevirtual 37, 3) := dqV kk_182 (by decide +kernel)
theorem ltk_X11_cut : Cond.code yX11_cut cX11_cut 3 (some .boolean) ∈ TB := tbm (tc3 (List.mem_of_getElem? (i := 151) rfl)) rfl
theorem lgc_X11_cut : GoodIn TB (cw yX11_cut cX11_cut 3 (some .boolean)) := goodIn_c2 ltk_X11_cut
theorem ltb_32 : Cond.methodLink "ToneLinesLaw" 37 yX11_cut ∈ TB := tbm (tc3 (List.mem_of_getElem? (i := 148) rfl)) rfl
theorem ltb_33 : Cond.instanceMethod yX11_cut ∈ TB := tbm (tc3 (List.mem_of_getElem? (i := 149) rfl)) rfl
theorem ltb_34 : Cond.selects "ToneLines" yX11_cut yX11_cut ∈ TB := tbm (tc3 (List.mem_of_getElem? (i := 150) rfl)) rfl
theorem lgv_L_37 : GoodIn TB (wsV RL 37 RX11 yX11_cut (cw yX11_cut cX11_cut 3 (some .boolean))) := goodIn_4 ltb_32 ltb_33 ltb_34 ltb_3 lgc_X11_cut
theorem lhv_X11_cut : yX11_cut.cls = RX11 ∧ yX11_cut.cls ≠ "java/lang/invoke/MethodHandle" ∧ yX11_cut.cls ≠ "java/lang/invoke/VarHandle" ∧ (parseMethodDescriptor yX11_cut.desc).map (fun d => d.parameters.length) = some 2 := by decide +kernel
theorem ldL_law_323 : decode cL_law 323 = .ok (.pop, 1) := dq0 kk_87 (by decide +kernel)
theorem ldL_law_324 : decode cL_law 324 = .ok (.aload_n 2, 1) := dq0 kk_44 (by decide +kernel)
theorem ldL_law_325 : decode cL_law 325 = .ok (.aload_n 0, 1) := dq0 kk_42 (by decide +kernel)
theorem ldL_law_326 : decode cL_law 326 = .ok (.iload_n 3, 1) := dq0 kk_29 (by decide +kernel)
theorem ldL_law_327 : decode cL_law 327 = .ok (.iconst 1, 1) := dq0 kk_4 (by decide +kernel)
theorem ldL_law_328 : decode cL_law 328 = .ok (.iadd, 1) := dq0 kk_96 (by decide +kernel)
theorem ldL_law_329 : decode cL_law 329 = .ok (.iaload, 1) := dq0 kk_46 (by decide +kernel)
theorem ldL_law_330 : decode cL_law 330 = .ok (.aload_n 0, 1) := dq0 kk_42 (by decide +kernel)
theorem ldL_law_331 : decode cL_law 331 = .ok (.iload_n 3, 1) := dq0 kk_29 (by decide +kernel)
theorem ldL_law_332 : decode cL_law 332 = .ok (.iconst 2, 1) := dq0 kk_5 (by decide +kernel)
theorem ldL_law_333 : decode cL_law 333 = .ok (.iadd, 1) := dq0 kk_96 (by decide +kernel)
theorem ldL_law_334 : decode cL_law 334 = .ok (.iaload, 1) := dq0 kk_46 (by decide +kernel)
theorem ldL_law_335 : decode cL_law 335 = .ok (.invokevirtual 40, 3) := dqV kk_182 (by decide +kernel)
theorem ltk_X12_cut : Cond.code yX12_cut cX12_cut 3 (some .boolean) ∈ TB := tbm (tc6 (List.mem_of_getElem? (i := 13) rfl)) rfl
theorem lgc_X12_cut : GoodIn TB (cw yX12_cut cX12_cut 3 (some .boolean)) := goodIn_c2 ltk_X12_cut
theorem ltb_35 : Cond.methodLink "ToneLinesLaw" 40 yX12_cut ∈ TB := tbm (tc6 (List.mem_of_getElem? (i := 10) rfl)) rfl
theorem ltb_36 : Cond.instanceMethod yX12_cut ∈ TB := tbm (tc6 (List.mem_of_getElem? (i := 11) rfl)) rfl
theorem ltb_37 : Cond.selects "ToneLinesModel" yX12_cut yX12_cut ∈ TB := tbm (tc6 (List.mem_of_getElem? (i := 12) rfl)) rfl
theorem lgv_L_40 : GoodIn TB (wsV RL 40 RX12 yX12_cut (cw yX12_cut cX12_cut 3 (some .boolean))) := goodIn_4 ltb_35 ltb_36 ltb_37 ltb_7 lgc_X12_cut
theorem lhv_X12_cut : yX12_cut.cls = RX12 ∧ yX12_cut.cls ≠ "java/lang/invoke/MethodHandle" ∧ yX12_cut.cls ≠ "java/lang/invoke/VarHandle" ∧ (parseMethodDescriptor yX12_cut.desc).map (fun d => d.parameters.length) = some 2 := by decide +kernel
theorem ldL_law_338 : decode cL_law 338 = .ok (.pop, 1) := dq0 kk_87 (by decide +kernel)
theorem ldL_law_339 : decode cL_law 339 = .ok (.goto 726, 3) := dqT kk_167 (by decide +kernel)
set_option maxRecDepth 8000 in
set_option maxHeartbeats 1000000 in
theorem lc_5 {p : Program} {l : Launch} {e : Env} {s : State} {m : MethodId} {below : List Frame} {meth : Method} {c : Code} {D : va_G} {B b L : Nat} {cy : Nat → ClassId} {H : Heap} {locs : List Loc} {ls : Array Slot} {xs : Nat → Int32} {M : Mem} {Q : State → Prop} {i : Nat} (F : CallFix p m c code 4 s #[Value.ref b] TB RL) (hX : va_X b L xs s s.heap) (hbl : b < s.heap.size) (hbA : ¬ B ≤ b) (hi : i + 6 ≤ L) (hL : L ≤ 3072) (hJx : Jx M) (w : Wd D B cy s s.heap M H locs) (hl : lv_has ls 4 [(3, .int (zI (i : Int))), (2, .ref (B + 146)), (1, .ref (B + 0)), (0, .ref b)]) (kk : ∀ (M1 : Mem) (H1 : Heap) (locs1 : List Loc), Jx M1 → Wd D B cy s s.heap M1 H1 locs1 → W p l e room_1 s m #[Value.ref b] below meth c H1 locs1 159 13107 Q (F0 m 1065 ls [])) : W p l e room_1 s m #[Value.ref b] below meth c H locs 159 13107 Q (F0 m 309 ls []) := by
  have hx := F.1
  have hb := F.2.1
  obtain ⟨T, tn, Ps, mr, xw, Hs, kw, yw, Gs, hJ, hxy, hHG⟩ := hJx
  obtain ⟨qw, hv, ed, hv2, ed2, o, rfl, rfl, hb1, hb2⟩ := hxy.i
  have hta := hJ.1.2.2.2.2.1.1
  have hk9 : kw ≤ 12 := hJ.2.2.2.2.2.2.1
  have hix1 := ix_z (z := (i : Int) + 1) (by omega) (by omega)
  obtain ⟨x1, bx1, ex1⟩ := rg_ex (xs ((i : Int) + 1).toNat)
  have hix2 := ix_z (z := (i : Int) + 2) (by omega) (by omega)
  obtain ⟨x2, bx2, ex2⟩ := rg_ex (xs ((i : Int) + 2).toNat)
  refine lv_aload_n hx hb ldL_law_309 rfl (lv_at hl 2 rfl) ?_
  refine lv_aload_n hx hb ldL_law_310 rfl (lv_at hl 3 rfl) ?_
  refine lv_iload_n hx hb ldL_law_311 rfl (lv_at hl 0 rfl) ?_
  refine lv_iconst (v := zI 1) hx hb ldL_law_312 rfl ?_
  refine z_iadd (z := (i : Int) + 1) hx hb ldL_law_313 (by omega) ?_
  refine va_sld hx hb hX hbl hbA w.2.2.1 (vpi hix1.1 (by rw [hix1.2]; omega)) ldL_law_314 ?_
  refine r_val ((congrArg xs hix1.2).trans ex1) ?_
  refine lv_aload_n hx hb ldL_law_315 rfl (lv_at hl 3 rfl) ?_
  refine lv_iload_n hx hb ldL_law_316 rfl (lv_at hl 0 rfl) ?_
  refine lv_iconst (v := zI 2) hx hb ldL_law_317 rfl ?_
  refine z_iadd (z := (i : Int) + 2) hx hb ldL_law_318 (by omega) ?_
  refine va_sld hx hb hX hbl hbA w.2.2.1 (vpi hix2.1 (by rw [hix2.2]; omega)) ldL_law_319 ?_
  refine r_val ((congrArg xs hix2.2).trans ex2) ?_
  obtain ⟨rd9, hC9⟩ := hJ.2.1
  refine k_Vi F w (As := [.int (zI x1), .int (zI x2)]) (rest := []) (a := 0) (kd_lt (a := 0) (show kd 0 = (11, 0, 0) from rfl) (by decide)) (sh_11 rfl _ _) rfl (Ci_and2 (q_X11_cut (t := x1) ⟨by omega, by omega⟩ (y := x2) ⟨by omega, by omega⟩ hJ.1.1) (g_cut hC9 (t9 := x1) (u9 := x2) (by constructor <;> omega) (by constructor <;> omega)) (by decide) (by decide)) lgv_L_37 lhv_X11_cut ⟨(Nat.le_of_ble_eq_true rfl), (Nat.le_of_ble_eq_true rfl)⟩ hl.1 rfl (Nat.le_of_ble_eq_true rfl) ⟨(Nat.le_of_ble_eq_true rfl), (Nat.le_of_ble_eq_true rfl)⟩ ldL_law_320 (fun r1 N2 H locs hp w => ?_)
  obtain ⟨hp, M2N2, hAN2, hqN2⟩ := hp
  obtain ⟨z3, erz3, bz3, hIN2, hFN2⟩ := hp
  subst erz3
  obtain ⟨xwN2, HwN2, kwN2, hKN2, hPN2, hrN2⟩ := AQ.c hqN2 hAN2 ⟨rd9, hC9⟩
  have hJ4 := Jg.c hJ hIN2 hFN2 (fun b9 k9 h => by (try dsimp only at h); rcases h with ⟨rfl, rfl⟩ | ⟨rfl, rfl⟩ | ⟨rfl, rfl⟩ | ⟨rfl, rfl⟩ | rfl | rfl | ⟨q1, q2⟩ <;> first | decide | omega) (isTc.F hJ.1.2.2.1 hFN2 (by first | decide | (dsimp only; first | done | decide | omega) | omega) (fun k9 => by first | decide | (dsimp only; first | done | decide | omega) | omega)) (hJ.1.2.2.2.2.1) (hKN2)
  refine lv_pop hx hb ldL_law_323 rfl ?_
  refine lv_aload_n hx hb ldL_law_324 rfl (lv_at hl 1 rfl) ?_
  refine lv_aload_n hx hb ldL_law_325 rfl (lv_at hl 3 rfl) ?_
  refine lv_iload_n hx hb ldL_law_326 rfl (lv_at hl 0 rfl) ?_
  refine lv_iconst (v := zI 1) hx hb ldL_law_327 rfl ?_
  refine z_iadd (z := (i : Int) + 1) hx hb ldL_law_328 (by omega) ?_
  refine va_sld hx hb hX hbl hbA w.2.2.1 (vpi hix1.1 (by rw [hix1.2]; omega)) ldL_law_329 ?_
  refine r_val ((congrArg xs hix1.2).trans ex1) ?_
  refine lv_aload_n hx hb ldL_law_330 rfl (lv_at hl 3 rfl) ?_
  refine lv_iload_n hx hb ldL_law_331 rfl (lv_at hl 0 rfl) ?_
  refine lv_iconst (v := zI 2) hx hb ldL_law_332 rfl ?_
  refine z_iadd (z := (i : Int) + 2) hx hb ldL_law_333 (by omega) ?_
  refine va_sld hx hb hX hbl hbA w.2.2.1 (vpi hix2.1 (by rw [hix2.2]; omega)) ldL_law_334 ?_
  refine r_val ((congrArg xs hix2.2).trans ex2) ?_
  refine k_Vi F w (As := [.int (zI x1), .int (zI x2)]) (rest := []) (a := 146) (kd_lt (a := 146) (show kd 146 = (12, 0, 0) from rfl) (by decide)) (sh_12 rfl _ _) rfl (Ci_and2 (q_X12_cut (t := x1) ⟨by omega, by omega⟩ (y := x2) ⟨by omega, by omega⟩ hJ4.1.2.1) (m_cut hJ4.2.2 (t9 := x1) (u9 := x2) (by constructor <;> omega) (by constructor <;> omega)) (by decide) (by decide)) lgv_L_40 lhv_X12_cut ⟨(Nat.le_of_ble_eq_true rfl), (Nat.le_of_ble_eq_true rfl)⟩ hl.1 rfl (Nat.le_of_ble_eq_true rfl) ⟨(Nat.le_of_ble_eq_true rfl), (Nat.le_of_ble_eq_true rfl)⟩ ldL_law_335 (fun r5 N6 H locs hp w => ?_)
  obtain ⟨hp, M2N6, hAN6, hqN6⟩ := hp
  obtain ⟨z7, erz7, bz7, hIN6, hFN6⟩ := hp
  subst erz7
  obtain ⟨xwN6, HwN6, kwN6, hKN6, hPN6, hrN6⟩ := AR.c hqN6 hAN6 hJ4.2.2
  have hJ8 := Jg.r hJ4 hIN6 hFN6 (fun b9 k9 h => by (try dsimp only at h); rcases h with ⟨rfl, rfl⟩ | rfl | ⟨rfl, q1, q2⟩ <;> first | decide | omega) (isTr.F hJ4.1.2.2.2.1 hFN6 (by first | decide | (dsimp only; first | done | decide | omega) | omega) (fun k9 => by first | decide | (dsimp only; first | done | decide | omega) | omega)) (hJ4.1.2.2.2.2.2) (hKN6)
  have hal := AP.al hk9 (al_cut hb1 hb2) (alF.e hb1 hb2) hHG hPN2 hPN6
  refine lv_pop hx hb ldL_law_338 rfl ?_
  refine lv_goto (tgt := 1065) hx hb ldL_law_339 (by decide) ?_
  exact kk _ _ _ (Jx.of hJ8 rfl (by omega) rfl rfl hal.2.1 hal.1 hal.2.2.1) w
theorem ldL_law_342 : decode cL_law 342 = .ok (.aload_n 1, 1) := dq0 kk_43 (by decide +kernel)
theorem ldL_law_343 : decode cL_law 343 = .ok (.aload_n 0, 1) := dq0 kk_42 (by decide +kernel)
theorem ldL_law_344 : decode cL_law 344 = .ok (.iload_n 3, 1) := dq0 kk_29 (by decide +kernel)
theorem ldL_law_345 : decode cL_law 345 = .ok (.iconst 1, 1) := dq0 kk_4 (by decide +kernel)
theorem ldL_law_346 : decode cL_law 346 = .ok (.iadd, 1) := dq0 kk_96 (by decide +kernel)
theorem ldL_law_347 : decode cL_law 347 = .ok (.iaload, 1) := dq0 kk_46 (by decide +kernel)
theorem ldL_law_348 : decode cL_law 348 = .ok (.aload_n 0, 1) := dq0 kk_42 (by decide +kernel)
theorem ldL_law_349 : decode cL_law 349 = .ok (.iload_n 3, 1) := dq0 kk_29 (by decide +kernel)
theorem ldL_law_350 : decode cL_law 350 = .ok (.iconst 2, 1) := dq0 kk_5 (by decide +kernel)
theorem ldL_law_351 : decode cL_law 351 = .ok (.iadd, 1) := dq0 kk_96 (by decide +kernel)
theorem ldL_law_352 : decode cL_law 352 = .ok (.iaload, 1) := dq0 kk_46 (by decide +kernel)
theorem ldL_law_353 : decode cL_law 353 = .ok (.invokevirtual 41, 3) := dqV kk_182 (by decide +kernel)
theorem ltk_X11_tone : Cond.code yX11_tone cX11_tone 3 (some .boolean) ∈ TB := tbm (tc3 (List.mem_of_getElem? (i := 159) rfl)) rfl
theorem lgc_X11_tone : GoodIn TB (cw yX11_tone cX11_tone 3 (some .boolean)) := goodIn_c2 ltk_X11_tone
theorem ltb_38 : Cond.methodLink "ToneLinesLaw" 41 yX11_tone ∈ TB := tbm (tc3 (List.mem_of_getElem? (i := 156) rfl)) rfl
theorem ltb_39 : Cond.instanceMethod yX11_tone ∈ TB := tbm (tc3 (List.mem_of_getElem? (i := 157) rfl)) rfl
theorem ltb_40 : Cond.selects "ToneLines" yX11_tone yX11_tone ∈ TB := tbm (tc3 (List.mem_of_getElem? (i := 158) rfl)) rfl
theorem lgv_L_41 : GoodIn TB (wsV RL 41 RX11 yX11_tone (cw yX11_tone cX11_tone 3 (some .boolean))) := goodIn_4 ltb_38 ltb_39 ltb_40 ltb_3 lgc_X11_tone
theorem lhv_X11_tone : yX11_tone.cls = RX11 ∧ yX11_tone.cls ≠ "java/lang/invoke/MethodHandle" ∧ yX11_tone.cls ≠ "java/lang/invoke/VarHandle" ∧ (parseMethodDescriptor yX11_tone.desc).map (fun d => d.parameters.length) = some 2 := by decide +kernel
theorem ldL_law_356 : decode cL_law 356 = .ok (.pop, 1) := dq0 kk_87 (by decide +kernel)
theorem ldL_law_357 : decode cL_law 357 = .ok (.aload_n 2, 1) := dq0 kk_44 (by decide +kernel)
theorem ldL_law_358 : decode cL_law 358 = .ok (.aload_n 0, 1) := dq0 kk_42 (by decide +kernel)
theorem ldL_law_359 : decode cL_law 359 = .ok (.iload_n 3, 1) := dq0 kk_29 (by decide +kernel)
theorem ldL_law_360 : decode cL_law 360 = .ok (.iconst 1, 1) := dq0 kk_4 (by decide +kernel)
theorem ldL_law_361 : decode cL_law 361 = .ok (.iadd, 1) := dq0 kk_96 (by decide +kernel)
theorem ldL_law_362 : decode cL_law 362 = .ok (.iaload, 1) := dq0 kk_46 (by decide +kernel)
theorem ldL_law_363 : decode cL_law 363 = .ok (.aload_n 0, 1) := dq0 kk_42 (by decide +kernel)
theorem ldL_law_364 : decode cL_law 364 = .ok (.iload_n 3, 1) := dq0 kk_29 (by decide +kernel)
theorem ldL_law_365 : decode cL_law 365 = .ok (.iconst 2, 1) := dq0 kk_5 (by decide +kernel)
theorem ldL_law_366 : decode cL_law 366 = .ok (.iadd, 1) := dq0 kk_96 (by decide +kernel)
theorem ldL_law_367 : decode cL_law 367 = .ok (.iaload, 1) := dq0 kk_46 (by decide +kernel)
theorem ldL_law_368 : decode cL_law 368 = .ok (.invokevirtual 44, 3) := dqV kk_182 (by decide +kernel)
theorem ltk_X12_tone : Cond.code yX12_tone cX12_tone 3 (some .boolean) ∈ TB := tbm (tc6 (List.mem_of_getElem? (i := 17) rfl)) rfl
theorem lgc_X12_tone : GoodIn TB (cw yX12_tone cX12_tone 3 (some .boolean)) := goodIn_c2 ltk_X12_tone
theorem ltb_41 : Cond.methodLink "ToneLinesLaw" 44 yX12_tone ∈ TB := tbm (tc6 (List.mem_of_getElem? (i := 14) rfl)) rfl
theorem ltb_42 : Cond.instanceMethod yX12_tone ∈ TB := tbm (tc6 (List.mem_of_getElem? (i := 15) rfl)) rfl
theorem ltb_43 : Cond.selects "ToneLinesModel" yX12_tone yX12_tone ∈ TB := tbm (tc6 (List.mem_of_getElem? (i := 16) rfl)) rfl
theorem lgv_L_44 : GoodIn TB (wsV RL 44 RX12 yX12_tone (cw yX12_tone cX12_tone 3 (some .boolean))) := goodIn_4 ltb_41 ltb_42 ltb_43 ltb_7 lgc_X12_tone
theorem lhv_X12_tone : yX12_tone.cls = RX12 ∧ yX12_tone.cls ≠ "java/lang/invoke/MethodHandle" ∧ yX12_tone.cls ≠ "java/lang/invoke/VarHandle" ∧ (parseMethodDescriptor yX12_tone.desc).map (fun d => d.parameters.length) = some 2 := by decide +kernel
theorem ldL_law_371 : decode cL_law 371 = .ok (.pop, 1) := dq0 kk_87 (by decide +kernel)
theorem ldL_law_372 : decode cL_law 372 = .ok (.goto 693, 3) := dqT kk_167 (by decide +kernel)
set_option maxRecDepth 8000 in
set_option maxHeartbeats 1000000 in
theorem lc_6 {p : Program} {l : Launch} {e : Env} {s : State} {m : MethodId} {below : List Frame} {meth : Method} {c : Code} {D : va_G} {B b L : Nat} {cy : Nat → ClassId} {H : Heap} {locs : List Loc} {ls : Array Slot} {xs : Nat → Int32} {M : Mem} {Q : State → Prop} {i : Nat} (F : CallFix p m c code 4 s #[Value.ref b] TB RL) (hX : va_X b L xs s s.heap) (hbl : b < s.heap.size) (hbA : ¬ B ≤ b) (hi : i + 6 ≤ L) (hL : L ≤ 3072) (hJx : Jx M) (w : Wd D B cy s s.heap M H locs) (hl : lv_has ls 4 [(3, .int (zI (i : Int))), (2, .ref (B + 146)), (1, .ref (B + 0)), (0, .ref b)]) (kk : ∀ (M1 : Mem) (H1 : Heap) (locs1 : List Loc), Jx M1 → Wd D B cy s s.heap M1 H1 locs1 → W p l e room_1 s m #[Value.ref b] below meth c H1 locs1 159 13107 Q (F0 m 1065 ls [])) : W p l e room_1 s m #[Value.ref b] below meth c H locs 159 13107 Q (F0 m 342 ls []) := by
  have hx := F.1
  have hb := F.2.1
  obtain ⟨T, tn, Ps, mr, xw, Hs, kw, yw, Gs, hJ, hxy, hHG⟩ := hJx
  obtain ⟨qw, hv, ed, hv2, ed2, o, rfl, rfl, hb1, hb2⟩ := hxy.i
  have hta := hJ.1.2.2.2.2.1.1
  have hk9 : kw ≤ 12 := hJ.2.2.2.2.2.2.1
  have hix1 := ix_z (z := (i : Int) + 1) (by omega) (by omega)
  obtain ⟨x1, bx1, ex1⟩ := rg_ex (xs ((i : Int) + 1).toNat)
  have hix2 := ix_z (z := (i : Int) + 2) (by omega) (by omega)
  obtain ⟨x2, bx2, ex2⟩ := rg_ex (xs ((i : Int) + 2).toNat)
  refine lv_aload_n hx hb ldL_law_342 rfl (lv_at hl 2 rfl) ?_
  refine lv_aload_n hx hb ldL_law_343 rfl (lv_at hl 3 rfl) ?_
  refine lv_iload_n hx hb ldL_law_344 rfl (lv_at hl 0 rfl) ?_
  refine lv_iconst (v := zI 1) hx hb ldL_law_345 rfl ?_
  refine z_iadd (z := (i : Int) + 1) hx hb ldL_law_346 (by omega) ?_
  refine va_sld hx hb hX hbl hbA w.2.2.1 (vpi hix1.1 (by rw [hix1.2]; omega)) ldL_law_347 ?_
  refine r_val ((congrArg xs hix1.2).trans ex1) ?_
  refine lv_aload_n hx hb ldL_law_348 rfl (lv_at hl 3 rfl) ?_
  refine lv_iload_n hx hb ldL_law_349 rfl (lv_at hl 0 rfl) ?_
  refine lv_iconst (v := zI 2) hx hb ldL_law_350 rfl ?_
  refine z_iadd (z := (i : Int) + 2) hx hb ldL_law_351 (by omega) ?_
  refine va_sld hx hb hX hbl hbA w.2.2.1 (vpi hix2.1 (by rw [hix2.2]; omega)) ldL_law_352 ?_
  refine r_val ((congrArg xs hix2.2).trans ex2) ?_
  obtain ⟨rd9, hC9⟩ := hJ.2.1
  refine k_Vi F w (As := [.int (zI x1), .int (zI x2)]) (rest := []) (a := 0) (kd_lt (a := 0) (show kd 0 = (11, 0, 0) from rfl) (by decide)) (sh_11 rfl _ _) rfl (Ci_and2 (q_X11_tone (t := x1) ⟨by omega, by omega⟩ (x := x2) ⟨by omega, by omega⟩ hJ.1.1) (g_tone hC9 (t9 := x1) (u9 := x2) (by constructor <;> omega) (by constructor <;> omega)) (by decide) (by decide)) lgv_L_41 lhv_X11_tone ⟨(Nat.le_of_ble_eq_true rfl), (Nat.le_of_ble_eq_true rfl)⟩ hl.1 rfl (Nat.le_of_ble_eq_true rfl) ⟨(Nat.le_of_ble_eq_true rfl), (Nat.le_of_ble_eq_true rfl)⟩ ldL_law_353 (fun r1 N2 H locs hp w => ?_)
  obtain ⟨hp, M2N2, hAN2, hqN2⟩ := hp
  obtain ⟨z3, erz3, bz3, hIN2, hFN2⟩ := hp
  subst erz3
  obtain ⟨xwN2, HwN2, kwN2, hKN2, hPN2, hrN2⟩ := AQ.c hqN2 hAN2 ⟨rd9, hC9⟩
  have hJ4 := Jg.c hJ hIN2 hFN2 (fun b9 k9 h => by (try dsimp only at h); rcases h with ⟨rfl, rfl⟩ | ⟨rfl, rfl⟩ | ⟨rfl, rfl⟩ | ⟨rfl, rfl⟩ | rfl | rfl | rfl | rfl | ⟨q1, q2⟩ <;> first | decide | omega) (isTc.F hJ.1.2.2.1 hFN2 (by first | decide | (dsimp only; first | done | decide | omega) | omega) (fun k9 => by first | decide | (dsimp only; first | done | decide | omega) | omega)) (hJ.1.2.2.2.2.1) (hKN2)
  refine lv_pop hx hb ldL_law_356 rfl ?_
  refine lv_aload_n hx hb ldL_law_357 rfl (lv_at hl 1 rfl) ?_
  refine lv_aload_n hx hb ldL_law_358 rfl (lv_at hl 3 rfl) ?_
  refine lv_iload_n hx hb ldL_law_359 rfl (lv_at hl 0 rfl) ?_
  refine lv_iconst (v := zI 1) hx hb ldL_law_360 rfl ?_
  refine z_iadd (z := (i : Int) + 1) hx hb ldL_law_361 (by omega) ?_
  refine va_sld hx hb hX hbl hbA w.2.2.1 (vpi hix1.1 (by rw [hix1.2]; omega)) ldL_law_362 ?_
  refine r_val ((congrArg xs hix1.2).trans ex1) ?_
  refine lv_aload_n hx hb ldL_law_363 rfl (lv_at hl 3 rfl) ?_
  refine lv_iload_n hx hb ldL_law_364 rfl (lv_at hl 0 rfl) ?_
  refine lv_iconst (v := zI 2) hx hb ldL_law_365 rfl ?_
  refine z_iadd (z := (i : Int) + 2) hx hb ldL_law_366 (by omega) ?_
  refine va_sld hx hb hX hbl hbA w.2.2.1 (vpi hix2.1 (by rw [hix2.2]; omega)) ldL_law_367 ?_
  refine r_val ((congrArg xs hix2.2).trans ex2) ?_
  refine k_Vi F w (As := [.int (zI x1), .int (zI x2)]) (rest := []) (a := 146) (kd_lt (a := 146) (show kd 146 = (12, 0, 0) from rfl) (by decide)) (sh_12 rfl _ _) rfl (Ci_and2 (q_X12_tone (t := x1) ⟨by omega, by omega⟩ (x := x2) ⟨by omega, by omega⟩ hJ4.1.2.1) (m_tone hJ4.2.2 (t9 := x1) (u9 := x2) (by constructor <;> omega) (by constructor <;> omega)) (by decide) (by decide)) lgv_L_44 lhv_X12_tone ⟨(Nat.le_of_ble_eq_true rfl), (Nat.le_of_ble_eq_true rfl)⟩ hl.1 rfl (Nat.le_of_ble_eq_true rfl) ⟨(Nat.le_of_ble_eq_true rfl), (Nat.le_of_ble_eq_true rfl)⟩ ldL_law_368 (fun r5 N6 H locs hp w => ?_)
  obtain ⟨hp, M2N6, hAN6, hqN6⟩ := hp
  obtain ⟨z7, erz7, bz7, hIN6, hFN6⟩ := hp
  subst erz7
  obtain ⟨xwN6, HwN6, kwN6, hKN6, hPN6, hrN6⟩ := AR.c hqN6 hAN6 hJ4.2.2
  have hJ8 := Jg.r hJ4 hIN6 hFN6 (fun b9 k9 h => by (try dsimp only at h); rcases h with ⟨rfl, rfl⟩ | rfl | rfl <;> first | decide | omega) (isTr.F hJ4.1.2.2.2.1 hFN6 (by first | decide | (dsimp only; first | done | decide | omega) | omega) (fun k9 => by first | decide | (dsimp only; first | done | decide | omega) | omega)) (hJ4.1.2.2.2.2.2) (hKN6)
  have hal := AP.al hk9 (al_tone hb1 hb2) (alF.e hb1 hb2) hHG hPN2 hPN6
  refine lv_pop hx hb ldL_law_371 rfl ?_
  refine lv_goto (tgt := 1065) hx hb ldL_law_372 (by decide) ?_
  exact kk _ _ _ (Jx.of hJ8 rfl (by omega) rfl rfl hal.2.1 hal.1 hal.2.2.1) w
theorem ldL_law_375 : decode cL_law 375 = .ok (.aload_n 1, 1) := dq0 kk_43 (by decide +kernel)
theorem ldL_law_376 : decode cL_law 376 = .ok (.aload_n 0, 1) := dq0 kk_42 (by decide +kernel)
theorem ldL_law_377 : decode cL_law 377 = .ok (.iload_n 3, 1) := dq0 kk_29 (by decide +kernel)
theorem ldL_law_378 : decode cL_law 378 = .ok (.iconst 1, 1) := dq0 kk_4 (by decide +kernel)
theorem ldL_law_379 : decode cL_law 379 = .ok (.iadd, 1) := dq0 kk_96 (by decide +kernel)
theorem ldL_law_380 : decode cL_law 380 = .ok (.iaload, 1) := dq0 kk_46 (by decide +kernel)
theorem ldL_law_381 : decode cL_law 381 = .ok (.invokevirtual 45, 3) := dqV kk_182 (by decide +kernel)
theorem ltk_X11_hush : Cond.code yX11_hush cX11_hush 2 (some .boolean) ∈ TB := tbm (tc3 (List.mem_of_getElem? (i := 167) rfl)) rfl
theorem lgc_X11_hush : GoodIn TB (cw yX11_hush cX11_hush 2 (some .boolean)) := goodIn_c2 ltk_X11_hush
theorem ltb_44 : Cond.methodLink "ToneLinesLaw" 45 yX11_hush ∈ TB := tbm (tc3 (List.mem_of_getElem? (i := 164) rfl)) rfl
theorem ltb_45 : Cond.instanceMethod yX11_hush ∈ TB := tbm (tc3 (List.mem_of_getElem? (i := 165) rfl)) rfl
theorem ltb_46 : Cond.selects "ToneLines" yX11_hush yX11_hush ∈ TB := tbm (tc3 (List.mem_of_getElem? (i := 166) rfl)) rfl
theorem lgv_L_45 : GoodIn TB (wsV RL 45 RX11 yX11_hush (cw yX11_hush cX11_hush 2 (some .boolean))) := goodIn_4 ltb_44 ltb_45 ltb_46 ltb_3 lgc_X11_hush
theorem lhv_X11_hush : yX11_hush.cls = RX11 ∧ yX11_hush.cls ≠ "java/lang/invoke/MethodHandle" ∧ yX11_hush.cls ≠ "java/lang/invoke/VarHandle" ∧ (parseMethodDescriptor yX11_hush.desc).map (fun d => d.parameters.length) = some 1 := by decide +kernel
theorem ldL_law_384 : decode cL_law 384 = .ok (.pop, 1) := dq0 kk_87 (by decide +kernel)
theorem ldL_law_385 : decode cL_law 385 = .ok (.aload_n 2, 1) := dq0 kk_44 (by decide +kernel)
theorem ldL_law_386 : decode cL_law 386 = .ok (.aload_n 0, 1) := dq0 kk_42 (by decide +kernel)
theorem ldL_law_387 : decode cL_law 387 = .ok (.iload_n 3, 1) := dq0 kk_29 (by decide +kernel)
theorem ldL_law_388 : decode cL_law 388 = .ok (.iconst 1, 1) := dq0 kk_4 (by decide +kernel)
theorem ldL_law_389 : decode cL_law 389 = .ok (.iadd, 1) := dq0 kk_96 (by decide +kernel)
theorem ldL_law_390 : decode cL_law 390 = .ok (.iaload, 1) := dq0 kk_46 (by decide +kernel)
theorem ldL_law_391 : decode cL_law 391 = .ok (.invokevirtual 49, 3) := dqV kk_182 (by decide +kernel)
theorem ltk_X12_hush : Cond.code yX12_hush cX12_hush 2 (some .boolean) ∈ TB := tbm (tc6 (List.mem_of_getElem? (i := 21) rfl)) rfl
theorem lgc_X12_hush : GoodIn TB (cw yX12_hush cX12_hush 2 (some .boolean)) := goodIn_c2 ltk_X12_hush
theorem ltb_47 : Cond.methodLink "ToneLinesLaw" 49 yX12_hush ∈ TB := tbm (tc6 (List.mem_of_getElem? (i := 18) rfl)) rfl
theorem ltb_48 : Cond.instanceMethod yX12_hush ∈ TB := tbm (tc6 (List.mem_of_getElem? (i := 19) rfl)) rfl
theorem ltb_49 : Cond.selects "ToneLinesModel" yX12_hush yX12_hush ∈ TB := tbm (tc6 (List.mem_of_getElem? (i := 20) rfl)) rfl
theorem lgv_L_49 : GoodIn TB (wsV RL 49 RX12 yX12_hush (cw yX12_hush cX12_hush 2 (some .boolean))) := goodIn_4 ltb_47 ltb_48 ltb_49 ltb_7 lgc_X12_hush
theorem lhv_X12_hush : yX12_hush.cls = RX12 ∧ yX12_hush.cls ≠ "java/lang/invoke/MethodHandle" ∧ yX12_hush.cls ≠ "java/lang/invoke/VarHandle" ∧ (parseMethodDescriptor yX12_hush.desc).map (fun d => d.parameters.length) = some 1 := by decide +kernel
theorem ldL_law_394 : decode cL_law 394 = .ok (.pop, 1) := dq0 kk_87 (by decide +kernel)
theorem ldL_law_395 : decode cL_law 395 = .ok (.goto 670, 3) := dqT kk_167 (by decide +kernel)
set_option maxRecDepth 8000 in
set_option maxHeartbeats 1000000 in
theorem lc_7 {p : Program} {l : Launch} {e : Env} {s : State} {m : MethodId} {below : List Frame} {meth : Method} {c : Code} {D : va_G} {B b L : Nat} {cy : Nat → ClassId} {H : Heap} {locs : List Loc} {ls : Array Slot} {xs : Nat → Int32} {M : Mem} {Q : State → Prop} {i : Nat} (F : CallFix p m c code 4 s #[Value.ref b] TB RL) (hX : va_X b L xs s s.heap) (hbl : b < s.heap.size) (hbA : ¬ B ≤ b) (hi : i + 6 ≤ L) (hL : L ≤ 3072) (hJx : Jx M) (w : Wd D B cy s s.heap M H locs) (hl : lv_has ls 4 [(3, .int (zI (i : Int))), (2, .ref (B + 146)), (1, .ref (B + 0)), (0, .ref b)]) (kk : ∀ (M1 : Mem) (H1 : Heap) (locs1 : List Loc), Jx M1 → Wd D B cy s s.heap M1 H1 locs1 → W p l e room_1 s m #[Value.ref b] below meth c H1 locs1 159 13107 Q (F0 m 1065 ls [])) : W p l e room_1 s m #[Value.ref b] below meth c H locs 159 13107 Q (F0 m 375 ls []) := by
  have hx := F.1
  have hb := F.2.1
  obtain ⟨T, tn, Ps, mr, xw, Hs, kw, yw, Gs, hJ, hxy, hHG⟩ := hJx
  obtain ⟨qw, hv, ed, hv2, ed2, o, rfl, rfl, hb1, hb2⟩ := hxy.i
  have hta := hJ.1.2.2.2.2.1.1
  have hk9 : kw ≤ 12 := hJ.2.2.2.2.2.2.1
  have hix1 := ix_z (z := (i : Int) + 1) (by omega) (by omega)
  obtain ⟨x1, bx1, ex1⟩ := rg_ex (xs ((i : Int) + 1).toNat)
  refine lv_aload_n hx hb ldL_law_375 rfl (lv_at hl 2 rfl) ?_
  refine lv_aload_n hx hb ldL_law_376 rfl (lv_at hl 3 rfl) ?_
  refine lv_iload_n hx hb ldL_law_377 rfl (lv_at hl 0 rfl) ?_
  refine lv_iconst (v := zI 1) hx hb ldL_law_378 rfl ?_
  refine z_iadd (z := (i : Int) + 1) hx hb ldL_law_379 (by omega) ?_
  refine va_sld hx hb hX hbl hbA w.2.2.1 (vpi hix1.1 (by rw [hix1.2]; omega)) ldL_law_380 ?_
  refine r_val ((congrArg xs hix1.2).trans ex1) ?_
  obtain ⟨rd9, hC9⟩ := hJ.2.1
  refine k_Vi F w (As := [.int (zI x1)]) (rest := []) (a := 0) (kd_lt (a := 0) (show kd 0 = (11, 0, 0) from rfl) (by decide)) (sh_11 rfl _ _) rfl (Ci_and2 (q_X11_hush (t := x1) ⟨by omega, by omega⟩ hJ.1.1) (g_hush hC9 (t9 := x1) (by constructor <;> omega)) (by decide) (by decide)) lgv_L_45 lhv_X11_hush ⟨(Nat.le_of_ble_eq_true rfl), (Nat.le_of_ble_eq_true rfl)⟩ hl.1 rfl (Nat.le_of_ble_eq_true rfl) ⟨(Nat.le_of_ble_eq_true rfl), (Nat.le_of_ble_eq_true rfl)⟩ ldL_law_381 (fun r1 N2 H locs hp w => ?_)
  obtain ⟨hp, M2N2, hAN2, hqN2⟩ := hp
  obtain ⟨z3, erz3, bz3, hIN2, hFN2⟩ := hp
  subst erz3
  obtain ⟨xwN2, HwN2, kwN2, hKN2, hPN2, hrN2⟩ := AQ.c hqN2 hAN2 ⟨rd9, hC9⟩
  have hJ4 := Jg.c hJ hIN2 hFN2 (fun b9 k9 h => by (try dsimp only at h); rcases h with ⟨rfl, rfl⟩ | ⟨rfl, rfl⟩ | ⟨rfl, rfl⟩ | ⟨rfl, rfl⟩ | rfl | rfl | rfl | rfl | ⟨q1, q2⟩ <;> first | decide | omega) (isTc.F hJ.1.2.2.1 hFN2 (by first | decide | (dsimp only; first | done | decide | omega) | omega) (fun k9 => by first | decide | (dsimp only; first | done | decide | omega) | omega)) (hJ.1.2.2.2.2.1) (hKN2)
  refine lv_pop hx hb ldL_law_384 rfl ?_
  refine lv_aload_n hx hb ldL_law_385 rfl (lv_at hl 1 rfl) ?_
  refine lv_aload_n hx hb ldL_law_386 rfl (lv_at hl 3 rfl) ?_
  refine lv_iload_n hx hb ldL_law_387 rfl (lv_at hl 0 rfl) ?_
  refine lv_iconst (v := zI 1) hx hb ldL_law_388 rfl ?_
  refine z_iadd (z := (i : Int) + 1) hx hb ldL_law_389 (by omega) ?_
  refine va_sld hx hb hX hbl hbA w.2.2.1 (vpi hix1.1 (by rw [hix1.2]; omega)) ldL_law_390 ?_
  refine r_val ((congrArg xs hix1.2).trans ex1) ?_
  refine k_Vi F w (As := [.int (zI x1)]) (rest := []) (a := 146) (kd_lt (a := 146) (show kd 146 = (12, 0, 0) from rfl) (by decide)) (sh_12 rfl _ _) rfl (Ci_and2 (q_X12_hush (t := x1) ⟨by omega, by omega⟩ hJ4.1.2.1) (m_hush hJ4.2.2 (t9 := x1) (by constructor <;> omega)) (by decide) (by decide)) lgv_L_49 lhv_X12_hush ⟨(Nat.le_of_ble_eq_true rfl), (Nat.le_of_ble_eq_true rfl)⟩ hl.1 rfl (Nat.le_of_ble_eq_true rfl) ⟨(Nat.le_of_ble_eq_true rfl), (Nat.le_of_ble_eq_true rfl)⟩ ldL_law_391 (fun r5 N6 H locs hp w => ?_)
  obtain ⟨hp, M2N6, hAN6, hqN6⟩ := hp
  obtain ⟨z7, erz7, bz7, hIN6, hFN6⟩ := hp
  subst erz7
  obtain ⟨xwN6, HwN6, kwN6, hKN6, hPN6, hrN6⟩ := AR.c hqN6 hAN6 hJ4.2.2
  have hJ8 := Jg.r hJ4 hIN6 hFN6 (fun b9 k9 h => by (try dsimp only at h); rcases h with ⟨rfl, rfl⟩ | rfl | rfl <;> first | decide | omega) (isTr.F hJ4.1.2.2.2.1 hFN6 (by first | decide | (dsimp only; first | done | decide | omega) | omega) (fun k9 => by first | decide | (dsimp only; first | done | decide | omega) | omega)) (hJ4.1.2.2.2.2.2) (hKN6)
  have hal := AP.al hk9 (al_hush hb1 hb2) (alF.e hb1 hb2) hHG hPN2 hPN6
  refine lv_pop hx hb ldL_law_394 rfl ?_
  refine lv_goto (tgt := 1065) hx hb ldL_law_395 (by decide) ?_
  exact kk _ _ _ (Jx.of hJ8 rfl (by omega) rfl rfl hal.2.1 hal.1 hal.2.2.1) w
theorem ldL_law_398 : decode cL_law 398 = .ok (.aload_n 1, 1) := dq0 kk_43 (by decide +kernel)
theorem ldL_law_399 : decode cL_law 399 = .ok (.aload_n 0, 1) := dq0 kk_42 (by decide +kernel)
theorem ldL_law_400 : decode cL_law 400 = .ok (.iload_n 3, 1) := dq0 kk_29 (by decide +kernel)
theorem ldL_law_401 : decode cL_law 401 = .ok (.iconst 1, 1) := dq0 kk_4 (by decide +kernel)
theorem ldL_law_402 : decode cL_law 402 = .ok (.iadd, 1) := dq0 kk_96 (by decide +kernel)
theorem ldL_law_403 : decode cL_law 403 = .ok (.iaload, 1) := dq0 kk_46 (by decide +kernel)
theorem ldL_law_404 : decode cL_law 404 = .ok (.aload_n 0, 1) := dq0 kk_42 (by decide +kernel)
theorem ldL_law_405 : decode cL_law 405 = .ok (.iload_n 3, 1) := dq0 kk_29 (by decide +kernel)
theorem ldL_law_406 : decode cL_law 406 = .ok (.iconst 2, 1) := dq0 kk_5 (by decide +kernel)
theorem ldL_law_407 : decode cL_law 407 = .ok (.iadd, 1) := dq0 kk_96 (by decide +kernel)
theorem ldL_law_408 : decode cL_law 408 = .ok (.iaload, 1) := dq0 kk_46 (by decide +kernel)
theorem ldL_law_409 : decode cL_law 409 = .ok (.invokevirtual 50, 3) := dqV kk_182 (by decide +kernel)
theorem ltk_X11_turn : Cond.code yX11_turn cX11_turn 4 (some .int) ∈ TB := tbm (tc3 (List.mem_of_getElem? (i := 176) rfl)) rfl
theorem lgc_X11_turn : GoodIn TB (cw yX11_turn cX11_turn 4 (some .int)) := goodIn_c2 ltk_X11_turn
theorem ltb_50 : Cond.methodLink "ToneLinesLaw" 50 yX11_turn ∈ TB := tbm (tc3 (List.mem_of_getElem? (i := 173) rfl)) rfl
theorem ltb_51 : Cond.instanceMethod yX11_turn ∈ TB := tbm (tc3 (List.mem_of_getElem? (i := 174) rfl)) rfl
theorem ltb_52 : Cond.selects "ToneLines" yX11_turn yX11_turn ∈ TB := tbm (tc3 (List.mem_of_getElem? (i := 175) rfl)) rfl
theorem lgv_L_50 : GoodIn TB (wsV RL 50 RX11 yX11_turn (cw yX11_turn cX11_turn 4 (some .int))) := goodIn_4 ltb_50 ltb_51 ltb_52 ltb_3 lgc_X11_turn
theorem lhv_X11_turn : yX11_turn.cls = RX11 ∧ yX11_turn.cls ≠ "java/lang/invoke/MethodHandle" ∧ yX11_turn.cls ≠ "java/lang/invoke/VarHandle" ∧ (parseMethodDescriptor yX11_turn.desc).map (fun d => d.parameters.length) = some 2 := by decide +kernel
theorem ldL_law_412 : decode cL_law 412 = .ok (.pop, 1) := dq0 kk_87 (by decide +kernel)
theorem ldL_law_413 : decode cL_law 413 = .ok (.aload_n 2, 1) := dq0 kk_44 (by decide +kernel)
theorem ldL_law_414 : decode cL_law 414 = .ok (.aload_n 0, 1) := dq0 kk_42 (by decide +kernel)
theorem ldL_law_415 : decode cL_law 415 = .ok (.iload_n 3, 1) := dq0 kk_29 (by decide +kernel)
theorem ldL_law_416 : decode cL_law 416 = .ok (.iconst 1, 1) := dq0 kk_4 (by decide +kernel)
theorem ldL_law_417 : decode cL_law 417 = .ok (.iadd, 1) := dq0 kk_96 (by decide +kernel)
theorem ldL_law_418 : decode cL_law 418 = .ok (.iaload, 1) := dq0 kk_46 (by decide +kernel)
theorem ldL_law_419 : decode cL_law 419 = .ok (.aload_n 0, 1) := dq0 kk_42 (by decide +kernel)
theorem ldL_law_420 : decode cL_law 420 = .ok (.iload_n 3, 1) := dq0 kk_29 (by decide +kernel)
theorem ldL_law_421 : decode cL_law 421 = .ok (.iconst 2, 1) := dq0 kk_5 (by decide +kernel)
theorem ldL_law_422 : decode cL_law 422 = .ok (.iadd, 1) := dq0 kk_96 (by decide +kernel)
theorem ldL_law_423 : decode cL_law 423 = .ok (.iaload, 1) := dq0 kk_46 (by decide +kernel)
theorem ldL_law_424 : decode cL_law 424 = .ok (.invokevirtual 54, 3) := dqV kk_182 (by decide +kernel)
theorem ltk_X12_turn : Cond.code yX12_turn cX12_turn 4 (some .int) ∈ TB := tbm (tc6 (List.mem_of_getElem? (i := 28) rfl)) rfl
theorem lgc_X12_turn : GoodIn TB (cw yX12_turn cX12_turn 4 (some .int)) := goodIn_c2 ltk_X12_turn
theorem ltb_53 : Cond.methodLink "ToneLinesLaw" 54 yX12_turn ∈ TB := tbm (tc6 (List.mem_of_getElem? (i := 25) rfl)) rfl
theorem ltb_54 : Cond.instanceMethod yX12_turn ∈ TB := tbm (tc6 (List.mem_of_getElem? (i := 26) rfl)) rfl
theorem ltb_55 : Cond.selects "ToneLinesModel" yX12_turn yX12_turn ∈ TB := tbm (tc6 (List.mem_of_getElem? (i := 27) rfl)) rfl
theorem lgv_L_54 : GoodIn TB (wsV RL 54 RX12 yX12_turn (cw yX12_turn cX12_turn 4 (some .int))) := goodIn_4 ltb_53 ltb_54 ltb_55 ltb_7 lgc_X12_turn
theorem lhv_X12_turn : yX12_turn.cls = RX12 ∧ yX12_turn.cls ≠ "java/lang/invoke/MethodHandle" ∧ yX12_turn.cls ≠ "java/lang/invoke/VarHandle" ∧ (parseMethodDescriptor yX12_turn.desc).map (fun d => d.parameters.length) = some 2 := by decide +kernel
theorem ldL_law_427 : decode cL_law 427 = .ok (.pop, 1) := dq0 kk_87 (by decide +kernel)
theorem ldL_law_428 : decode cL_law 428 = .ok (.goto 637, 3) := dqT kk_167 (by decide +kernel)
set_option maxRecDepth 8000 in
set_option maxHeartbeats 1000000 in
theorem lc_8 {p : Program} {l : Launch} {e : Env} {s : State} {m : MethodId} {below : List Frame} {meth : Method} {c : Code} {D : va_G} {B b L : Nat} {cy : Nat → ClassId} {H : Heap} {locs : List Loc} {ls : Array Slot} {xs : Nat → Int32} {M : Mem} {Q : State → Prop} {i : Nat} (F : CallFix p m c code 4 s #[Value.ref b] TB RL) (hX : va_X b L xs s s.heap) (hbl : b < s.heap.size) (hbA : ¬ B ≤ b) (hi : i + 6 ≤ L) (hL : L ≤ 3072) (hJx : Jx M) (w : Wd D B cy s s.heap M H locs) (hl : lv_has ls 4 [(3, .int (zI (i : Int))), (2, .ref (B + 146)), (1, .ref (B + 0)), (0, .ref b)]) (kk : ∀ (M1 : Mem) (H1 : Heap) (locs1 : List Loc), Jx M1 → Wd D B cy s s.heap M1 H1 locs1 → W p l e room_1 s m #[Value.ref b] below meth c H1 locs1 159 13107 Q (F0 m 1065 ls [])) : W p l e room_1 s m #[Value.ref b] below meth c H locs 159 13107 Q (F0 m 398 ls []) := by
  have hx := F.1
  have hb := F.2.1
  obtain ⟨T, tn, Ps, mr, xw, Hs, kw, yw, Gs, hJ, hxy, hHG⟩ := hJx
  obtain ⟨qw, hv, ed, hv2, ed2, o, rfl, rfl, hb1, hb2⟩ := hxy.i
  have hta := hJ.1.2.2.2.2.1.1
  have hk9 : kw ≤ 12 := hJ.2.2.2.2.2.2.1
  have hix1 := ix_z (z := (i : Int) + 1) (by omega) (by omega)
  obtain ⟨x1, bx1, ex1⟩ := rg_ex (xs ((i : Int) + 1).toNat)
  have hix2 := ix_z (z := (i : Int) + 2) (by omega) (by omega)
  obtain ⟨x2, bx2, ex2⟩ := rg_ex (xs ((i : Int) + 2).toNat)
  refine lv_aload_n hx hb ldL_law_398 rfl (lv_at hl 2 rfl) ?_
  refine lv_aload_n hx hb ldL_law_399 rfl (lv_at hl 3 rfl) ?_
  refine lv_iload_n hx hb ldL_law_400 rfl (lv_at hl 0 rfl) ?_
  refine lv_iconst (v := zI 1) hx hb ldL_law_401 rfl ?_
  refine z_iadd (z := (i : Int) + 1) hx hb ldL_law_402 (by omega) ?_
  refine va_sld hx hb hX hbl hbA w.2.2.1 (vpi hix1.1 (by rw [hix1.2]; omega)) ldL_law_403 ?_
  refine r_val ((congrArg xs hix1.2).trans ex1) ?_
  refine lv_aload_n hx hb ldL_law_404 rfl (lv_at hl 3 rfl) ?_
  refine lv_iload_n hx hb ldL_law_405 rfl (lv_at hl 0 rfl) ?_
  refine lv_iconst (v := zI 2) hx hb ldL_law_406 rfl ?_
  refine z_iadd (z := (i : Int) + 2) hx hb ldL_law_407 (by omega) ?_
  refine va_sld hx hb hX hbl hbA w.2.2.1 (vpi hix2.1 (by rw [hix2.2]; omega)) ldL_law_408 ?_
  refine r_val ((congrArg xs hix2.2).trans ex2) ?_
  obtain ⟨rd9, hC9⟩ := hJ.2.1
  refine k_Vi F w (As := [.int (zI x1), .int (zI x2)]) (rest := []) (a := 0) (kd_lt (a := 0) (show kd 0 = (11, 0, 0) from rfl) (by decide)) (sh_11 rfl _ _) rfl (Ci_and2 (q_X11_turn (t := x1) ⟨by omega, by omega⟩ (x := x2) ⟨by omega, by omega⟩ hJ.1.1) (g_turn hC9 (t9 := x1) (u9 := x2) (by constructor <;> omega) (by constructor <;> omega)) (by decide) (by decide)) lgv_L_50 lhv_X11_turn ⟨(Nat.le_of_ble_eq_true rfl), (Nat.le_of_ble_eq_true rfl)⟩ hl.1 rfl (Nat.le_of_ble_eq_true rfl) ⟨(Nat.le_of_ble_eq_true rfl), (Nat.le_of_ble_eq_true rfl)⟩ ldL_law_409 (fun r1 N2 H locs hp w => ?_)
  obtain ⟨hp, M2N2, hAN2, hqN2⟩ := hp
  obtain ⟨z3, erz3, bz3, hIN2, hFN2⟩ := hp
  subst erz3
  obtain ⟨xwN2, HwN2, kwN2, hKN2, hPN2, hrN2⟩ := AQ.c hqN2 hAN2 ⟨rd9, hC9⟩
  have hJ4 := Jg.c hJ hIN2 hFN2 (fun b9 k9 h => by (try dsimp only at h); rcases h with ⟨rfl, rfl⟩ | ⟨rfl, rfl⟩ | ⟨rfl, rfl⟩ | ⟨rfl, rfl⟩ | rfl | rfl | ⟨q1, q2⟩ <;> first | decide | omega) (isTc.F hJ.1.2.2.1 hFN2 (by first | decide | (dsimp only; first | done | decide | omega) | omega) (fun k9 => by first | decide | (dsimp only; first | done | decide | omega) | omega)) (hJ.1.2.2.2.2.1) (hKN2)
  refine lv_pop hx hb ldL_law_412 rfl ?_
  refine lv_aload_n hx hb ldL_law_413 rfl (lv_at hl 1 rfl) ?_
  refine lv_aload_n hx hb ldL_law_414 rfl (lv_at hl 3 rfl) ?_
  refine lv_iload_n hx hb ldL_law_415 rfl (lv_at hl 0 rfl) ?_
  refine lv_iconst (v := zI 1) hx hb ldL_law_416 rfl ?_
  refine z_iadd (z := (i : Int) + 1) hx hb ldL_law_417 (by omega) ?_
  refine va_sld hx hb hX hbl hbA w.2.2.1 (vpi hix1.1 (by rw [hix1.2]; omega)) ldL_law_418 ?_
  refine r_val ((congrArg xs hix1.2).trans ex1) ?_
  refine lv_aload_n hx hb ldL_law_419 rfl (lv_at hl 3 rfl) ?_
  refine lv_iload_n hx hb ldL_law_420 rfl (lv_at hl 0 rfl) ?_
  refine lv_iconst (v := zI 2) hx hb ldL_law_421 rfl ?_
  refine z_iadd (z := (i : Int) + 2) hx hb ldL_law_422 (by omega) ?_
  refine va_sld hx hb hX hbl hbA w.2.2.1 (vpi hix2.1 (by rw [hix2.2]; omega)) ldL_law_423 ?_
  refine r_val ((congrArg xs hix2.2).trans ex2) ?_
  refine k_Vi F w (As := [.int (zI x1), .int (zI x2)]) (rest := []) (a := 146) (kd_lt (a := 146) (show kd 146 = (12, 0, 0) from rfl) (by decide)) (sh_12 rfl _ _) rfl (Ci_and2 (q_X12_turn (t := x1) ⟨by omega, by omega⟩ (x := x2) ⟨by omega, by omega⟩ hJ4.1.2.1) (m_turn hJ4.2.2 (t9 := x1) (u9 := x2) (by constructor <;> omega) (by constructor <;> omega)) (by decide) (by decide)) lgv_L_54 lhv_X12_turn ⟨(Nat.le_of_ble_eq_true rfl), (Nat.le_of_ble_eq_true rfl)⟩ hl.1 rfl (Nat.le_of_ble_eq_true rfl) ⟨(Nat.le_of_ble_eq_true rfl), (Nat.le_of_ble_eq_true rfl)⟩ ldL_law_424 (fun r5 N6 H locs hp w => ?_)
  obtain ⟨hp, M2N6, hAN6, hqN6⟩ := hp
  obtain ⟨z7, erz7, bz7, hIN6, hFN6⟩ := hp
  subst erz7
  obtain ⟨xwN6, HwN6, kwN6, hKN6, hPN6, hrN6⟩ := AR.c hqN6 hAN6 hJ4.2.2
  have hJ8 := Jg.r hJ4 hIN6 hFN6 (fun b9 k9 h => by (try dsimp only at h); rcases h with ⟨rfl, rfl⟩ | rfl | ⟨rfl, q1, q2⟩ <;> first | decide | omega) (isTr.F hJ4.1.2.2.2.1 hFN6 (by first | decide | (dsimp only; first | done | decide | omega) | omega) (fun k9 => by first | decide | (dsimp only; first | done | decide | omega) | omega)) (hJ4.1.2.2.2.2.2) (hKN6)
  have hal := AP.al hk9 (al_turn hb1 hb2) (alF.e hb1 hb2) hHG hPN2 hPN6
  refine lv_pop hx hb ldL_law_427 rfl ?_
  refine lv_goto (tgt := 1065) hx hb ldL_law_428 (by decide) ?_
  exact kk _ _ _ (Jx.of hJ8 rfl (by omega) rfl rfl hal.2.1 hal.1 hal.2.2.1) w
theorem ldL_law_431 : decode cL_law 431 = .ok (.aload_n 1, 1) := dq0 kk_43 (by decide +kernel)
theorem ldL_law_432 : decode cL_law 432 = .ok (.aload_n 0, 1) := dq0 kk_42 (by decide +kernel)
theorem ldL_law_433 : decode cL_law 433 = .ok (.iload_n 3, 1) := dq0 kk_29 (by decide +kernel)
theorem ldL_law_434 : decode cL_law 434 = .ok (.iconst 1, 1) := dq0 kk_4 (by decide +kernel)
theorem ldL_law_435 : decode cL_law 435 = .ok (.iadd, 1) := dq0 kk_96 (by decide +kernel)
theorem ldL_law_436 : decode cL_law 436 = .ok (.iaload, 1) := dq0 kk_46 (by decide +kernel)
theorem ldL_law_437 : decode cL_law 437 = .ok (.ifCond .eq 7, 3) := dqT kk_153 (by decide +kernel)
theorem ldL_law_444 : decode cL_law 444 = .ok (.iconst 0, 1) := dq0 kk_3 (by decide +kernel)
theorem ldL_law_445 : decode cL_law 445 = .ok (.aload_n 0, 1) := dq0 kk_42 (by decide +kernel)
theorem ldL_law_446 : decode cL_law 446 = .ok (.iload_n 3, 1) := dq0 kk_29 (by decide +kernel)
theorem ldL_law_447 : decode cL_law 447 = .ok (.iconst 2, 1) := dq0 kk_5 (by decide +kernel)
theorem ldL_law_448 : decode cL_law 448 = .ok (.iadd, 1) := dq0 kk_96 (by decide +kernel)
theorem ldL_law_449 : decode cL_law 449 = .ok (.iaload, 1) := dq0 kk_46 (by decide +kernel)
theorem ldL_law_450 : decode cL_law 450 = .ok (.ifCond .eq 7, 3) := dqT kk_153 (by decide +kernel)
theorem ldL_law_457 : decode cL_law 457 = .ok (.iconst 0, 1) := dq0 kk_3 (by decide +kernel)
theorem ldL_law_458 : decode cL_law 458 = .ok (.invokevirtual 55, 3) := dqV kk_182 (by decide +kernel)
theorem ltk_X11_grow : Cond.code yX11_grow cX11_grow 3 (some .boolean) ∈ TB := tbm (tc3 (List.mem_of_getElem? (i := 180) rfl)) rfl
theorem lgc_X11_grow : GoodIn TB (cw yX11_grow cX11_grow 3 (some .boolean)) := goodIn_c2 ltk_X11_grow
theorem ltb_56 : Cond.methodLink "ToneLinesLaw" 55 yX11_grow ∈ TB := tbm (tc3 (List.mem_of_getElem? (i := 177) rfl)) rfl
theorem ltb_57 : Cond.instanceMethod yX11_grow ∈ TB := tbm (tc3 (List.mem_of_getElem? (i := 178) rfl)) rfl
theorem ltb_58 : Cond.selects "ToneLines" yX11_grow yX11_grow ∈ TB := tbm (tc3 (List.mem_of_getElem? (i := 179) rfl)) rfl
theorem lgv_L_55 : GoodIn TB (wsV RL 55 RX11 yX11_grow (cw yX11_grow cX11_grow 3 (some .boolean))) := goodIn_4 ltb_56 ltb_57 ltb_58 ltb_3 lgc_X11_grow
theorem lhv_X11_grow : yX11_grow.cls = RX11 ∧ yX11_grow.cls ≠ "java/lang/invoke/MethodHandle" ∧ yX11_grow.cls ≠ "java/lang/invoke/VarHandle" ∧ (parseMethodDescriptor yX11_grow.desc).map (fun d => d.parameters.length) = some 2 := by decide +kernel
theorem ldL_law_461 : decode cL_law 461 = .ok (.pop, 1) := dq0 kk_87 (by decide +kernel)
theorem ldL_law_462 : decode cL_law 462 = .ok (.aload_n 2, 1) := dq0 kk_44 (by decide +kernel)
theorem ldL_law_463 : decode cL_law 463 = .ok (.aload_n 0, 1) := dq0 kk_42 (by decide +kernel)
theorem ldL_law_464 : decode cL_law 464 = .ok (.iload_n 3, 1) := dq0 kk_29 (by decide +kernel)
theorem ldL_law_465 : decode cL_law 465 = .ok (.iconst 1, 1) := dq0 kk_4 (by decide +kernel)
theorem ldL_law_466 : decode cL_law 466 = .ok (.iadd, 1) := dq0 kk_96 (by decide +kernel)
theorem ldL_law_467 : decode cL_law 467 = .ok (.iaload, 1) := dq0 kk_46 (by decide +kernel)
theorem ldL_law_468 : decode cL_law 468 = .ok (.ifCond .eq 7, 3) := dqT kk_153 (by decide +kernel)
theorem ldL_law_475 : decode cL_law 475 = .ok (.iconst 0, 1) := dq0 kk_3 (by decide +kernel)
theorem ldL_law_476 : decode cL_law 476 = .ok (.aload_n 0, 1) := dq0 kk_42 (by decide +kernel)
theorem ldL_law_477 : decode cL_law 477 = .ok (.iload_n 3, 1) := dq0 kk_29 (by decide +kernel)
theorem ldL_law_478 : decode cL_law 478 = .ok (.iconst 2, 1) := dq0 kk_5 (by decide +kernel)
theorem ldL_law_479 : decode cL_law 479 = .ok (.iadd, 1) := dq0 kk_96 (by decide +kernel)
theorem ldL_law_480 : decode cL_law 480 = .ok (.iaload, 1) := dq0 kk_46 (by decide +kernel)
theorem ldL_law_481 : decode cL_law 481 = .ok (.ifCond .eq 7, 3) := dqT kk_153 (by decide +kernel)
theorem ldL_law_488 : decode cL_law 488 = .ok (.iconst 0, 1) := dq0 kk_3 (by decide +kernel)
theorem ldL_law_489 : decode cL_law 489 = .ok (.invokevirtual 59, 3) := dqV kk_182 (by decide +kernel)
theorem ltk_X12_grow : Cond.code yX12_grow cX12_grow 4 (some .boolean) ∈ TB := tbm (tc6 (List.mem_of_getElem? (i := 32) rfl)) rfl
theorem lgc_X12_grow : GoodIn TB (cw yX12_grow cX12_grow 4 (some .boolean)) := goodIn_c2 ltk_X12_grow
theorem ltb_59 : Cond.methodLink "ToneLinesLaw" 59 yX12_grow ∈ TB := tbm (tc6 (List.mem_of_getElem? (i := 29) rfl)) rfl
theorem ltb_60 : Cond.instanceMethod yX12_grow ∈ TB := tbm (tc6 (List.mem_of_getElem? (i := 30) rfl)) rfl
theorem ltb_61 : Cond.selects "ToneLinesModel" yX12_grow yX12_grow ∈ TB := tbm (tc6 (List.mem_of_getElem? (i := 31) rfl)) rfl
theorem lgv_L_59 : GoodIn TB (wsV RL 59 RX12 yX12_grow (cw yX12_grow cX12_grow 4 (some .boolean))) := goodIn_4 ltb_59 ltb_60 ltb_61 ltb_7 lgc_X12_grow
theorem lhv_X12_grow : yX12_grow.cls = RX12 ∧ yX12_grow.cls ≠ "java/lang/invoke/MethodHandle" ∧ yX12_grow.cls ≠ "java/lang/invoke/VarHandle" ∧ (parseMethodDescriptor yX12_grow.desc).map (fun d => d.parameters.length) = some 2 := by decide +kernel
theorem ldL_law_492 : decode cL_law 492 = .ok (.pop, 1) := dq0 kk_87 (by decide +kernel)
theorem ldL_law_493 : decode cL_law 493 = .ok (.goto 572, 3) := dqT kk_167 (by decide +kernel)
theorem ldL_law_453 : decode cL_law 453 = .ok (.iconst 1, 1) := dq0 kk_4 (by decide +kernel)
theorem ldL_law_454 : decode cL_law 454 = .ok (.goto 4, 3) := dqT kk_167 (by decide +kernel)
theorem ldL_law_484 : decode cL_law 484 = .ok (.iconst 1, 1) := dq0 kk_4 (by decide +kernel)
theorem ldL_law_485 : decode cL_law 485 = .ok (.goto 4, 3) := dqT kk_167 (by decide +kernel)
theorem ldL_law_440 : decode cL_law 440 = .ok (.iconst 1, 1) := dq0 kk_4 (by decide +kernel)
theorem ldL_law_441 : decode cL_law 441 = .ok (.goto 4, 3) := dqT kk_167 (by decide +kernel)
theorem ldL_law_471 : decode cL_law 471 = .ok (.iconst 1, 1) := dq0 kk_4 (by decide +kernel)
theorem ldL_law_472 : decode cL_law 472 = .ok (.goto 4, 3) := dqT kk_167 (by decide +kernel)
set_option maxRecDepth 8000 in
set_option maxHeartbeats 1000000 in
theorem lc_9 {p : Program} {l : Launch} {e : Env} {s : State} {m : MethodId} {below : List Frame} {meth : Method} {c : Code} {D : va_G} {B b L : Nat} {cy : Nat → ClassId} {H : Heap} {locs : List Loc} {ls : Array Slot} {xs : Nat → Int32} {M : Mem} {Q : State → Prop} {i : Nat} (F : CallFix p m c code 4 s #[Value.ref b] TB RL) (hX : va_X b L xs s s.heap) (hbl : b < s.heap.size) (hbA : ¬ B ≤ b) (hi : i + 6 ≤ L) (hL : L ≤ 3072) (hJx : Jx M) (w : Wd D B cy s s.heap M H locs) (hl : lv_has ls 4 [(3, .int (zI (i : Int))), (2, .ref (B + 146)), (1, .ref (B + 0)), (0, .ref b)]) (kk : ∀ (M1 : Mem) (H1 : Heap) (locs1 : List Loc), Jx M1 → Wd D B cy s s.heap M1 H1 locs1 → W p l e room_1 s m #[Value.ref b] below meth c H1 locs1 159 13107 Q (F0 m 1065 ls [])) : W p l e room_1 s m #[Value.ref b] below meth c H locs 159 13107 Q (F0 m 431 ls []) := by
  have hx := F.1
  have hb := F.2.1
  obtain ⟨T, tn, Ps, mr, xw, Hs, kw, yw, Gs, hJ, hxy, hHG⟩ := hJx
  obtain ⟨qw, hv, ed, hv2, ed2, o, rfl, rfl, hb1, hb2⟩ := hxy.i
  have hta := hJ.1.2.2.2.2.1.1
  have hk9 : kw ≤ 12 := hJ.2.2.2.2.2.2.1
  have hix1 := ix_z (z := (i : Int) + 1) (by omega) (by omega)
  obtain ⟨x1, bx1, ex1⟩ := rg_ex (xs ((i : Int) + 1).toNat)
  have hix2 := ix_z (z := (i : Int) + 2) (by omega) (by omega)
  obtain ⟨x2, bx2, ex2⟩ := rg_ex (xs ((i : Int) + 2).toNat)
  refine lv_aload_n hx hb ldL_law_431 rfl (lv_at hl 2 rfl) ?_
  refine lv_aload_n hx hb ldL_law_432 rfl (lv_at hl 3 rfl) ?_
  refine lv_iload_n hx hb ldL_law_433 rfl (lv_at hl 0 rfl) ?_
  refine lv_iconst (v := zI 1) hx hb ldL_law_434 rfl ?_
  refine z_iadd (z := (i : Int) + 1) hx hb ldL_law_435 (by omega) ?_
  refine va_sld hx hb hX hbl hbA w.2.2.1 (vpi hix1.1 (by rw [hix1.2]; omega)) ldL_law_436 ?_
  refine r_val ((congrArg xs hix1.2).trans ex1) ?_
  refine z_if_eq (tgt := 444) hx hb (by omega) ldL_law_437 (by decide) (fun c1 => ?_) (fun c1 => ?_)
  · refine lv_iconst (v := zI 0) hx hb ldL_law_444 rfl ?_
    refine lv_aload_n hx hb ldL_law_445 rfl (lv_at hl 3 rfl) ?_
    refine lv_iload_n hx hb ldL_law_446 rfl (lv_at hl 0 rfl) ?_
    refine lv_iconst (v := zI 2) hx hb ldL_law_447 rfl ?_
    refine z_iadd (z := (i : Int) + 2) hx hb ldL_law_448 (by omega) ?_
    refine va_sld hx hb hX hbl hbA w.2.2.1 (vpi hix2.1 (by rw [hix2.2]; omega)) ldL_law_449 ?_
    refine r_val ((congrArg xs hix2.2).trans ex2) ?_
    refine z_if_eq (tgt := 457) hx hb (by omega) ldL_law_450 (by decide) (fun c2 => ?_) (fun c2 => ?_)
    · refine lv_iconst (v := zI 0) hx hb ldL_law_457 rfl ?_
      obtain ⟨rd9, hC9⟩ := hJ.2.1
      refine k_Vi F w (As := [.int (zI 0), .int (zI 0)]) (rest := []) (a := 0) (kd_lt (a := 0) (show kd 0 = (11, 0, 0) from rfl) (by decide)) (sh_11 rfl _ _) rfl (Ci_and2 (q_X11_grow (x := 0) ⟨by omega, by omega⟩ (x1 := 0) ⟨by omega, by omega⟩ hJ.1.1) (g_grow hC9 (b1 := 0) (b2 := 0) (by omega) (by omega)) (by decide) (by decide)) lgv_L_55 lhv_X11_grow ⟨(Nat.le_of_ble_eq_true rfl), (Nat.le_of_ble_eq_true rfl)⟩ hl.1 rfl (Nat.le_of_ble_eq_true rfl) ⟨(Nat.le_of_ble_eq_true rfl), (Nat.le_of_ble_eq_true rfl)⟩ ldL_law_458 (fun r3 N4 H locs hp w => ?_)
      obtain ⟨hp, M2N4, hAN4, hqN4⟩ := hp
      obtain ⟨z5, erz5, bz5, hIN4, hFN4⟩ := hp
      subst erz5
      obtain ⟨xwN4, HwN4, kwN4, hKN4, hPN4, hrN4⟩ := AQ.c hqN4 hAN4 ⟨rd9, hC9⟩
      have hJ6 := Jg.c hJ hIN4 hFN4 (fun b9 k9 h => by (try dsimp only at h); rcases h with ⟨rfl, rfl⟩ | ⟨rfl, rfl⟩ | ⟨rfl, rfl⟩ | ⟨rfl, rfl⟩ | rfl | rfl | ⟨q1, q2⟩ <;> first | decide | omega) (isTc.F hJ.1.2.2.1 hFN4 (by first | decide | (dsimp only; first | done | decide | omega) | omega) (fun k9 => by first | decide | (dsimp only; first | done | decide | omega) | omega)) (hJ.1.2.2.2.2.1) (hKN4)
      refine lv_pop hx hb ldL_law_461 rfl ?_
      refine lv_aload_n hx hb ldL_law_462 rfl (lv_at hl 1 rfl) ?_
      refine lv_aload_n hx hb ldL_law_463 rfl (lv_at hl 3 rfl) ?_
      refine lv_iload_n hx hb ldL_law_464 rfl (lv_at hl 0 rfl) ?_
      refine lv_iconst (v := zI 1) hx hb ldL_law_465 rfl ?_
      refine z_iadd (z := (i : Int) + 1) hx hb ldL_law_466 (by omega) ?_
      refine va_sld hx hb hX hbl hbA w.2.2.1 (vpi hix1.1 (by rw [hix1.2]; omega)) ldL_law_467 ?_
      refine r_val ((congrArg xs hix1.2).trans ex1) ?_
      refine z_if_eq (tgt := 475) hx hb (by omega) ldL_law_468 (by decide) (fun c => ?_) (fun c => False.elim (by omega))
      refine lv_iconst (v := zI 0) hx hb ldL_law_475 rfl ?_
      refine lv_aload_n hx hb ldL_law_476 rfl (lv_at hl 3 rfl) ?_
      refine lv_iload_n hx hb ldL_law_477 rfl (lv_at hl 0 rfl) ?_
      refine lv_iconst (v := zI 2) hx hb ldL_law_478 rfl ?_
      refine z_iadd (z := (i : Int) + 2) hx hb ldL_law_479 (by omega) ?_
      refine va_sld hx hb hX hbl hbA w.2.2.1 (vpi hix2.1 (by rw [hix2.2]; omega)) ldL_law_480 ?_
      refine r_val ((congrArg xs hix2.2).trans ex2) ?_
      refine z_if_eq (tgt := 488) hx hb (by omega) ldL_law_481 (by decide) (fun c => ?_) (fun c => False.elim (by omega))
      refine lv_iconst (v := zI 0) hx hb ldL_law_488 rfl ?_
      refine k_Vi F w (As := [.int (zI 0), .int (zI 0)]) (rest := []) (a := 146) (kd_lt (a := 146) (show kd 146 = (12, 0, 0) from rfl) (by decide)) (sh_12 rfl _ _) rfl (Ci_and2 (q_X12_grow (x := 0) ⟨by omega, by omega⟩ (x1 := 0) ⟨by omega, by omega⟩ hJ6.1.2.1) (m_grow hJ6.2.2 (b1 := 0) (b2 := 0) (by omega) (by omega)) (by decide) (by decide)) lgv_L_59 lhv_X12_grow ⟨(Nat.le_of_ble_eq_true rfl), (Nat.le_of_ble_eq_true rfl)⟩ hl.1 rfl (Nat.le_of_ble_eq_true rfl) ⟨(Nat.le_of_ble_eq_true rfl), (Nat.le_of_ble_eq_true rfl)⟩ ldL_law_489 (fun r7 N8 H locs hp w => ?_)
      obtain ⟨hp, M2N8, hAN8, hqN8⟩ := hp
      obtain ⟨z9, erz9, bz9, hIN8, hFN8⟩ := hp
      subst erz9
      obtain ⟨xwN8, HwN8, kwN8, hKN8, hPN8, hrN8⟩ := AR.c hqN8 hAN8 hJ6.2.2
      have hJ10 := Jg.r hJ6 hIN8 hFN8 (fun b9 k9 h => by (try dsimp only at h); rcases h with ⟨rfl, rfl⟩ | rfl | ⟨rfl, q1, q2⟩ | ⟨rfl, q1, q2⟩ | ⟨rfl, q1, q2⟩ <;> first | decide | omega) (isTr.F hJ6.1.2.2.2.1 hFN8 (by first | decide | (dsimp only; first | done | decide | omega) | omega) (fun k9 => by first | decide | (dsimp only; first | done | decide | omega) | omega)) (hJ6.1.2.2.2.2.2) (hKN8)
      have hal := AP.al hk9 (al_grow hb1 hb2) (alF.e hb1 hb2) hHG hPN4 hPN8
      refine lv_pop hx hb ldL_law_492 rfl ?_
      refine lv_goto (tgt := 1065) hx hb ldL_law_493 (by decide) ?_
      exact kk _ _ _ (Jx.of hJ10 rfl (by omega) rfl rfl hal.2.1 hal.1 hal.2.2.1) w
    · refine lv_iconst (v := zI 1) hx hb ldL_law_453 rfl ?_
      refine lv_goto (tgt := 458) hx hb ldL_law_454 (by decide) ?_
      obtain ⟨rd9, hC9⟩ := hJ.2.1
      refine k_Vi F w (As := [.int (zI 0), .int (zI 1)]) (rest := []) (a := 0) (kd_lt (a := 0) (show kd 0 = (11, 0, 0) from rfl) (by decide)) (sh_11 rfl _ _) rfl (Ci_and2 (q_X11_grow (x := 0) ⟨by omega, by omega⟩ (x1 := 1) ⟨by omega, by omega⟩ hJ.1.1) (g_grow hC9 (b1 := 0) (b2 := 1) (by omega) (by omega)) (by decide) (by decide)) lgv_L_55 lhv_X11_grow ⟨(Nat.le_of_ble_eq_true rfl), (Nat.le_of_ble_eq_true rfl)⟩ hl.1 rfl (Nat.le_of_ble_eq_true rfl) ⟨(Nat.le_of_ble_eq_true rfl), (Nat.le_of_ble_eq_true rfl)⟩ ldL_law_458 (fun r11 N12 H locs hp w => ?_)
      obtain ⟨hp, M2N12, hAN12, hqN12⟩ := hp
      obtain ⟨z13, erz13, bz13, hIN12, hFN12⟩ := hp
      subst erz13
      obtain ⟨xwN12, HwN12, kwN12, hKN12, hPN12, hrN12⟩ := AQ.c hqN12 hAN12 ⟨rd9, hC9⟩
      have hJ14 := Jg.c hJ hIN12 hFN12 (fun b9 k9 h => by (try dsimp only at h); rcases h with ⟨rfl, rfl⟩ | ⟨rfl, rfl⟩ | ⟨rfl, rfl⟩ | ⟨rfl, rfl⟩ | rfl | rfl | ⟨q1, q2⟩ <;> first | decide | omega) (isTc.F hJ.1.2.2.1 hFN12 (by first | decide | (dsimp only; first | done | decide | omega) | omega) (fun k9 => by first | decide | (dsimp only; first | done | decide | omega) | omega)) (hJ.1.2.2.2.2.1) (hKN12)
      refine lv_pop hx hb ldL_law_461 rfl ?_
      refine lv_aload_n hx hb ldL_law_462 rfl (lv_at hl 1 rfl) ?_
      refine lv_aload_n hx hb ldL_law_463 rfl (lv_at hl 3 rfl) ?_
      refine lv_iload_n hx hb ldL_law_464 rfl (lv_at hl 0 rfl) ?_
      refine lv_iconst (v := zI 1) hx hb ldL_law_465 rfl ?_
      refine z_iadd (z := (i : Int) + 1) hx hb ldL_law_466 (by omega) ?_
      refine va_sld hx hb hX hbl hbA w.2.2.1 (vpi hix1.1 (by rw [hix1.2]; omega)) ldL_law_467 ?_
      refine r_val ((congrArg xs hix1.2).trans ex1) ?_
      refine z_if_eq (tgt := 475) hx hb (by omega) ldL_law_468 (by decide) (fun c => ?_) (fun c => False.elim (by omega))
      refine lv_iconst (v := zI 0) hx hb ldL_law_475 rfl ?_
      refine lv_aload_n hx hb ldL_law_476 rfl (lv_at hl 3 rfl) ?_
      refine lv_iload_n hx hb ldL_law_477 rfl (lv_at hl 0 rfl) ?_
      refine lv_iconst (v := zI 2) hx hb ldL_law_478 rfl ?_
      refine z_iadd (z := (i : Int) + 2) hx hb ldL_law_479 (by omega) ?_
      refine va_sld hx hb hX hbl hbA w.2.2.1 (vpi hix2.1 (by rw [hix2.2]; omega)) ldL_law_480 ?_
      refine r_val ((congrArg xs hix2.2).trans ex2) ?_
      refine z_if_eq (tgt := 488) hx hb (by omega) ldL_law_481 (by decide) (fun c => False.elim (by omega)) (fun c => ?_)
      refine lv_iconst (v := zI 1) hx hb ldL_law_484 rfl ?_
      refine lv_goto (tgt := 489) hx hb ldL_law_485 (by decide) ?_
      refine k_Vi F w (As := [.int (zI 0), .int (zI 1)]) (rest := []) (a := 146) (kd_lt (a := 146) (show kd 146 = (12, 0, 0) from rfl) (by decide)) (sh_12 rfl _ _) rfl (Ci_and2 (q_X12_grow (x := 0) ⟨by omega, by omega⟩ (x1 := 1) ⟨by omega, by omega⟩ hJ14.1.2.1) (m_grow hJ14.2.2 (b1 := 0) (b2 := 1) (by omega) (by omega)) (by decide) (by decide)) lgv_L_59 lhv_X12_grow ⟨(Nat.le_of_ble_eq_true rfl), (Nat.le_of_ble_eq_true rfl)⟩ hl.1 rfl (Nat.le_of_ble_eq_true rfl) ⟨(Nat.le_of_ble_eq_true rfl), (Nat.le_of_ble_eq_true rfl)⟩ ldL_law_489 (fun r15 N16 H locs hp w => ?_)
      obtain ⟨hp, M2N16, hAN16, hqN16⟩ := hp
      obtain ⟨z17, erz17, bz17, hIN16, hFN16⟩ := hp
      subst erz17
      obtain ⟨xwN16, HwN16, kwN16, hKN16, hPN16, hrN16⟩ := AR.c hqN16 hAN16 hJ14.2.2
      have hJ18 := Jg.r hJ14 hIN16 hFN16 (fun b9 k9 h => by (try dsimp only at h); rcases h with ⟨rfl, rfl⟩ | rfl | ⟨rfl, q1, q2⟩ | ⟨rfl, q1, q2⟩ | ⟨rfl, q1, q2⟩ <;> first | decide | omega) (isTr.F hJ14.1.2.2.2.1 hFN16 (by first | decide | (dsimp only; first | done | decide | omega) | omega) (fun k9 => by first | decide | (dsimp only; first | done | decide | omega) | omega)) (hJ14.1.2.2.2.2.2) (hKN16)
      have hal := AP.al hk9 (al_grow hb1 hb2) (alF.e hb1 hb2) hHG hPN12 hPN16
      refine lv_pop hx hb ldL_law_492 rfl ?_
      refine lv_goto (tgt := 1065) hx hb ldL_law_493 (by decide) ?_
      exact kk _ _ _ (Jx.of hJ18 rfl (by omega) rfl rfl hal.2.1 hal.1 hal.2.2.1) w
  · refine lv_iconst (v := zI 1) hx hb ldL_law_440 rfl ?_
    refine lv_goto (tgt := 445) hx hb ldL_law_441 (by decide) ?_
    refine lv_aload_n hx hb ldL_law_445 rfl (lv_at hl 3 rfl) ?_
    refine lv_iload_n hx hb ldL_law_446 rfl (lv_at hl 0 rfl) ?_
    refine lv_iconst (v := zI 2) hx hb ldL_law_447 rfl ?_
    refine z_iadd (z := (i : Int) + 2) hx hb ldL_law_448 (by omega) ?_
    refine va_sld hx hb hX hbl hbA w.2.2.1 (vpi hix2.1 (by rw [hix2.2]; omega)) ldL_law_449 ?_
    refine r_val ((congrArg xs hix2.2).trans ex2) ?_
    refine z_if_eq (tgt := 457) hx hb (by omega) ldL_law_450 (by decide) (fun c19 => ?_) (fun c19 => ?_)
    · refine lv_iconst (v := zI 0) hx hb ldL_law_457 rfl ?_
      obtain ⟨rd9, hC9⟩ := hJ.2.1
      refine k_Vi F w (As := [.int (zI 1), .int (zI 0)]) (rest := []) (a := 0) (kd_lt (a := 0) (show kd 0 = (11, 0, 0) from rfl) (by decide)) (sh_11 rfl _ _) rfl (Ci_and2 (q_X11_grow (x := 1) ⟨by omega, by omega⟩ (x1 := 0) ⟨by omega, by omega⟩ hJ.1.1) (g_grow hC9 (b1 := 1) (b2 := 0) (by omega) (by omega)) (by decide) (by decide)) lgv_L_55 lhv_X11_grow ⟨(Nat.le_of_ble_eq_true rfl), (Nat.le_of_ble_eq_true rfl)⟩ hl.1 rfl (Nat.le_of_ble_eq_true rfl) ⟨(Nat.le_of_ble_eq_true rfl), (Nat.le_of_ble_eq_true rfl)⟩ ldL_law_458 (fun r20 N21 H locs hp w => ?_)
      obtain ⟨hp, M2N21, hAN21, hqN21⟩ := hp
      obtain ⟨z22, erz22, bz22, hIN21, hFN21⟩ := hp
      subst erz22
      obtain ⟨xwN21, HwN21, kwN21, hKN21, hPN21, hrN21⟩ := AQ.c hqN21 hAN21 ⟨rd9, hC9⟩
      have hJ23 := Jg.c hJ hIN21 hFN21 (fun b9 k9 h => by (try dsimp only at h); rcases h with ⟨rfl, rfl⟩ | ⟨rfl, rfl⟩ | ⟨rfl, rfl⟩ | ⟨rfl, rfl⟩ | rfl | rfl | ⟨q1, q2⟩ <;> first | decide | omega) (isTc.F hJ.1.2.2.1 hFN21 (by first | decide | (dsimp only; first | done | decide | omega) | omega) (fun k9 => by first | decide | (dsimp only; first | done | decide | omega) | omega)) (hJ.1.2.2.2.2.1) (hKN21)
      refine lv_pop hx hb ldL_law_461 rfl ?_
      refine lv_aload_n hx hb ldL_law_462 rfl (lv_at hl 1 rfl) ?_
      refine lv_aload_n hx hb ldL_law_463 rfl (lv_at hl 3 rfl) ?_
      refine lv_iload_n hx hb ldL_law_464 rfl (lv_at hl 0 rfl) ?_
      refine lv_iconst (v := zI 1) hx hb ldL_law_465 rfl ?_
      refine z_iadd (z := (i : Int) + 1) hx hb ldL_law_466 (by omega) ?_
      refine va_sld hx hb hX hbl hbA w.2.2.1 (vpi hix1.1 (by rw [hix1.2]; omega)) ldL_law_467 ?_
      refine r_val ((congrArg xs hix1.2).trans ex1) ?_
      refine z_if_eq (tgt := 475) hx hb (by omega) ldL_law_468 (by decide) (fun c => False.elim (by omega)) (fun c => ?_)
      refine lv_iconst (v := zI 1) hx hb ldL_law_471 rfl ?_
      refine lv_goto (tgt := 476) hx hb ldL_law_472 (by decide) ?_
      refine lv_aload_n hx hb ldL_law_476 rfl (lv_at hl 3 rfl) ?_
      refine lv_iload_n hx hb ldL_law_477 rfl (lv_at hl 0 rfl) ?_
      refine lv_iconst (v := zI 2) hx hb ldL_law_478 rfl ?_
      refine z_iadd (z := (i : Int) + 2) hx hb ldL_law_479 (by omega) ?_
      refine va_sld hx hb hX hbl hbA w.2.2.1 (vpi hix2.1 (by rw [hix2.2]; omega)) ldL_law_480 ?_
      refine r_val ((congrArg xs hix2.2).trans ex2) ?_
      refine z_if_eq (tgt := 488) hx hb (by omega) ldL_law_481 (by decide) (fun c => ?_) (fun c => False.elim (by omega))
      refine lv_iconst (v := zI 0) hx hb ldL_law_488 rfl ?_
      refine k_Vi F w (As := [.int (zI 1), .int (zI 0)]) (rest := []) (a := 146) (kd_lt (a := 146) (show kd 146 = (12, 0, 0) from rfl) (by decide)) (sh_12 rfl _ _) rfl (Ci_and2 (q_X12_grow (x := 1) ⟨by omega, by omega⟩ (x1 := 0) ⟨by omega, by omega⟩ hJ23.1.2.1) (m_grow hJ23.2.2 (b1 := 1) (b2 := 0) (by omega) (by omega)) (by decide) (by decide)) lgv_L_59 lhv_X12_grow ⟨(Nat.le_of_ble_eq_true rfl), (Nat.le_of_ble_eq_true rfl)⟩ hl.1 rfl (Nat.le_of_ble_eq_true rfl) ⟨(Nat.le_of_ble_eq_true rfl), (Nat.le_of_ble_eq_true rfl)⟩ ldL_law_489 (fun r24 N25 H locs hp w => ?_)
      obtain ⟨hp, M2N25, hAN25, hqN25⟩ := hp
      obtain ⟨z26, erz26, bz26, hIN25, hFN25⟩ := hp
      subst erz26
      obtain ⟨xwN25, HwN25, kwN25, hKN25, hPN25, hrN25⟩ := AR.c hqN25 hAN25 hJ23.2.2
      have hJ27 := Jg.r hJ23 hIN25 hFN25 (fun b9 k9 h => by (try dsimp only at h); rcases h with ⟨rfl, rfl⟩ | rfl | ⟨rfl, q1, q2⟩ | ⟨rfl, q1, q2⟩ | ⟨rfl, q1, q2⟩ <;> first | decide | omega) (isTr.F hJ23.1.2.2.2.1 hFN25 (by first | decide | (dsimp only; first | done | decide | omega) | omega) (fun k9 => by first | decide | (dsimp only; first | done | decide | omega) | omega)) (hJ23.1.2.2.2.2.2) (hKN25)
      have hal := AP.al hk9 (al_grow hb1 hb2) (alF.e hb1 hb2) hHG hPN21 hPN25
      refine lv_pop hx hb ldL_law_492 rfl ?_
      refine lv_goto (tgt := 1065) hx hb ldL_law_493 (by decide) ?_
      exact kk _ _ _ (Jx.of hJ27 rfl (by omega) rfl rfl hal.2.1 hal.1 hal.2.2.1) w
    · refine lv_iconst (v := zI 1) hx hb ldL_law_453 rfl ?_
      refine lv_goto (tgt := 458) hx hb ldL_law_454 (by decide) ?_
      obtain ⟨rd9, hC9⟩ := hJ.2.1
      refine k_Vi F w (As := [.int (zI 1), .int (zI 1)]) (rest := []) (a := 0) (kd_lt (a := 0) (show kd 0 = (11, 0, 0) from rfl) (by decide)) (sh_11 rfl _ _) rfl (Ci_and2 (q_X11_grow (x := 1) ⟨by omega, by omega⟩ (x1 := 1) ⟨by omega, by omega⟩ hJ.1.1) (g_grow hC9 (b1 := 1) (b2 := 1) (by omega) (by omega)) (by decide) (by decide)) lgv_L_55 lhv_X11_grow ⟨(Nat.le_of_ble_eq_true rfl), (Nat.le_of_ble_eq_true rfl)⟩ hl.1 rfl (Nat.le_of_ble_eq_true rfl) ⟨(Nat.le_of_ble_eq_true rfl), (Nat.le_of_ble_eq_true rfl)⟩ ldL_law_458 (fun r28 N29 H locs hp w => ?_)
      obtain ⟨hp, M2N29, hAN29, hqN29⟩ := hp
      obtain ⟨z30, erz30, bz30, hIN29, hFN29⟩ := hp
      subst erz30
      obtain ⟨xwN29, HwN29, kwN29, hKN29, hPN29, hrN29⟩ := AQ.c hqN29 hAN29 ⟨rd9, hC9⟩
      have hJ31 := Jg.c hJ hIN29 hFN29 (fun b9 k9 h => by (try dsimp only at h); rcases h with ⟨rfl, rfl⟩ | ⟨rfl, rfl⟩ | ⟨rfl, rfl⟩ | ⟨rfl, rfl⟩ | rfl | rfl | ⟨q1, q2⟩ <;> first | decide | omega) (isTc.F hJ.1.2.2.1 hFN29 (by first | decide | (dsimp only; first | done | decide | omega) | omega) (fun k9 => by first | decide | (dsimp only; first | done | decide | omega) | omega)) (hJ.1.2.2.2.2.1) (hKN29)
      refine lv_pop hx hb ldL_law_461 rfl ?_
      refine lv_aload_n hx hb ldL_law_462 rfl (lv_at hl 1 rfl) ?_
      refine lv_aload_n hx hb ldL_law_463 rfl (lv_at hl 3 rfl) ?_
      refine lv_iload_n hx hb ldL_law_464 rfl (lv_at hl 0 rfl) ?_
      refine lv_iconst (v := zI 1) hx hb ldL_law_465 rfl ?_
      refine z_iadd (z := (i : Int) + 1) hx hb ldL_law_466 (by omega) ?_
      refine va_sld hx hb hX hbl hbA w.2.2.1 (vpi hix1.1 (by rw [hix1.2]; omega)) ldL_law_467 ?_
      refine r_val ((congrArg xs hix1.2).trans ex1) ?_
      refine z_if_eq (tgt := 475) hx hb (by omega) ldL_law_468 (by decide) (fun c => False.elim (by omega)) (fun c => ?_)
      refine lv_iconst (v := zI 1) hx hb ldL_law_471 rfl ?_
      refine lv_goto (tgt := 476) hx hb ldL_law_472 (by decide) ?_
      refine lv_aload_n hx hb ldL_law_476 rfl (lv_at hl 3 rfl) ?_
      refine lv_iload_n hx hb ldL_law_477 rfl (lv_at hl 0 rfl) ?_
      refine lv_iconst (v := zI 2) hx hb ldL_law_478 rfl ?_
      refine z_iadd (z := (i : Int) + 2) hx hb ldL_law_479 (by omega) ?_
      refine va_sld hx hb hX hbl hbA w.2.2.1 (vpi hix2.1 (by rw [hix2.2]; omega)) ldL_law_480 ?_
      refine r_val ((congrArg xs hix2.2).trans ex2) ?_
      refine z_if_eq (tgt := 488) hx hb (by omega) ldL_law_481 (by decide) (fun c => False.elim (by omega)) (fun c => ?_)
      refine lv_iconst (v := zI 1) hx hb ldL_law_484 rfl ?_
      refine lv_goto (tgt := 489) hx hb ldL_law_485 (by decide) ?_
      refine k_Vi F w (As := [.int (zI 1), .int (zI 1)]) (rest := []) (a := 146) (kd_lt (a := 146) (show kd 146 = (12, 0, 0) from rfl) (by decide)) (sh_12 rfl _ _) rfl (Ci_and2 (q_X12_grow (x := 1) ⟨by omega, by omega⟩ (x1 := 1) ⟨by omega, by omega⟩ hJ31.1.2.1) (m_grow hJ31.2.2 (b1 := 1) (b2 := 1) (by omega) (by omega)) (by decide) (by decide)) lgv_L_59 lhv_X12_grow ⟨(Nat.le_of_ble_eq_true rfl), (Nat.le_of_ble_eq_true rfl)⟩ hl.1 rfl (Nat.le_of_ble_eq_true rfl) ⟨(Nat.le_of_ble_eq_true rfl), (Nat.le_of_ble_eq_true rfl)⟩ ldL_law_489 (fun r32 N33 H locs hp w => ?_)
      obtain ⟨hp, M2N33, hAN33, hqN33⟩ := hp
      obtain ⟨z34, erz34, bz34, hIN33, hFN33⟩ := hp
      subst erz34
      obtain ⟨xwN33, HwN33, kwN33, hKN33, hPN33, hrN33⟩ := AR.c hqN33 hAN33 hJ31.2.2
      have hJ35 := Jg.r hJ31 hIN33 hFN33 (fun b9 k9 h => by (try dsimp only at h); rcases h with ⟨rfl, rfl⟩ | rfl | ⟨rfl, q1, q2⟩ | ⟨rfl, q1, q2⟩ | ⟨rfl, q1, q2⟩ <;> first | decide | omega) (isTr.F hJ31.1.2.2.2.1 hFN33 (by first | decide | (dsimp only; first | done | decide | omega) | omega) (fun k9 => by first | decide | (dsimp only; first | done | decide | omega) | omega)) (hJ31.1.2.2.2.2.2) (hKN33)
      have hal := AP.al hk9 (al_grow hb1 hb2) (alF.e hb1 hb2) hHG hPN29 hPN33
      refine lv_pop hx hb ldL_law_492 rfl ?_
      refine lv_goto (tgt := 1065) hx hb ldL_law_493 (by decide) ?_
      exact kk _ _ _ (Jx.of hJ35 rfl (by omega) rfl rfl hal.2.1 hal.1 hal.2.2.1) w
theorem ldL_law_496 : decode cL_law 496 = .ok (.aload_n 1, 1) := dq0 kk_43 (by decide +kernel)
theorem ldL_law_497 : decode cL_law 497 = .ok (.invokevirtual 60, 3) := dqV kk_182 (by decide +kernel)
theorem ltk_X11_shrink : Cond.code yX11_shrink cX11_shrink 1 (some .boolean) ∈ TB := tbm (tc3 (List.mem_of_getElem? (i := 185) rfl)) rfl
theorem lgc_X11_shrink : GoodIn TB (cw yX11_shrink cX11_shrink 1 (some .boolean)) := goodIn_c2 ltk_X11_shrink
theorem ltb_62 : Cond.methodLink "ToneLinesLaw" 60 yX11_shrink ∈ TB := tbm (tc3 (List.mem_of_getElem? (i := 182) rfl)) rfl
theorem ltb_63 : Cond.instanceMethod yX11_shrink ∈ TB := tbm (tc3 (List.mem_of_getElem? (i := 183) rfl)) rfl
theorem ltb_64 : Cond.selects "ToneLines" yX11_shrink yX11_shrink ∈ TB := tbm (tc3 (List.mem_of_getElem? (i := 184) rfl)) rfl
theorem lgv_L_60 : GoodIn TB (wsV RL 60 RX11 yX11_shrink (cw yX11_shrink cX11_shrink 1 (some .boolean))) := goodIn_4 ltb_62 ltb_63 ltb_64 ltb_3 lgc_X11_shrink
theorem lhv_X11_shrink : yX11_shrink.cls = RX11 ∧ yX11_shrink.cls ≠ "java/lang/invoke/MethodHandle" ∧ yX11_shrink.cls ≠ "java/lang/invoke/VarHandle" ∧ (parseMethodDescriptor yX11_shrink.desc).map (fun d => d.parameters.length) = some 0 := by decide +kernel
theorem ldL_law_500 : decode cL_law 500 = .ok (.pop, 1) := dq0 kk_87 (by decide +kernel)
theorem ldL_law_501 : decode cL_law 501 = .ok (.aload_n 2, 1) := dq0 kk_44 (by decide +kernel)
theorem ldL_law_502 : decode cL_law 502 = .ok (.invokevirtual 64, 3) := dqV kk_182 (by decide +kernel)
theorem ltk_X12_shrink : Cond.code yX12_shrink cX12_shrink 3 (some .boolean) ∈ TB := tbm (tc6 (List.mem_of_getElem? (i := 40) rfl)) rfl
theorem lgc_X12_shrink : GoodIn TB (cw yX12_shrink cX12_shrink 3 (some .boolean)) := goodIn_c2 ltk_X12_shrink
theorem ltb_65 : Cond.methodLink "ToneLinesLaw" 64 yX12_shrink ∈ TB := tbm (tc6 (List.mem_of_getElem? (i := 37) rfl)) rfl
theorem ltb_66 : Cond.instanceMethod yX12_shrink ∈ TB := tbm (tc6 (List.mem_of_getElem? (i := 38) rfl)) rfl
theorem ltb_67 : Cond.selects "ToneLinesModel" yX12_shrink yX12_shrink ∈ TB := tbm (tc6 (List.mem_of_getElem? (i := 39) rfl)) rfl
theorem lgv_L_64 : GoodIn TB (wsV RL 64 RX12 yX12_shrink (cw yX12_shrink cX12_shrink 3 (some .boolean))) := goodIn_4 ltb_65 ltb_66 ltb_67 ltb_7 lgc_X12_shrink
theorem lhv_X12_shrink : yX12_shrink.cls = RX12 ∧ yX12_shrink.cls ≠ "java/lang/invoke/MethodHandle" ∧ yX12_shrink.cls ≠ "java/lang/invoke/VarHandle" ∧ (parseMethodDescriptor yX12_shrink.desc).map (fun d => d.parameters.length) = some 0 := by decide +kernel
theorem ldL_law_505 : decode cL_law 505 = .ok (.pop, 1) := dq0 kk_87 (by decide +kernel)
theorem ldL_law_506 : decode cL_law 506 = .ok (.goto 559, 3) := dqT kk_167 (by decide +kernel)
set_option maxRecDepth 8000 in
set_option maxHeartbeats 1000000 in
theorem lc_10 {p : Program} {l : Launch} {e : Env} {s : State} {m : MethodId} {below : List Frame} {meth : Method} {c : Code} {D : va_G} {B b L : Nat} {cy : Nat → ClassId} {H : Heap} {locs : List Loc} {ls : Array Slot} {xs : Nat → Int32} {M : Mem} {Q : State → Prop} {i : Nat} (F : CallFix p m c code 4 s #[Value.ref b] TB RL) (hX : va_X b L xs s s.heap) (hbl : b < s.heap.size) (hbA : ¬ B ≤ b) (hi : i + 6 ≤ L) (hL : L ≤ 3072) (hJx : Jx M) (w : Wd D B cy s s.heap M H locs) (hl : lv_has ls 4 [(3, .int (zI (i : Int))), (2, .ref (B + 146)), (1, .ref (B + 0)), (0, .ref b)]) (kk : ∀ (M1 : Mem) (H1 : Heap) (locs1 : List Loc), Jx M1 → Wd D B cy s s.heap M1 H1 locs1 → W p l e room_1 s m #[Value.ref b] below meth c H1 locs1 159 13107 Q (F0 m 1065 ls [])) : W p l e room_1 s m #[Value.ref b] below meth c H locs 159 13107 Q (F0 m 496 ls []) := by
  have hx := F.1
  have hb := F.2.1
  obtain ⟨T, tn, Ps, mr, xw, Hs, kw, yw, Gs, hJ, hxy, hHG⟩ := hJx
  obtain ⟨qw, hv, ed, hv2, ed2, o, rfl, rfl, hb1, hb2⟩ := hxy.i
  have hta := hJ.1.2.2.2.2.1.1
  have hk9 : kw ≤ 12 := hJ.2.2.2.2.2.2.1
  refine lv_aload_n hx hb ldL_law_496 rfl (lv_at hl 2 rfl) ?_
  obtain ⟨rd9, hC9⟩ := hJ.2.1
  refine k_Vi F w (As := []) (rest := []) (a := 0) (kd_lt (a := 0) (show kd 0 = (11, 0, 0) from rfl) (by decide)) (sh_11 rfl _ _) rfl (Ci_and2 (q_X11_shrink  hJ.1.1) (g_shrink hC9  ) (by decide) (by decide)) lgv_L_60 lhv_X11_shrink ⟨(Nat.le_of_ble_eq_true rfl), (Nat.le_of_ble_eq_true rfl)⟩ hl.1 rfl (Nat.le_of_ble_eq_true rfl) ⟨(Nat.le_of_ble_eq_true rfl), (Nat.le_of_ble_eq_true rfl)⟩ ldL_law_497 (fun r1 N2 H locs hp w => ?_)
  obtain ⟨hp, M2N2, hAN2, hqN2⟩ := hp
  obtain ⟨z3, erz3, bz3, hIN2, hFN2⟩ := hp
  subst erz3
  obtain ⟨xwN2, HwN2, kwN2, hKN2, hPN2, hrN2⟩ := AQ.c hqN2 hAN2 ⟨rd9, hC9⟩
  have hJ4 := Jg.c hJ hIN2 hFN2 (fun b9 k9 h => by (try dsimp only at h); rcases h with ⟨rfl, rfl⟩ | ⟨rfl, rfl⟩ | ⟨rfl, rfl⟩ | ⟨rfl, rfl⟩ | rfl | rfl | rfl | ⟨q1, q2⟩ <;> first | decide | omega) (isTc.F hJ.1.2.2.1 hFN2 (by first | decide | (dsimp only; first | done | decide | omega) | omega) (fun k9 => by first | decide | (dsimp only; first | done | decide | omega) | omega)) (hJ.1.2.2.2.2.1) (hKN2)
  refine lv_pop hx hb ldL_law_500 rfl ?_
  refine lv_aload_n hx hb ldL_law_501 rfl (lv_at hl 1 rfl) ?_
  refine k_Vi F w (As := []) (rest := []) (a := 146) (kd_lt (a := 146) (show kd 146 = (12, 0, 0) from rfl) (by decide)) (sh_12 rfl _ _) rfl (Ci_and2 (q_X12_shrink  hJ4.1.2.1) (m_shrink hJ4.2.2  ) (by decide) (by decide)) lgv_L_64 lhv_X12_shrink ⟨(Nat.le_of_ble_eq_true rfl), (Nat.le_of_ble_eq_true rfl)⟩ hl.1 rfl (Nat.le_of_ble_eq_true rfl) ⟨(Nat.le_of_ble_eq_true rfl), (Nat.le_of_ble_eq_true rfl)⟩ ldL_law_502 (fun r5 N6 H locs hp w => ?_)
  obtain ⟨hp, M2N6, hAN6, hqN6⟩ := hp
  obtain ⟨z7, erz7, bz7, hIN6, hFN6⟩ := hp
  subst erz7
  obtain ⟨xwN6, HwN6, kwN6, hKN6, hPN6, hrN6⟩ := AR.c hqN6 hAN6 hJ4.2.2
  have hJ8 := Jg.r hJ4 hIN6 hFN6 (fun b9 k9 h => by (try dsimp only at h); rcases h with ⟨rfl, rfl⟩ | rfl | ⟨rfl, q1, q2⟩ | ⟨rfl, q1, q2⟩ | ⟨rfl, q1, q2⟩ | ⟨rfl, q1, q2⟩ <;> first | decide | omega) (isTr.F hJ4.1.2.2.2.1 hFN6 (by first | decide | (dsimp only; first | done | decide | omega) | omega) (fun k9 => by first | decide | (dsimp only; first | done | decide | omega) | omega)) (hJ4.1.2.2.2.2.2) (hKN6)
  have hal := AP.al hk9 (al_shrink hb1 hb2) (alF.e hb1 hb2) hHG hPN2 hPN6
  refine lv_pop hx hb ldL_law_505 rfl ?_
  refine lv_goto (tgt := 1065) hx hb ldL_law_506 (by decide) ?_
  exact kk _ _ _ (Jx.of hJ8 rfl (by omega) rfl rfl hal.2.1 hal.1 hal.2.2.1) w
theorem ldL_law_509 : decode cL_law 509 = .ok (.aload_n 1, 1) := dq0 kk_43 (by decide +kernel)
theorem ldL_law_510 : decode cL_law 510 = .ok (.aload_n 0, 1) := dq0 kk_42 (by decide +kernel)
theorem ldL_law_511 : decode cL_law 511 = .ok (.iload_n 3, 1) := dq0 kk_29 (by decide +kernel)
theorem ldL_law_512 : decode cL_law 512 = .ok (.iconst 1, 1) := dq0 kk_4 (by decide +kernel)
theorem ldL_law_513 : decode cL_law 513 = .ok (.iadd, 1) := dq0 kk_96 (by decide +kernel)
theorem ldL_law_514 : decode cL_law 514 = .ok (.iaload, 1) := dq0 kk_46 (by decide +kernel)
theorem ldL_law_515 : decode cL_law 515 = .ok (.aload_n 0, 1) := dq0 kk_42 (by decide +kernel)
theorem ldL_law_516 : decode cL_law 516 = .ok (.iload_n 3, 1) := dq0 kk_29 (by decide +kernel)
theorem ldL_law_517 : decode cL_law 517 = .ok (.iconst 2, 1) := dq0 kk_5 (by decide +kernel)
theorem ldL_law_518 : decode cL_law 518 = .ok (.iadd, 1) := dq0 kk_96 (by decide +kernel)
theorem ldL_law_519 : decode cL_law 519 = .ok (.iaload, 1) := dq0 kk_46 (by decide +kernel)
theorem ldL_law_520 : decode cL_law 520 = .ok (.ifCond .eq 7, 3) := dqT kk_153 (by decide +kernel)
theorem ldL_law_527 : decode cL_law 527 = .ok (.iconst 0, 1) := dq0 kk_3 (by decide +kernel)
theorem ldL_law_528 : decode cL_law 528 = .ok (.aload_n 0, 1) := dq0 kk_42 (by decide +kernel)
theorem ldL_law_529 : decode cL_law 529 = .ok (.iload_n 3, 1) := dq0 kk_29 (by decide +kernel)
theorem ldL_law_530 : decode cL_law 530 = .ok (.iconst 3, 1) := dq0 kk_6 (by decide +kernel)
theorem ldL_law_531 : decode cL_law 531 = .ok (.iadd, 1) := dq0 kk_96 (by decide +kernel)
theorem ldL_law_532 : decode cL_law 532 = .ok (.iaload, 1) := dq0 kk_46 (by decide +kernel)
theorem ldL_law_533 : decode cL_law 533 = .ok (.ifCond .eq 7, 3) := dqT kk_153 (by decide +kernel)
theorem ldL_law_540 : decode cL_law 540 = .ok (.iconst 0, 1) := dq0 kk_3 (by decide +kernel)
theorem ldL_law_541 : decode cL_law 541 = .ok (.invokevirtual 65, 3) := dqV kk_182 (by decide +kernel)
theorem ltk_X11_mark : Cond.code yX11_mark cX11_mark 4 (some .boolean) ∈ TB := tbm (tc3 (List.mem_of_getElem? (i := 193) rfl)) rfl
theorem lgc_X11_mark : GoodIn TB (cw yX11_mark cX11_mark 4 (some .boolean)) := goodIn_c2 ltk_X11_mark
theorem ltb_68 : Cond.methodLink "ToneLinesLaw" 65 yX11_mark ∈ TB := tbm (tc3 (List.mem_of_getElem? (i := 190) rfl)) rfl
theorem ltb_69 : Cond.instanceMethod yX11_mark ∈ TB := tbm (tc3 (List.mem_of_getElem? (i := 191) rfl)) rfl
theorem ltb_70 : Cond.selects "ToneLines" yX11_mark yX11_mark ∈ TB := tbm (tc3 (List.mem_of_getElem? (i := 192) rfl)) rfl
theorem lgv_L_65 : GoodIn TB (wsV RL 65 RX11 yX11_mark (cw yX11_mark cX11_mark 4 (some .boolean))) := goodIn_4 ltb_68 ltb_69 ltb_70 ltb_3 lgc_X11_mark
theorem lhv_X11_mark : yX11_mark.cls = RX11 ∧ yX11_mark.cls ≠ "java/lang/invoke/MethodHandle" ∧ yX11_mark.cls ≠ "java/lang/invoke/VarHandle" ∧ (parseMethodDescriptor yX11_mark.desc).map (fun d => d.parameters.length) = some 3 := by decide +kernel
theorem ldL_law_544 : decode cL_law 544 = .ok (.pop, 1) := dq0 kk_87 (by decide +kernel)
theorem ldL_law_545 : decode cL_law 545 = .ok (.aload_n 2, 1) := dq0 kk_44 (by decide +kernel)
theorem ldL_law_546 : decode cL_law 546 = .ok (.aload_n 0, 1) := dq0 kk_42 (by decide +kernel)
theorem ldL_law_547 : decode cL_law 547 = .ok (.iload_n 3, 1) := dq0 kk_29 (by decide +kernel)
theorem ldL_law_548 : decode cL_law 548 = .ok (.iconst 1, 1) := dq0 kk_4 (by decide +kernel)
theorem ldL_law_549 : decode cL_law 549 = .ok (.iadd, 1) := dq0 kk_96 (by decide +kernel)
theorem ldL_law_550 : decode cL_law 550 = .ok (.iaload, 1) := dq0 kk_46 (by decide +kernel)
theorem ldL_law_551 : decode cL_law 551 = .ok (.aload_n 0, 1) := dq0 kk_42 (by decide +kernel)
theorem ldL_law_552 : decode cL_law 552 = .ok (.iload_n 3, 1) := dq0 kk_29 (by decide +kernel)
theorem ldL_law_553 : decode cL_law 553 = .ok (.iconst 2, 1) := dq0 kk_5 (by decide +kernel)
theorem ldL_law_554 : decode cL_law 554 = .ok (.iadd, 1) := dq0 kk_96 (by decide +kernel)
theorem ldL_law_555 : decode cL_law 555 = .ok (.iaload, 1) := dq0 kk_46 (by decide +kernel)
theorem ldL_law_556 : decode cL_law 556 = .ok (.ifCond .eq 7, 3) := dqT kk_153 (by decide +kernel)
theorem ldL_law_563 : decode cL_law 563 = .ok (.iconst 0, 1) := dq0 kk_3 (by decide +kernel)
theorem ldL_law_564 : decode cL_law 564 = .ok (.aload_n 0, 1) := dq0 kk_42 (by decide +kernel)
theorem ldL_law_565 : decode cL_law 565 = .ok (.iload_n 3, 1) := dq0 kk_29 (by decide +kernel)
theorem ldL_law_566 : decode cL_law 566 = .ok (.iconst 3, 1) := dq0 kk_6 (by decide +kernel)
theorem ldL_law_567 : decode cL_law 567 = .ok (.iadd, 1) := dq0 kk_96 (by decide +kernel)
theorem ldL_law_568 : decode cL_law 568 = .ok (.iaload, 1) := dq0 kk_46 (by decide +kernel)
theorem ldL_law_569 : decode cL_law 569 = .ok (.ifCond .eq 7, 3) := dqT kk_153 (by decide +kernel)
theorem ldL_law_576 : decode cL_law 576 = .ok (.iconst 0, 1) := dq0 kk_3 (by decide +kernel)
theorem ldL_law_577 : decode cL_law 577 = .ok (.invokevirtual 69, 3) := dqV kk_182 (by decide +kernel)
theorem ltk_X12_mark : Cond.code yX12_mark cX12_mark 4 (some .boolean) ∈ TB := tbm (tc6 (List.mem_of_getElem? (i := 44) rfl)) rfl
theorem lgc_X12_mark : GoodIn TB (cw yX12_mark cX12_mark 4 (some .boolean)) := goodIn_c2 ltk_X12_mark
theorem ltb_71 : Cond.methodLink "ToneLinesLaw" 69 yX12_mark ∈ TB := tbm (tc6 (List.mem_of_getElem? (i := 41) rfl)) rfl
theorem ltb_72 : Cond.instanceMethod yX12_mark ∈ TB := tbm (tc6 (List.mem_of_getElem? (i := 42) rfl)) rfl
theorem ltb_73 : Cond.selects "ToneLinesModel" yX12_mark yX12_mark ∈ TB := tbm (tc6 (List.mem_of_getElem? (i := 43) rfl)) rfl
theorem lgv_L_69 : GoodIn TB (wsV RL 69 RX12 yX12_mark (cw yX12_mark cX12_mark 4 (some .boolean))) := goodIn_4 ltb_71 ltb_72 ltb_73 ltb_7 lgc_X12_mark
theorem lhv_X12_mark : yX12_mark.cls = RX12 ∧ yX12_mark.cls ≠ "java/lang/invoke/MethodHandle" ∧ yX12_mark.cls ≠ "java/lang/invoke/VarHandle" ∧ (parseMethodDescriptor yX12_mark.desc).map (fun d => d.parameters.length) = some 3 := by decide +kernel
theorem ldL_law_580 : decode cL_law 580 = .ok (.pop, 1) := dq0 kk_87 (by decide +kernel)
theorem ldL_law_581 : decode cL_law 581 = .ok (.goto 484, 3) := dqT kk_167 (by decide +kernel)
theorem ldL_law_536 : decode cL_law 536 = .ok (.iconst 1, 1) := dq0 kk_4 (by decide +kernel)
theorem ldL_law_537 : decode cL_law 537 = .ok (.goto 4, 3) := dqT kk_167 (by decide +kernel)
theorem ldL_law_572 : decode cL_law 572 = .ok (.iconst 1, 1) := dq0 kk_4 (by decide +kernel)
theorem ldL_law_573 : decode cL_law 573 = .ok (.goto 4, 3) := dqT kk_167 (by decide +kernel)
theorem ldL_law_523 : decode cL_law 523 = .ok (.iconst 1, 1) := dq0 kk_4 (by decide +kernel)
theorem ldL_law_524 : decode cL_law 524 = .ok (.goto 4, 3) := dqT kk_167 (by decide +kernel)
theorem ldL_law_559 : decode cL_law 559 = .ok (.iconst 1, 1) := dq0 kk_4 (by decide +kernel)
theorem ldL_law_560 : decode cL_law 560 = .ok (.goto 4, 3) := dqT kk_167 (by decide +kernel)
set_option maxRecDepth 8000 in
set_option maxHeartbeats 1000000 in
theorem lc_11 {p : Program} {l : Launch} {e : Env} {s : State} {m : MethodId} {below : List Frame} {meth : Method} {c : Code} {D : va_G} {B b L : Nat} {cy : Nat → ClassId} {H : Heap} {locs : List Loc} {ls : Array Slot} {xs : Nat → Int32} {M : Mem} {Q : State → Prop} {i : Nat} (F : CallFix p m c code 4 s #[Value.ref b] TB RL) (hX : va_X b L xs s s.heap) (hbl : b < s.heap.size) (hbA : ¬ B ≤ b) (hi : i + 6 ≤ L) (hL : L ≤ 3072) (hJx : Jx M) (w : Wd D B cy s s.heap M H locs) (hl : lv_has ls 4 [(3, .int (zI (i : Int))), (2, .ref (B + 146)), (1, .ref (B + 0)), (0, .ref b)]) (kk : ∀ (M1 : Mem) (H1 : Heap) (locs1 : List Loc), Jx M1 → Wd D B cy s s.heap M1 H1 locs1 → W p l e room_1 s m #[Value.ref b] below meth c H1 locs1 159 13107 Q (F0 m 1065 ls [])) : W p l e room_1 s m #[Value.ref b] below meth c H locs 159 13107 Q (F0 m 509 ls []) := by
  have hx := F.1
  have hb := F.2.1
  obtain ⟨T, tn, Ps, mr, xw, Hs, kw, yw, Gs, hJ, hxy, hHG⟩ := hJx
  obtain ⟨qw, hv, ed, hv2, ed2, o, rfl, rfl, hb1, hb2⟩ := hxy.i
  have hta := hJ.1.2.2.2.2.1.1
  have hk9 : kw ≤ 12 := hJ.2.2.2.2.2.2.1
  have hix1 := ix_z (z := (i : Int) + 1) (by omega) (by omega)
  obtain ⟨x1, bx1, ex1⟩ := rg_ex (xs ((i : Int) + 1).toNat)
  have hix2 := ix_z (z := (i : Int) + 2) (by omega) (by omega)
  obtain ⟨x2, bx2, ex2⟩ := rg_ex (xs ((i : Int) + 2).toNat)
  have hix3 := ix_z (z := (i : Int) + 3) (by omega) (by omega)
  obtain ⟨x3, bx3, ex3⟩ := rg_ex (xs ((i : Int) + 3).toNat)
  refine lv_aload_n hx hb ldL_law_509 rfl (lv_at hl 2 rfl) ?_
  refine lv_aload_n hx hb ldL_law_510 rfl (lv_at hl 3 rfl) ?_
  refine lv_iload_n hx hb ldL_law_511 rfl (lv_at hl 0 rfl) ?_
  refine lv_iconst (v := zI 1) hx hb ldL_law_512 rfl ?_
  refine z_iadd (z := (i : Int) + 1) hx hb ldL_law_513 (by omega) ?_
  refine va_sld hx hb hX hbl hbA w.2.2.1 (vpi hix1.1 (by rw [hix1.2]; omega)) ldL_law_514 ?_
  refine r_val ((congrArg xs hix1.2).trans ex1) ?_
  refine lv_aload_n hx hb ldL_law_515 rfl (lv_at hl 3 rfl) ?_
  refine lv_iload_n hx hb ldL_law_516 rfl (lv_at hl 0 rfl) ?_
  refine lv_iconst (v := zI 2) hx hb ldL_law_517 rfl ?_
  refine z_iadd (z := (i : Int) + 2) hx hb ldL_law_518 (by omega) ?_
  refine va_sld hx hb hX hbl hbA w.2.2.1 (vpi hix2.1 (by rw [hix2.2]; omega)) ldL_law_519 ?_
  refine r_val ((congrArg xs hix2.2).trans ex2) ?_
  refine z_if_eq (tgt := 527) hx hb (by omega) ldL_law_520 (by decide) (fun c1 => ?_) (fun c1 => ?_)
  · refine lv_iconst (v := zI 0) hx hb ldL_law_527 rfl ?_
    refine lv_aload_n hx hb ldL_law_528 rfl (lv_at hl 3 rfl) ?_
    refine lv_iload_n hx hb ldL_law_529 rfl (lv_at hl 0 rfl) ?_
    refine lv_iconst (v := zI 3) hx hb ldL_law_530 rfl ?_
    refine z_iadd (z := (i : Int) + 3) hx hb ldL_law_531 (by omega) ?_
    refine va_sld hx hb hX hbl hbA w.2.2.1 (vpi hix3.1 (by rw [hix3.2]; omega)) ldL_law_532 ?_
    refine r_val ((congrArg xs hix3.2).trans ex3) ?_
    refine z_if_eq (tgt := 540) hx hb (by omega) ldL_law_533 (by decide) (fun c2 => ?_) (fun c2 => ?_)
    · refine lv_iconst (v := zI 0) hx hb ldL_law_540 rfl ?_
      obtain ⟨rd9, hC9⟩ := hJ.2.1
      refine k_Vi F w (As := [.int (zI x1), .int (zI 0), .int (zI 0)]) (rest := []) (a := 0) (kd_lt (a := 0) (show kd 0 = (11, 0, 0) from rfl) (by decide)) (sh_11 rfl _ _) rfl (Ci_and2 (q_X11_mark (y := x1) ⟨by omega, by omega⟩ (x := 0) ⟨by omega, by omega⟩ (x1 := 0) ⟨by omega, by omega⟩ hJ.1.1) (g_mark hC9 (u9 := x1) (b1 := 0) (b2 := 0) (by constructor <;> omega) (by omega) (by omega)) (by decide) (by decide)) lgv_L_65 lhv_X11_mark ⟨(Nat.le_of_ble_eq_true rfl), (Nat.le_of_ble_eq_true rfl)⟩ hl.1 rfl (Nat.le_of_ble_eq_true rfl) ⟨(Nat.le_of_ble_eq_true rfl), (Nat.le_of_ble_eq_true rfl)⟩ ldL_law_541 (fun r3 N4 H locs hp w => ?_)
      obtain ⟨hp, M2N4, hAN4, hqN4⟩ := hp
      obtain ⟨z5, erz5, bz5, hIN4, hFN4⟩ := hp
      subst erz5
      obtain ⟨xwN4, HwN4, kwN4, hKN4, hPN4, hrN4⟩ := AQ.c hqN4 hAN4 ⟨rd9, hC9⟩
      have hJ6 := Jg.c hJ hIN4 hFN4 (fun b9 k9 h => by (try dsimp only at h); rcases h with ⟨rfl, rfl⟩ | ⟨rfl, rfl⟩ | ⟨rfl, rfl⟩ | ⟨rfl, rfl⟩ | rfl | rfl | ⟨q1, q2⟩ <;> first | decide | omega) (isTc.F hJ.1.2.2.1 hFN4 (by first | decide | (dsimp only; first | done | decide | omega) | omega) (fun k9 => by first | decide | (dsimp only; first | done | decide | omega) | omega)) (hJ.1.2.2.2.2.1) (hKN4)
      refine lv_pop hx hb ldL_law_544 rfl ?_
      refine lv_aload_n hx hb ldL_law_545 rfl (lv_at hl 1 rfl) ?_
      refine lv_aload_n hx hb ldL_law_546 rfl (lv_at hl 3 rfl) ?_
      refine lv_iload_n hx hb ldL_law_547 rfl (lv_at hl 0 rfl) ?_
      refine lv_iconst (v := zI 1) hx hb ldL_law_548 rfl ?_
      refine z_iadd (z := (i : Int) + 1) hx hb ldL_law_549 (by omega) ?_
      refine va_sld hx hb hX hbl hbA w.2.2.1 (vpi hix1.1 (by rw [hix1.2]; omega)) ldL_law_550 ?_
      refine r_val ((congrArg xs hix1.2).trans ex1) ?_
      refine lv_aload_n hx hb ldL_law_551 rfl (lv_at hl 3 rfl) ?_
      refine lv_iload_n hx hb ldL_law_552 rfl (lv_at hl 0 rfl) ?_
      refine lv_iconst (v := zI 2) hx hb ldL_law_553 rfl ?_
      refine z_iadd (z := (i : Int) + 2) hx hb ldL_law_554 (by omega) ?_
      refine va_sld hx hb hX hbl hbA w.2.2.1 (vpi hix2.1 (by rw [hix2.2]; omega)) ldL_law_555 ?_
      refine r_val ((congrArg xs hix2.2).trans ex2) ?_
      refine z_if_eq (tgt := 563) hx hb (by omega) ldL_law_556 (by decide) (fun c => ?_) (fun c => False.elim (by omega))
      refine lv_iconst (v := zI 0) hx hb ldL_law_563 rfl ?_
      refine lv_aload_n hx hb ldL_law_564 rfl (lv_at hl 3 rfl) ?_
      refine lv_iload_n hx hb ldL_law_565 rfl (lv_at hl 0 rfl) ?_
      refine lv_iconst (v := zI 3) hx hb ldL_law_566 rfl ?_
      refine z_iadd (z := (i : Int) + 3) hx hb ldL_law_567 (by omega) ?_
      refine va_sld hx hb hX hbl hbA w.2.2.1 (vpi hix3.1 (by rw [hix3.2]; omega)) ldL_law_568 ?_
      refine r_val ((congrArg xs hix3.2).trans ex3) ?_
      refine z_if_eq (tgt := 576) hx hb (by omega) ldL_law_569 (by decide) (fun c => ?_) (fun c => False.elim (by omega))
      refine lv_iconst (v := zI 0) hx hb ldL_law_576 rfl ?_
      refine k_Vi F w (As := [.int (zI x1), .int (zI 0), .int (zI 0)]) (rest := []) (a := 146) (kd_lt (a := 146) (show kd 146 = (12, 0, 0) from rfl) (by decide)) (sh_12 rfl _ _) rfl (Ci_and2 (q_X12_mark (y := x1) ⟨by omega, by omega⟩ (x := 0) ⟨by omega, by omega⟩ (x1 := 0) ⟨by omega, by omega⟩ hJ6.1.2.1) (m_mark hJ6.2.2 (u9 := x1) (b1 := 0) (b2 := 0) (by constructor <;> omega) (by omega) (by omega)) (by decide) (by decide)) lgv_L_69 lhv_X12_mark ⟨(Nat.le_of_ble_eq_true rfl), (Nat.le_of_ble_eq_true rfl)⟩ hl.1 rfl (Nat.le_of_ble_eq_true rfl) ⟨(Nat.le_of_ble_eq_true rfl), (Nat.le_of_ble_eq_true rfl)⟩ ldL_law_577 (fun r7 N8 H locs hp w => ?_)
      obtain ⟨hp, M2N8, hAN8, hqN8⟩ := hp
      obtain ⟨z9, erz9, bz9, hIN8, hFN8⟩ := hp
      subst erz9
      obtain ⟨xwN8, HwN8, kwN8, hKN8, hPN8, hrN8⟩ := AR.c hqN8 hAN8 hJ6.2.2
      have hJ10 := Jg.r hJ6 hIN8 hFN8 (fun b9 k9 h => by (try dsimp only at h); rcases h with ⟨rfl, rfl⟩ | rfl | ⟨rfl, q1, q2⟩ | ⟨rfl, q1, q2⟩ <;> first | decide | omega) (isTr.F hJ6.1.2.2.2.1 hFN8 (by first | decide | (dsimp only; first | done | decide | omega) | omega) (fun k9 => by first | decide | (dsimp only; first | done | decide | omega) | omega)) (hJ6.1.2.2.2.2.2) (hKN8)
      have hal := AP.al hk9 (al_mark hb1 hb2) (alF.e hb1 hb2) hHG hPN4 hPN8
      refine lv_pop hx hb ldL_law_580 rfl ?_
      refine lv_goto (tgt := 1065) hx hb ldL_law_581 (by decide) ?_
      exact kk _ _ _ (Jx.of hJ10 rfl (by omega) rfl rfl hal.2.1 hal.1 hal.2.2.1) w
    · refine lv_iconst (v := zI 1) hx hb ldL_law_536 rfl ?_
      refine lv_goto (tgt := 541) hx hb ldL_law_537 (by decide) ?_
      obtain ⟨rd9, hC9⟩ := hJ.2.1
      refine k_Vi F w (As := [.int (zI x1), .int (zI 0), .int (zI 1)]) (rest := []) (a := 0) (kd_lt (a := 0) (show kd 0 = (11, 0, 0) from rfl) (by decide)) (sh_11 rfl _ _) rfl (Ci_and2 (q_X11_mark (y := x1) ⟨by omega, by omega⟩ (x := 0) ⟨by omega, by omega⟩ (x1 := 1) ⟨by omega, by omega⟩ hJ.1.1) (g_mark hC9 (u9 := x1) (b1 := 0) (b2 := 1) (by constructor <;> omega) (by omega) (by omega)) (by decide) (by decide)) lgv_L_65 lhv_X11_mark ⟨(Nat.le_of_ble_eq_true rfl), (Nat.le_of_ble_eq_true rfl)⟩ hl.1 rfl (Nat.le_of_ble_eq_true rfl) ⟨(Nat.le_of_ble_eq_true rfl), (Nat.le_of_ble_eq_true rfl)⟩ ldL_law_541 (fun r11 N12 H locs hp w => ?_)
      obtain ⟨hp, M2N12, hAN12, hqN12⟩ := hp
      obtain ⟨z13, erz13, bz13, hIN12, hFN12⟩ := hp
      subst erz13
      obtain ⟨xwN12, HwN12, kwN12, hKN12, hPN12, hrN12⟩ := AQ.c hqN12 hAN12 ⟨rd9, hC9⟩
      have hJ14 := Jg.c hJ hIN12 hFN12 (fun b9 k9 h => by (try dsimp only at h); rcases h with ⟨rfl, rfl⟩ | ⟨rfl, rfl⟩ | ⟨rfl, rfl⟩ | ⟨rfl, rfl⟩ | rfl | rfl | ⟨q1, q2⟩ <;> first | decide | omega) (isTc.F hJ.1.2.2.1 hFN12 (by first | decide | (dsimp only; first | done | decide | omega) | omega) (fun k9 => by first | decide | (dsimp only; first | done | decide | omega) | omega)) (hJ.1.2.2.2.2.1) (hKN12)
      refine lv_pop hx hb ldL_law_544 rfl ?_
      refine lv_aload_n hx hb ldL_law_545 rfl (lv_at hl 1 rfl) ?_
      refine lv_aload_n hx hb ldL_law_546 rfl (lv_at hl 3 rfl) ?_
      refine lv_iload_n hx hb ldL_law_547 rfl (lv_at hl 0 rfl) ?_
      refine lv_iconst (v := zI 1) hx hb ldL_law_548 rfl ?_
      refine z_iadd (z := (i : Int) + 1) hx hb ldL_law_549 (by omega) ?_
      refine va_sld hx hb hX hbl hbA w.2.2.1 (vpi hix1.1 (by rw [hix1.2]; omega)) ldL_law_550 ?_
      refine r_val ((congrArg xs hix1.2).trans ex1) ?_
      refine lv_aload_n hx hb ldL_law_551 rfl (lv_at hl 3 rfl) ?_
      refine lv_iload_n hx hb ldL_law_552 rfl (lv_at hl 0 rfl) ?_
      refine lv_iconst (v := zI 2) hx hb ldL_law_553 rfl ?_
      refine z_iadd (z := (i : Int) + 2) hx hb ldL_law_554 (by omega) ?_
      refine va_sld hx hb hX hbl hbA w.2.2.1 (vpi hix2.1 (by rw [hix2.2]; omega)) ldL_law_555 ?_
      refine r_val ((congrArg xs hix2.2).trans ex2) ?_
      refine z_if_eq (tgt := 563) hx hb (by omega) ldL_law_556 (by decide) (fun c => ?_) (fun c => False.elim (by omega))
      refine lv_iconst (v := zI 0) hx hb ldL_law_563 rfl ?_
      refine lv_aload_n hx hb ldL_law_564 rfl (lv_at hl 3 rfl) ?_
      refine lv_iload_n hx hb ldL_law_565 rfl (lv_at hl 0 rfl) ?_
      refine lv_iconst (v := zI 3) hx hb ldL_law_566 rfl ?_
      refine z_iadd (z := (i : Int) + 3) hx hb ldL_law_567 (by omega) ?_
      refine va_sld hx hb hX hbl hbA w.2.2.1 (vpi hix3.1 (by rw [hix3.2]; omega)) ldL_law_568 ?_
      refine r_val ((congrArg xs hix3.2).trans ex3) ?_
      refine z_if_eq (tgt := 576) hx hb (by omega) ldL_law_569 (by decide) (fun c => False.elim (by omega)) (fun c => ?_)
      refine lv_iconst (v := zI 1) hx hb ldL_law_572 rfl ?_
      refine lv_goto (tgt := 577) hx hb ldL_law_573 (by decide) ?_
      refine k_Vi F w (As := [.int (zI x1), .int (zI 0), .int (zI 1)]) (rest := []) (a := 146) (kd_lt (a := 146) (show kd 146 = (12, 0, 0) from rfl) (by decide)) (sh_12 rfl _ _) rfl (Ci_and2 (q_X12_mark (y := x1) ⟨by omega, by omega⟩ (x := 0) ⟨by omega, by omega⟩ (x1 := 1) ⟨by omega, by omega⟩ hJ14.1.2.1) (m_mark hJ14.2.2 (u9 := x1) (b1 := 0) (b2 := 1) (by constructor <;> omega) (by omega) (by omega)) (by decide) (by decide)) lgv_L_69 lhv_X12_mark ⟨(Nat.le_of_ble_eq_true rfl), (Nat.le_of_ble_eq_true rfl)⟩ hl.1 rfl (Nat.le_of_ble_eq_true rfl) ⟨(Nat.le_of_ble_eq_true rfl), (Nat.le_of_ble_eq_true rfl)⟩ ldL_law_577 (fun r15 N16 H locs hp w => ?_)
      obtain ⟨hp, M2N16, hAN16, hqN16⟩ := hp
      obtain ⟨z17, erz17, bz17, hIN16, hFN16⟩ := hp
      subst erz17
      obtain ⟨xwN16, HwN16, kwN16, hKN16, hPN16, hrN16⟩ := AR.c hqN16 hAN16 hJ14.2.2
      have hJ18 := Jg.r hJ14 hIN16 hFN16 (fun b9 k9 h => by (try dsimp only at h); rcases h with ⟨rfl, rfl⟩ | rfl | ⟨rfl, q1, q2⟩ | ⟨rfl, q1, q2⟩ <;> first | decide | omega) (isTr.F hJ14.1.2.2.2.1 hFN16 (by first | decide | (dsimp only; first | done | decide | omega) | omega) (fun k9 => by first | decide | (dsimp only; first | done | decide | omega) | omega)) (hJ14.1.2.2.2.2.2) (hKN16)
      have hal := AP.al hk9 (al_mark hb1 hb2) (alF.e hb1 hb2) hHG hPN12 hPN16
      refine lv_pop hx hb ldL_law_580 rfl ?_
      refine lv_goto (tgt := 1065) hx hb ldL_law_581 (by decide) ?_
      exact kk _ _ _ (Jx.of hJ18 rfl (by omega) rfl rfl hal.2.1 hal.1 hal.2.2.1) w
  · refine lv_iconst (v := zI 1) hx hb ldL_law_523 rfl ?_
    refine lv_goto (tgt := 528) hx hb ldL_law_524 (by decide) ?_
    refine lv_aload_n hx hb ldL_law_528 rfl (lv_at hl 3 rfl) ?_
    refine lv_iload_n hx hb ldL_law_529 rfl (lv_at hl 0 rfl) ?_
    refine lv_iconst (v := zI 3) hx hb ldL_law_530 rfl ?_
    refine z_iadd (z := (i : Int) + 3) hx hb ldL_law_531 (by omega) ?_
    refine va_sld hx hb hX hbl hbA w.2.2.1 (vpi hix3.1 (by rw [hix3.2]; omega)) ldL_law_532 ?_
    refine r_val ((congrArg xs hix3.2).trans ex3) ?_
    refine z_if_eq (tgt := 540) hx hb (by omega) ldL_law_533 (by decide) (fun c19 => ?_) (fun c19 => ?_)
    · refine lv_iconst (v := zI 0) hx hb ldL_law_540 rfl ?_
      obtain ⟨rd9, hC9⟩ := hJ.2.1
      refine k_Vi F w (As := [.int (zI x1), .int (zI 1), .int (zI 0)]) (rest := []) (a := 0) (kd_lt (a := 0) (show kd 0 = (11, 0, 0) from rfl) (by decide)) (sh_11 rfl _ _) rfl (Ci_and2 (q_X11_mark (y := x1) ⟨by omega, by omega⟩ (x := 1) ⟨by omega, by omega⟩ (x1 := 0) ⟨by omega, by omega⟩ hJ.1.1) (g_mark hC9 (u9 := x1) (b1 := 1) (b2 := 0) (by constructor <;> omega) (by omega) (by omega)) (by decide) (by decide)) lgv_L_65 lhv_X11_mark ⟨(Nat.le_of_ble_eq_true rfl), (Nat.le_of_ble_eq_true rfl)⟩ hl.1 rfl (Nat.le_of_ble_eq_true rfl) ⟨(Nat.le_of_ble_eq_true rfl), (Nat.le_of_ble_eq_true rfl)⟩ ldL_law_541 (fun r20 N21 H locs hp w => ?_)
      obtain ⟨hp, M2N21, hAN21, hqN21⟩ := hp
      obtain ⟨z22, erz22, bz22, hIN21, hFN21⟩ := hp
      subst erz22
      obtain ⟨xwN21, HwN21, kwN21, hKN21, hPN21, hrN21⟩ := AQ.c hqN21 hAN21 ⟨rd9, hC9⟩
      have hJ23 := Jg.c hJ hIN21 hFN21 (fun b9 k9 h => by (try dsimp only at h); rcases h with ⟨rfl, rfl⟩ | ⟨rfl, rfl⟩ | ⟨rfl, rfl⟩ | ⟨rfl, rfl⟩ | rfl | rfl | ⟨q1, q2⟩ <;> first | decide | omega) (isTc.F hJ.1.2.2.1 hFN21 (by first | decide | (dsimp only; first | done | decide | omega) | omega) (fun k9 => by first | decide | (dsimp only; first | done | decide | omega) | omega)) (hJ.1.2.2.2.2.1) (hKN21)
      refine lv_pop hx hb ldL_law_544 rfl ?_
      refine lv_aload_n hx hb ldL_law_545 rfl (lv_at hl 1 rfl) ?_
      refine lv_aload_n hx hb ldL_law_546 rfl (lv_at hl 3 rfl) ?_
      refine lv_iload_n hx hb ldL_law_547 rfl (lv_at hl 0 rfl) ?_
      refine lv_iconst (v := zI 1) hx hb ldL_law_548 rfl ?_
      refine z_iadd (z := (i : Int) + 1) hx hb ldL_law_549 (by omega) ?_
      refine va_sld hx hb hX hbl hbA w.2.2.1 (vpi hix1.1 (by rw [hix1.2]; omega)) ldL_law_550 ?_
      refine r_val ((congrArg xs hix1.2).trans ex1) ?_
      refine lv_aload_n hx hb ldL_law_551 rfl (lv_at hl 3 rfl) ?_
      refine lv_iload_n hx hb ldL_law_552 rfl (lv_at hl 0 rfl) ?_
      refine lv_iconst (v := zI 2) hx hb ldL_law_553 rfl ?_
      refine z_iadd (z := (i : Int) + 2) hx hb ldL_law_554 (by omega) ?_
      refine va_sld hx hb hX hbl hbA w.2.2.1 (vpi hix2.1 (by rw [hix2.2]; omega)) ldL_law_555 ?_
      refine r_val ((congrArg xs hix2.2).trans ex2) ?_
      refine z_if_eq (tgt := 563) hx hb (by omega) ldL_law_556 (by decide) (fun c => False.elim (by omega)) (fun c => ?_)
      refine lv_iconst (v := zI 1) hx hb ldL_law_559 rfl ?_
      refine lv_goto (tgt := 564) hx hb ldL_law_560 (by decide) ?_
      refine lv_aload_n hx hb ldL_law_564 rfl (lv_at hl 3 rfl) ?_
      refine lv_iload_n hx hb ldL_law_565 rfl (lv_at hl 0 rfl) ?_
      refine lv_iconst (v := zI 3) hx hb ldL_law_566 rfl ?_
      refine z_iadd (z := (i : Int) + 3) hx hb ldL_law_567 (by omega) ?_
      refine va_sld hx hb hX hbl hbA w.2.2.1 (vpi hix3.1 (by rw [hix3.2]; omega)) ldL_law_568 ?_
      refine r_val ((congrArg xs hix3.2).trans ex3) ?_
      refine z_if_eq (tgt := 576) hx hb (by omega) ldL_law_569 (by decide) (fun c => ?_) (fun c => False.elim (by omega))
      refine lv_iconst (v := zI 0) hx hb ldL_law_576 rfl ?_
      refine k_Vi F w (As := [.int (zI x1), .int (zI 1), .int (zI 0)]) (rest := []) (a := 146) (kd_lt (a := 146) (show kd 146 = (12, 0, 0) from rfl) (by decide)) (sh_12 rfl _ _) rfl (Ci_and2 (q_X12_mark (y := x1) ⟨by omega, by omega⟩ (x := 1) ⟨by omega, by omega⟩ (x1 := 0) ⟨by omega, by omega⟩ hJ23.1.2.1) (m_mark hJ23.2.2 (u9 := x1) (b1 := 1) (b2 := 0) (by constructor <;> omega) (by omega) (by omega)) (by decide) (by decide)) lgv_L_69 lhv_X12_mark ⟨(Nat.le_of_ble_eq_true rfl), (Nat.le_of_ble_eq_true rfl)⟩ hl.1 rfl (Nat.le_of_ble_eq_true rfl) ⟨(Nat.le_of_ble_eq_true rfl), (Nat.le_of_ble_eq_true rfl)⟩ ldL_law_577 (fun r24 N25 H locs hp w => ?_)
      obtain ⟨hp, M2N25, hAN25, hqN25⟩ := hp
      obtain ⟨z26, erz26, bz26, hIN25, hFN25⟩ := hp
      subst erz26
      obtain ⟨xwN25, HwN25, kwN25, hKN25, hPN25, hrN25⟩ := AR.c hqN25 hAN25 hJ23.2.2
      have hJ27 := Jg.r hJ23 hIN25 hFN25 (fun b9 k9 h => by (try dsimp only at h); rcases h with ⟨rfl, rfl⟩ | rfl | ⟨rfl, q1, q2⟩ | ⟨rfl, q1, q2⟩ <;> first | decide | omega) (isTr.F hJ23.1.2.2.2.1 hFN25 (by first | decide | (dsimp only; first | done | decide | omega) | omega) (fun k9 => by first | decide | (dsimp only; first | done | decide | omega) | omega)) (hJ23.1.2.2.2.2.2) (hKN25)
      have hal := AP.al hk9 (al_mark hb1 hb2) (alF.e hb1 hb2) hHG hPN21 hPN25
      refine lv_pop hx hb ldL_law_580 rfl ?_
      refine lv_goto (tgt := 1065) hx hb ldL_law_581 (by decide) ?_
      exact kk _ _ _ (Jx.of hJ27 rfl (by omega) rfl rfl hal.2.1 hal.1 hal.2.2.1) w
    · refine lv_iconst (v := zI 1) hx hb ldL_law_536 rfl ?_
      refine lv_goto (tgt := 541) hx hb ldL_law_537 (by decide) ?_
      obtain ⟨rd9, hC9⟩ := hJ.2.1
      refine k_Vi F w (As := [.int (zI x1), .int (zI 1), .int (zI 1)]) (rest := []) (a := 0) (kd_lt (a := 0) (show kd 0 = (11, 0, 0) from rfl) (by decide)) (sh_11 rfl _ _) rfl (Ci_and2 (q_X11_mark (y := x1) ⟨by omega, by omega⟩ (x := 1) ⟨by omega, by omega⟩ (x1 := 1) ⟨by omega, by omega⟩ hJ.1.1) (g_mark hC9 (u9 := x1) (b1 := 1) (b2 := 1) (by constructor <;> omega) (by omega) (by omega)) (by decide) (by decide)) lgv_L_65 lhv_X11_mark ⟨(Nat.le_of_ble_eq_true rfl), (Nat.le_of_ble_eq_true rfl)⟩ hl.1 rfl (Nat.le_of_ble_eq_true rfl) ⟨(Nat.le_of_ble_eq_true rfl), (Nat.le_of_ble_eq_true rfl)⟩ ldL_law_541 (fun r28 N29 H locs hp w => ?_)
      obtain ⟨hp, M2N29, hAN29, hqN29⟩ := hp
      obtain ⟨z30, erz30, bz30, hIN29, hFN29⟩ := hp
      subst erz30
      obtain ⟨xwN29, HwN29, kwN29, hKN29, hPN29, hrN29⟩ := AQ.c hqN29 hAN29 ⟨rd9, hC9⟩
      have hJ31 := Jg.c hJ hIN29 hFN29 (fun b9 k9 h => by (try dsimp only at h); rcases h with ⟨rfl, rfl⟩ | ⟨rfl, rfl⟩ | ⟨rfl, rfl⟩ | ⟨rfl, rfl⟩ | rfl | rfl | ⟨q1, q2⟩ <;> first | decide | omega) (isTc.F hJ.1.2.2.1 hFN29 (by first | decide | (dsimp only; first | done | decide | omega) | omega) (fun k9 => by first | decide | (dsimp only; first | done | decide | omega) | omega)) (hJ.1.2.2.2.2.1) (hKN29)
      refine lv_pop hx hb ldL_law_544 rfl ?_
      refine lv_aload_n hx hb ldL_law_545 rfl (lv_at hl 1 rfl) ?_
      refine lv_aload_n hx hb ldL_law_546 rfl (lv_at hl 3 rfl) ?_
      refine lv_iload_n hx hb ldL_law_547 rfl (lv_at hl 0 rfl) ?_
      refine lv_iconst (v := zI 1) hx hb ldL_law_548 rfl ?_
      refine z_iadd (z := (i : Int) + 1) hx hb ldL_law_549 (by omega) ?_
      refine va_sld hx hb hX hbl hbA w.2.2.1 (vpi hix1.1 (by rw [hix1.2]; omega)) ldL_law_550 ?_
      refine r_val ((congrArg xs hix1.2).trans ex1) ?_
      refine lv_aload_n hx hb ldL_law_551 rfl (lv_at hl 3 rfl) ?_
      refine lv_iload_n hx hb ldL_law_552 rfl (lv_at hl 0 rfl) ?_
      refine lv_iconst (v := zI 2) hx hb ldL_law_553 rfl ?_
      refine z_iadd (z := (i : Int) + 2) hx hb ldL_law_554 (by omega) ?_
      refine va_sld hx hb hX hbl hbA w.2.2.1 (vpi hix2.1 (by rw [hix2.2]; omega)) ldL_law_555 ?_
      refine r_val ((congrArg xs hix2.2).trans ex2) ?_
      refine z_if_eq (tgt := 563) hx hb (by omega) ldL_law_556 (by decide) (fun c => False.elim (by omega)) (fun c => ?_)
      refine lv_iconst (v := zI 1) hx hb ldL_law_559 rfl ?_
      refine lv_goto (tgt := 564) hx hb ldL_law_560 (by decide) ?_
      refine lv_aload_n hx hb ldL_law_564 rfl (lv_at hl 3 rfl) ?_
      refine lv_iload_n hx hb ldL_law_565 rfl (lv_at hl 0 rfl) ?_
      refine lv_iconst (v := zI 3) hx hb ldL_law_566 rfl ?_
      refine z_iadd (z := (i : Int) + 3) hx hb ldL_law_567 (by omega) ?_
      refine va_sld hx hb hX hbl hbA w.2.2.1 (vpi hix3.1 (by rw [hix3.2]; omega)) ldL_law_568 ?_
      refine r_val ((congrArg xs hix3.2).trans ex3) ?_
      refine z_if_eq (tgt := 576) hx hb (by omega) ldL_law_569 (by decide) (fun c => False.elim (by omega)) (fun c => ?_)
      refine lv_iconst (v := zI 1) hx hb ldL_law_572 rfl ?_
      refine lv_goto (tgt := 577) hx hb ldL_law_573 (by decide) ?_
      refine k_Vi F w (As := [.int (zI x1), .int (zI 1), .int (zI 1)]) (rest := []) (a := 146) (kd_lt (a := 146) (show kd 146 = (12, 0, 0) from rfl) (by decide)) (sh_12 rfl _ _) rfl (Ci_and2 (q_X12_mark (y := x1) ⟨by omega, by omega⟩ (x := 1) ⟨by omega, by omega⟩ (x1 := 1) ⟨by omega, by omega⟩ hJ31.1.2.1) (m_mark hJ31.2.2 (u9 := x1) (b1 := 1) (b2 := 1) (by constructor <;> omega) (by omega) (by omega)) (by decide) (by decide)) lgv_L_69 lhv_X12_mark ⟨(Nat.le_of_ble_eq_true rfl), (Nat.le_of_ble_eq_true rfl)⟩ hl.1 rfl (Nat.le_of_ble_eq_true rfl) ⟨(Nat.le_of_ble_eq_true rfl), (Nat.le_of_ble_eq_true rfl)⟩ ldL_law_577 (fun r32 N33 H locs hp w => ?_)
      obtain ⟨hp, M2N33, hAN33, hqN33⟩ := hp
      obtain ⟨z34, erz34, bz34, hIN33, hFN33⟩ := hp
      subst erz34
      obtain ⟨xwN33, HwN33, kwN33, hKN33, hPN33, hrN33⟩ := AR.c hqN33 hAN33 hJ31.2.2
      have hJ35 := Jg.r hJ31 hIN33 hFN33 (fun b9 k9 h => by (try dsimp only at h); rcases h with ⟨rfl, rfl⟩ | rfl | ⟨rfl, q1, q2⟩ | ⟨rfl, q1, q2⟩ <;> first | decide | omega) (isTr.F hJ31.1.2.2.2.1 hFN33 (by first | decide | (dsimp only; first | done | decide | omega) | omega) (fun k9 => by first | decide | (dsimp only; first | done | decide | omega) | omega)) (hJ31.1.2.2.2.2.2) (hKN33)
      have hal := AP.al hk9 (al_mark hb1 hb2) (alF.e hb1 hb2) hHG hPN29 hPN33
      refine lv_pop hx hb ldL_law_580 rfl ?_
      refine lv_goto (tgt := 1065) hx hb ldL_law_581 (by decide) ?_
      exact kk _ _ _ (Jx.of hJ35 rfl (by omega) rfl rfl hal.2.1 hal.1 hal.2.2.1) w
theorem ldL_law_584 : decode cL_law 584 = .ok (.aload_n 1, 1) := dq0 kk_43 (by decide +kernel)
theorem ldL_law_585 : decode cL_law 585 = .ok (.aload_n 0, 1) := dq0 kk_42 (by decide +kernel)
theorem ldL_law_586 : decode cL_law 586 = .ok (.iload_n 3, 1) := dq0 kk_29 (by decide +kernel)
theorem ldL_law_587 : decode cL_law 587 = .ok (.iconst 1, 1) := dq0 kk_4 (by decide +kernel)
theorem ldL_law_588 : decode cL_law 588 = .ok (.iadd, 1) := dq0 kk_96 (by decide +kernel)
theorem ldL_law_589 : decode cL_law 589 = .ok (.iaload, 1) := dq0 kk_46 (by decide +kernel)
theorem ldL_law_590 : decode cL_law 590 = .ok (.invokevirtual 70, 3) := dqV kk_182 (by decide +kernel)
theorem ltk_X11_does : Cond.code yX11_does cX11_does 3 (some .int) ∈ TB := tbm (tc3 (List.mem_of_getElem? (i := 207) rfl)) rfl
theorem lgc_X11_does : GoodIn TB (cw yX11_does cX11_does 3 (some .int)) := goodIn_c2 ltk_X11_does
theorem ltb_74 : Cond.methodLink "ToneLinesLaw" 70 yX11_does ∈ TB := tbm (tc3 (List.mem_of_getElem? (i := 204) rfl)) rfl
theorem ltb_75 : Cond.instanceMethod yX11_does ∈ TB := tbm (tc3 (List.mem_of_getElem? (i := 205) rfl)) rfl
theorem ltb_76 : Cond.selects "ToneLines" yX11_does yX11_does ∈ TB := tbm (tc3 (List.mem_of_getElem? (i := 206) rfl)) rfl
theorem lgv_L_70 : GoodIn TB (wsV RL 70 RX11 yX11_does (cw yX11_does cX11_does 3 (some .int))) := goodIn_4 ltb_74 ltb_75 ltb_76 ltb_3 lgc_X11_does
theorem lhv_X11_does : yX11_does.cls = RX11 ∧ yX11_does.cls ≠ "java/lang/invoke/MethodHandle" ∧ yX11_does.cls ≠ "java/lang/invoke/VarHandle" ∧ (parseMethodDescriptor yX11_does.desc).map (fun d => d.parameters.length) = some 1 := by decide +kernel
theorem ldL_law_593 : decode cL_law 593 = .ok (.pop, 1) := dq0 kk_87 (by decide +kernel)
theorem ldL_law_594 : decode cL_law 594 = .ok (.aload_n 2, 1) := dq0 kk_44 (by decide +kernel)
theorem ldL_law_595 : decode cL_law 595 = .ok (.aload_n 0, 1) := dq0 kk_42 (by decide +kernel)
theorem ldL_law_596 : decode cL_law 596 = .ok (.iload_n 3, 1) := dq0 kk_29 (by decide +kernel)
theorem ldL_law_597 : decode cL_law 597 = .ok (.iconst 1, 1) := dq0 kk_4 (by decide +kernel)
theorem ldL_law_598 : decode cL_law 598 = .ok (.iadd, 1) := dq0 kk_96 (by decide +kernel)
theorem ldL_law_599 : decode cL_law 599 = .ok (.iaload, 1) := dq0 kk_46 (by decide +kernel)
theorem ldL_law_600 : decode cL_law 600 = .ok (.invokevirtual 73, 3) := dqV kk_182 (by decide +kernel)
theorem ltk_X12_does : Cond.code yX12_does cX12_does 2 (some .int) ∈ TB := tbm (tc6 (List.mem_of_getElem? (i := 48) rfl)) rfl
theorem lgc_X12_does : GoodIn TB (cw yX12_does cX12_does 2 (some .int)) := goodIn_c2 ltk_X12_does
theorem ltb_77 : Cond.methodLink "ToneLinesLaw" 73 yX12_does ∈ TB := tbm (tc6 (List.mem_of_getElem? (i := 45) rfl)) rfl
theorem ltb_78 : Cond.instanceMethod yX12_does ∈ TB := tbm (tc6 (List.mem_of_getElem? (i := 46) rfl)) rfl
theorem ltb_79 : Cond.selects "ToneLinesModel" yX12_does yX12_does ∈ TB := tbm (tc6 (List.mem_of_getElem? (i := 47) rfl)) rfl
theorem lgv_L_73 : GoodIn TB (wsV RL 73 RX12 yX12_does (cw yX12_does cX12_does 2 (some .int))) := goodIn_4 ltb_77 ltb_78 ltb_79 ltb_7 lgc_X12_does
theorem lhv_X12_does : yX12_does.cls = RX12 ∧ yX12_does.cls ≠ "java/lang/invoke/MethodHandle" ∧ yX12_does.cls ≠ "java/lang/invoke/VarHandle" ∧ (parseMethodDescriptor yX12_does.desc).map (fun d => d.parameters.length) = some 1 := by decide +kernel
theorem ldL_law_603 : decode cL_law 603 = .ok (.pop, 1) := dq0 kk_87 (by decide +kernel)
theorem ldL_law_604 : decode cL_law 604 = .ok (.goto 461, 3) := dqT kk_167 (by decide +kernel)
set_option maxRecDepth 8000 in
set_option maxHeartbeats 1000000 in
theorem lc_12 {p : Program} {l : Launch} {e : Env} {s : State} {m : MethodId} {below : List Frame} {meth : Method} {c : Code} {D : va_G} {B b L : Nat} {cy : Nat → ClassId} {H : Heap} {locs : List Loc} {ls : Array Slot} {xs : Nat → Int32} {M : Mem} {Q : State → Prop} {i : Nat} (F : CallFix p m c code 4 s #[Value.ref b] TB RL) (hX : va_X b L xs s s.heap) (hbl : b < s.heap.size) (hbA : ¬ B ≤ b) (hi : i + 6 ≤ L) (hL : L ≤ 3072) (hJx : Jx M) (w : Wd D B cy s s.heap M H locs) (hl : lv_has ls 4 [(3, .int (zI (i : Int))), (2, .ref (B + 146)), (1, .ref (B + 0)), (0, .ref b)]) (kk : ∀ (M1 : Mem) (H1 : Heap) (locs1 : List Loc), Jx M1 → Wd D B cy s s.heap M1 H1 locs1 → W p l e room_1 s m #[Value.ref b] below meth c H1 locs1 159 13107 Q (F0 m 1065 ls [])) : W p l e room_1 s m #[Value.ref b] below meth c H locs 159 13107 Q (F0 m 584 ls []) := by
  have hx := F.1
  have hb := F.2.1
  obtain ⟨T, tn, Ps, mr, xw, Hs, kw, yw, Gs, hJ, hxy, hHG⟩ := hJx
  obtain ⟨qw, hv, ed, hv2, ed2, o, rfl, rfl, hb1, hb2⟩ := hxy.i
  have hta := hJ.1.2.2.2.2.1.1
  have hk9 : kw ≤ 12 := hJ.2.2.2.2.2.2.1
  have hG9 : ∀ j, j < mr → okG (Ps j) := fun j hj => (hJ.2.2.1.2 j hj).2
  have hok9 : okW qw o := hJ.2.2.2.2.1.2.1
  have hix1 := ix_z (z := (i : Int) + 1) (by omega) (by omega)
  obtain ⟨x1, bx1, ex1⟩ := rg_ex (xs ((i : Int) + 1).toNat)
  refine lv_aload_n hx hb ldL_law_584 rfl (lv_at hl 2 rfl) ?_
  refine lv_aload_n hx hb ldL_law_585 rfl (lv_at hl 3 rfl) ?_
  refine lv_iload_n hx hb ldL_law_586 rfl (lv_at hl 0 rfl) ?_
  refine lv_iconst (v := zI 1) hx hb ldL_law_587 rfl ?_
  refine z_iadd (z := (i : Int) + 1) hx hb ldL_law_588 (by omega) ?_
  refine va_sld hx hb hX hbl hbA w.2.2.1 (vpi hix1.1 (by rw [hix1.2]; omega)) ldL_law_589 ?_
  refine r_val ((congrArg xs hix1.2).trans ex1) ?_
  obtain ⟨rd9, hC9⟩ := hJ.2.1
  refine k_Vi F w (As := [.int (zI x1)]) (rest := []) (a := 0) (kd_lt (a := 0) (show kd 0 = (11, 0, 0) from rfl) (by decide)) (sh_11 rfl _ _) rfl (Ci_and2 (q_X11_does (x := x1) ⟨by omega, by omega⟩ hJ.1.1) (g_does hC9 (r9 := x1) (by constructor <;> omega)) (by decide) (by decide)) lgv_L_70 lhv_X11_does ⟨(Nat.le_of_ble_eq_true rfl), (Nat.le_of_ble_eq_true rfl)⟩ hl.1 rfl (Nat.le_of_ble_eq_true rfl) ⟨(Nat.le_of_ble_eq_true rfl), (Nat.le_of_ble_eq_true rfl)⟩ ldL_law_590 (fun r1 N2 H locs hp w => ?_)
  obtain ⟨hp, M2N2, hAN2, hqN2⟩ := hp
  obtain ⟨z3, erz3, bz3, hIN2, hFN2⟩ := hp
  subst erz3
  obtain ⟨xwN2, HwN2, kwN2, hKN2, hPN2, hrN2⟩ := does_c hC9 hqN2 hAN2
  have hJ4 := Jg.c hJ hIN2 hFN2 (fun b9 k9 h => by (try dsimp only at h); rcases h with ⟨rfl, rfl⟩ | ⟨rfl, rfl⟩ | ⟨rfl, rfl⟩ | ⟨rfl, rfl⟩ | ⟨rfl, rfl⟩ | rfl | rfl | rfl | rfl | rfl | rfl | rfl | ⟨q1, q2⟩ <;> first | decide | omega) (isTc.F hJ.1.2.2.1 hFN2 (by first | decide | (dsimp only; first | done | decide | omega) | omega) (fun k9 => by first | decide | (dsimp only; first | done | decide | omega) | omega)) (hJ.1.2.2.2.2.1) (hKN2)
  refine lv_pop hx hb ldL_law_593 rfl ?_
  refine lv_aload_n hx hb ldL_law_594 rfl (lv_at hl 1 rfl) ?_
  refine lv_aload_n hx hb ldL_law_595 rfl (lv_at hl 3 rfl) ?_
  refine lv_iload_n hx hb ldL_law_596 rfl (lv_at hl 0 rfl) ?_
  refine lv_iconst (v := zI 1) hx hb ldL_law_597 rfl ?_
  refine z_iadd (z := (i : Int) + 1) hx hb ldL_law_598 (by omega) ?_
  refine va_sld hx hb hX hbl hbA w.2.2.1 (vpi hix1.1 (by rw [hix1.2]; omega)) ldL_law_599 ?_
  refine r_val ((congrArg xs hix1.2).trans ex1) ?_
  refine k_Vi F w (As := [.int (zI x1)]) (rest := []) (a := 146) (kd_lt (a := 146) (show kd 146 = (12, 0, 0) from rfl) (by decide)) (sh_12 rfl _ _) rfl (Ci_and2 (q_X12_does (x := x1) ⟨by omega, by omega⟩ hJ4.1.2.1) (m_does hJ4.2.2 (r9 := x1) (by constructor <;> omega)) (by decide) (by decide)) lgv_L_73 lhv_X12_does ⟨(Nat.le_of_ble_eq_true rfl), (Nat.le_of_ble_eq_true rfl)⟩ hl.1 rfl (Nat.le_of_ble_eq_true rfl) ⟨(Nat.le_of_ble_eq_true rfl), (Nat.le_of_ble_eq_true rfl)⟩ ldL_law_600 (fun r5 N6 H locs hp w => ?_)
  obtain ⟨hp, M2N6, hAN6, hqN6⟩ := hp
  obtain ⟨z7, erz7, bz7, hIN6, hFN6⟩ := hp
  subst erz7
  obtain ⟨xwN6, HwN6, kwN6, hKN6, hPN6, hrN6⟩ := does_r hJ4.2.2 hqN6 hAN6
  have hJ8 := Jg.r hJ4 hIN6 hFN6 (fun b9 k9 h => by (try dsimp only at h); rcases h with ⟨rfl, rfl⟩ | ⟨rfl, rfl⟩ | ⟨rfl, rfl⟩ | rfl | rfl | rfl <;> first | decide | omega) (isTr.F hJ4.1.2.2.2.1 hFN6 (by first | decide | (dsimp only; first | done | decide | omega) | omega) (fun k9 => by first | decide | (dsimp only; first | done | decide | omega) | omega)) (hJ4.1.2.2.2.2.2) (hKN6)
  have hds := al_does (r := x1) hG9 hok9 hb1 hb2
  have hal := AP.al hk9 (hds.1) (alF.e hb1 hb2) hHG hPN2 hPN6
  refine lv_pop hx hb ldL_law_603 rfl ?_
  refine lv_goto (tgt := 1065) hx hb ldL_law_604 (by decide) ?_
  exact kk _ _ _ (Jx.of hJ8 rfl (by omega) rfl rfl hal.2.1 hal.1 hal.2.2.1) w
theorem ldL_law_607 : decode cL_law 607 = .ok (.aload_n 1, 1) := dq0 kk_43 (by decide +kernel)
theorem ldL_law_608 : decode cL_law 608 = .ok (.aload_n 0, 1) := dq0 kk_42 (by decide +kernel)
theorem ldL_law_609 : decode cL_law 609 = .ok (.iload_n 3, 1) := dq0 kk_29 (by decide +kernel)
theorem ldL_law_610 : decode cL_law 610 = .ok (.iconst 1, 1) := dq0 kk_4 (by decide +kernel)
theorem ldL_law_611 : decode cL_law 611 = .ok (.iadd, 1) := dq0 kk_96 (by decide +kernel)
theorem ldL_law_612 : decode cL_law 612 = .ok (.iaload, 1) := dq0 kk_46 (by decide +kernel)
theorem ldL_law_613 : decode cL_law 613 = .ok (.invokevirtual 74, 3) := dqV kk_182 (by decide +kernel)
theorem ltk_X11_derive : Cond.code yX11_derive cX11_derive 4 (some .int) ∈ TB := tbm (tc4 (List.mem_of_getElem? (i := 97) rfl)) rfl
theorem lgc_X11_derive : GoodIn TB (cw yX11_derive cX11_derive 4 (some .int)) := goodIn_c2 ltk_X11_derive
theorem ltb_80 : Cond.methodLink "ToneLinesLaw" 74 yX11_derive ∈ TB := tbm (tc4 (List.mem_of_getElem? (i := 94) rfl)) rfl
theorem ltb_81 : Cond.instanceMethod yX11_derive ∈ TB := tbm (tc4 (List.mem_of_getElem? (i := 95) rfl)) rfl
theorem ltb_82 : Cond.selects "ToneLines" yX11_derive yX11_derive ∈ TB := tbm (tc4 (List.mem_of_getElem? (i := 96) rfl)) rfl
theorem lgv_L_74 : GoodIn TB (wsV RL 74 RX11 yX11_derive (cw yX11_derive cX11_derive 4 (some .int))) := goodIn_4 ltb_80 ltb_81 ltb_82 ltb_3 lgc_X11_derive
theorem lhv_X11_derive : yX11_derive.cls = RX11 ∧ yX11_derive.cls ≠ "java/lang/invoke/MethodHandle" ∧ yX11_derive.cls ≠ "java/lang/invoke/VarHandle" ∧ (parseMethodDescriptor yX11_derive.desc).map (fun d => d.parameters.length) = some 1 := by decide +kernel
theorem ldL_law_616 : decode cL_law 616 = .ok (.pop, 1) := dq0 kk_87 (by decide +kernel)
theorem ldL_law_617 : decode cL_law 617 = .ok (.aload_n 2, 1) := dq0 kk_44 (by decide +kernel)
theorem ldL_law_618 : decode cL_law 618 = .ok (.aload_n 0, 1) := dq0 kk_42 (by decide +kernel)
theorem ldL_law_619 : decode cL_law 619 = .ok (.iload_n 3, 1) := dq0 kk_29 (by decide +kernel)
theorem ldL_law_620 : decode cL_law 620 = .ok (.iconst 1, 1) := dq0 kk_4 (by decide +kernel)
theorem ldL_law_621 : decode cL_law 621 = .ok (.iadd, 1) := dq0 kk_96 (by decide +kernel)
theorem ldL_law_622 : decode cL_law 622 = .ok (.iaload, 1) := dq0 kk_46 (by decide +kernel)
theorem ldL_law_623 : decode cL_law 623 = .ok (.invokevirtual 77, 3) := dqV kk_182 (by decide +kernel)
theorem ltk_X12_derive : Cond.code yX12_derive cX12_derive 2 (some .int) ∈ TB := tbm (tc6 (List.mem_of_getElem? (i := 137) rfl)) rfl
theorem lgc_X12_derive : GoodIn TB (cw yX12_derive cX12_derive 2 (some .int)) := goodIn_c2 ltk_X12_derive
theorem ltb_83 : Cond.methodLink "ToneLinesLaw" 77 yX12_derive ∈ TB := tbm (tc6 (List.mem_of_getElem? (i := 134) rfl)) rfl
theorem ltb_84 : Cond.instanceMethod yX12_derive ∈ TB := tbm (tc6 (List.mem_of_getElem? (i := 135) rfl)) rfl
theorem ltb_85 : Cond.selects "ToneLinesModel" yX12_derive yX12_derive ∈ TB := tbm (tc6 (List.mem_of_getElem? (i := 136) rfl)) rfl
theorem lgv_L_77 : GoodIn TB (wsV RL 77 RX12 yX12_derive (cw yX12_derive cX12_derive 2 (some .int))) := goodIn_4 ltb_83 ltb_84 ltb_85 ltb_7 lgc_X12_derive
theorem lhv_X12_derive : yX12_derive.cls = RX12 ∧ yX12_derive.cls ≠ "java/lang/invoke/MethodHandle" ∧ yX12_derive.cls ≠ "java/lang/invoke/VarHandle" ∧ (parseMethodDescriptor yX12_derive.desc).map (fun d => d.parameters.length) = some 1 := by decide +kernel
theorem ldL_law_626 : decode cL_law 626 = .ok (.pop, 1) := dq0 kk_87 (by decide +kernel)
theorem ldL_law_627 : decode cL_law 627 = .ok (.goto 438, 3) := dqT kk_167 (by decide +kernel)
set_option maxRecDepth 8000 in
set_option maxHeartbeats 1000000 in
theorem lc_13 {p : Program} {l : Launch} {e : Env} {s : State} {m : MethodId} {below : List Frame} {meth : Method} {c : Code} {D : va_G} {B b L : Nat} {cy : Nat → ClassId} {H : Heap} {locs : List Loc} {ls : Array Slot} {xs : Nat → Int32} {M : Mem} {Q : State → Prop} {i : Nat} (F : CallFix p m c code 4 s #[Value.ref b] TB RL) (hX : va_X b L xs s s.heap) (hbl : b < s.heap.size) (hbA : ¬ B ≤ b) (hi : i + 6 ≤ L) (hL : L ≤ 3072) (hJx : Jx M) (w : Wd D B cy s s.heap M H locs) (hl : lv_has ls 4 [(3, .int (zI (i : Int))), (2, .ref (B + 146)), (1, .ref (B + 0)), (0, .ref b)]) (kk : ∀ (M1 : Mem) (H1 : Heap) (locs1 : List Loc), Jx M1 → Wd D B cy s s.heap M1 H1 locs1 → W p l e room_1 s m #[Value.ref b] below meth c H1 locs1 159 13107 Q (F0 m 1065 ls [])) : W p l e room_1 s m #[Value.ref b] below meth c H locs 159 13107 Q (F0 m 607 ls []) := by
  have hx := F.1
  have hb := F.2.1
  obtain ⟨T, tn, Ps, mr, xw, Hs, kw, yw, Gs, hJ, hxy, hHG⟩ := hJx
  obtain ⟨qw, hv, ed, hv2, ed2, o, rfl, rfl, hb1, hb2⟩ := hxy.i
  have hta := hJ.1.2.2.2.2.1.1
  have hk9 : kw ≤ 12 := hJ.2.2.2.2.2.2.1
  have hG9 : ∀ j, j < mr → okG (Ps j) := fun j hj => (hJ.2.2.1.2 j hj).2
  have hok9 : okW qw o := hJ.2.2.2.2.1.2.1
  have hix1 := ix_z (z := (i : Int) + 1) (by omega) (by omega)
  obtain ⟨x1, bx1, ex1⟩ := rg_ex (xs ((i : Int) + 1).toNat)
  refine lv_aload_n hx hb ldL_law_607 rfl (lv_at hl 2 rfl) ?_
  refine lv_aload_n hx hb ldL_law_608 rfl (lv_at hl 3 rfl) ?_
  refine lv_iload_n hx hb ldL_law_609 rfl (lv_at hl 0 rfl) ?_
  refine lv_iconst (v := zI 1) hx hb ldL_law_610 rfl ?_
  refine z_iadd (z := (i : Int) + 1) hx hb ldL_law_611 (by omega) ?_
  refine va_sld hx hb hX hbl hbA w.2.2.1 (vpi hix1.1 (by rw [hix1.2]; omega)) ldL_law_612 ?_
  refine r_val ((congrArg xs hix1.2).trans ex1) ?_
  obtain ⟨rd9, hC9⟩ := hJ.2.1
  refine k_Vi F w (As := [.int (zI x1)]) (rest := []) (a := 0) (kd_lt (a := 0) (show kd 0 = (11, 0, 0) from rfl) (by decide)) (sh_11 rfl _ _) rfl (Ci_and2 (q_X11_derive (x := x1) ⟨by omega, by omega⟩ hJ.1.1) (g_derive hC9 (r9 := x1) (by constructor <;> omega)) (by decide) (by decide)) lgv_L_74 lhv_X11_derive ⟨(Nat.le_of_ble_eq_true rfl), (Nat.le_of_ble_eq_true rfl)⟩ hl.1 rfl (Nat.le_of_ble_eq_true rfl) ⟨(Nat.le_of_ble_eq_true rfl), (Nat.le_of_ble_eq_true rfl)⟩ ldL_law_613 (fun r1 N2 H locs hp w => ?_)
  obtain ⟨hp, M2N2, hAN2, hqN2⟩ := hp
  obtain ⟨z3, erz3, bz3, hIN2, hFN2⟩ := hp
  subst erz3
  obtain ⟨xwN2, HwN2, kwN2, hKN2, hPN2, hrN2⟩ := derive_c hC9 hqN2 hAN2
  have hJ4 := Jg.c hJ hIN2 hFN2 (fun b9 k9 h => by (try dsimp only at h); rcases h with ⟨rfl, rfl⟩ | ⟨rfl, rfl⟩ | ⟨rfl, rfl⟩ | ⟨rfl, rfl⟩ | ⟨rfl, rfl⟩ | rfl | rfl | rfl | ⟨q1, q2⟩ | ⟨q1, q2⟩ <;> first | decide | omega) (isTc.F hJ.1.2.2.1 hFN2 (by first | decide | (dsimp only; first | done | decide | omega) | omega) (fun k9 => by first | decide | (dsimp only; first | done | decide | omega) | omega)) (hJ.1.2.2.2.2.1) (hKN2)
  refine lv_pop hx hb ldL_law_616 rfl ?_
  refine lv_aload_n hx hb ldL_law_617 rfl (lv_at hl 1 rfl) ?_
  refine lv_aload_n hx hb ldL_law_618 rfl (lv_at hl 3 rfl) ?_
  refine lv_iload_n hx hb ldL_law_619 rfl (lv_at hl 0 rfl) ?_
  refine lv_iconst (v := zI 1) hx hb ldL_law_620 rfl ?_
  refine z_iadd (z := (i : Int) + 1) hx hb ldL_law_621 (by omega) ?_
  refine va_sld hx hb hX hbl hbA w.2.2.1 (vpi hix1.1 (by rw [hix1.2]; omega)) ldL_law_622 ?_
  refine r_val ((congrArg xs hix1.2).trans ex1) ?_
  refine k_Vi F w (As := [.int (zI x1)]) (rest := []) (a := 146) (kd_lt (a := 146) (show kd 146 = (12, 0, 0) from rfl) (by decide)) (sh_12 rfl _ _) rfl (Ci_and2 (q_X12_derive (x := x1) ⟨by omega, by omega⟩ hJ4.1.2.1) (m_derive hJ4.2.2 (r9 := x1) (by constructor <;> omega)) (by decide) (by decide)) lgv_L_77 lhv_X12_derive ⟨(Nat.le_of_ble_eq_true rfl), (Nat.le_of_ble_eq_true rfl)⟩ hl.1 rfl (Nat.le_of_ble_eq_true rfl) ⟨(Nat.le_of_ble_eq_true rfl), (Nat.le_of_ble_eq_true rfl)⟩ ldL_law_623 (fun r5 N6 H locs hp w => ?_)
  obtain ⟨hp, M2N6, hAN6, hqN6⟩ := hp
  obtain ⟨z7, erz7, bz7, hIN6, hFN6⟩ := hp
  subst erz7
  obtain ⟨xwN6, HwN6, kwN6, hKN6, hPN6, hrN6⟩ := derive_r hJ4.2.2 hqN6 hAN6
  have hJ8 := Jg.r hJ4 hIN6 hFN6 (fun b9 k9 h => by (try dsimp only at h); rcases h with ⟨rfl, rfl⟩ | ⟨rfl, rfl⟩ | ⟨rfl, rfl⟩ | rfl | rfl | rfl <;> first | decide | omega) (isTr.F hJ4.1.2.2.2.1 hFN6 (by first | decide | (dsimp only; first | done | decide | omega) | omega) (fun k9 => by first | decide | (dsimp only; first | done | decide | omega) | omega)) (hJ4.1.2.2.2.2.2) (hKN6)
  have hds := al_derive (r := x1) hG9 hok9 hb1 hb2
  have hal := AP.al hk9 (hds.1) (alF.e hb1 hb2) hHG hPN2 hPN6
  refine lv_pop hx hb ldL_law_626 rfl ?_
  refine lv_goto (tgt := 1065) hx hb ldL_law_627 (by decide) ?_
  exact kk _ _ _ (Jx.of hJ8 rfl (by omega) rfl rfl hal.2.1 hal.1 hal.2.2.1) w
theorem ldL_law_630 : decode cL_law 630 = .ok (.aload_n 1, 1) := dq0 kk_43 (by decide +kernel)
theorem ldL_law_631 : decode cL_law 631 = .ok (.invokevirtual 78, 3) := dqV kk_182 (by decide +kernel)
theorem ltk_X11_undo : Cond.code yX11_undo cX11_undo 1 (some .int) ∈ TB := tbm (tc4 (List.mem_of_getElem? (i := 116) rfl)) rfl
theorem lgc_X11_undo : GoodIn TB (cw yX11_undo cX11_undo 1 (some .int)) := goodIn_c2 ltk_X11_undo
theorem ltb_86 : Cond.methodLink "ToneLinesLaw" 78 yX11_undo ∈ TB := tbm (tc4 (List.mem_of_getElem? (i := 113) rfl)) rfl
theorem ltb_87 : Cond.instanceMethod yX11_undo ∈ TB := tbm (tc4 (List.mem_of_getElem? (i := 114) rfl)) rfl
theorem ltb_88 : Cond.selects "ToneLines" yX11_undo yX11_undo ∈ TB := tbm (tc4 (List.mem_of_getElem? (i := 115) rfl)) rfl
theorem lgv_L_78 : GoodIn TB (wsV RL 78 RX11 yX11_undo (cw yX11_undo cX11_undo 1 (some .int))) := goodIn_4 ltb_86 ltb_87 ltb_88 ltb_3 lgc_X11_undo
theorem lhv_X11_undo : yX11_undo.cls = RX11 ∧ yX11_undo.cls ≠ "java/lang/invoke/MethodHandle" ∧ yX11_undo.cls ≠ "java/lang/invoke/VarHandle" ∧ (parseMethodDescriptor yX11_undo.desc).map (fun d => d.parameters.length) = some 0 := by decide +kernel
theorem ldL_law_634 : decode cL_law 634 = .ok (.pop, 1) := dq0 kk_87 (by decide +kernel)
theorem ldL_law_635 : decode cL_law 635 = .ok (.aload_n 2, 1) := dq0 kk_44 (by decide +kernel)
theorem ldL_law_636 : decode cL_law 636 = .ok (.invokevirtual 81, 3) := dqV kk_182 (by decide +kernel)
theorem ltk_X12_undo : Cond.code yX12_undo cX12_undo 2 (some .int) ∈ TB := tbm (tc6 (List.mem_of_getElem? (i := 145) rfl)) rfl
theorem lgc_X12_undo : GoodIn TB (cw yX12_undo cX12_undo 2 (some .int)) := goodIn_c2 ltk_X12_undo
theorem ltb_89 : Cond.methodLink "ToneLinesLaw" 81 yX12_undo ∈ TB := tbm (tc6 (List.mem_of_getElem? (i := 142) rfl)) rfl
theorem ltb_90 : Cond.instanceMethod yX12_undo ∈ TB := tbm (tc6 (List.mem_of_getElem? (i := 143) rfl)) rfl
theorem ltb_91 : Cond.selects "ToneLinesModel" yX12_undo yX12_undo ∈ TB := tbm (tc6 (List.mem_of_getElem? (i := 144) rfl)) rfl
theorem lgv_L_81 : GoodIn TB (wsV RL 81 RX12 yX12_undo (cw yX12_undo cX12_undo 2 (some .int))) := goodIn_4 ltb_89 ltb_90 ltb_91 ltb_7 lgc_X12_undo
theorem lhv_X12_undo : yX12_undo.cls = RX12 ∧ yX12_undo.cls ≠ "java/lang/invoke/MethodHandle" ∧ yX12_undo.cls ≠ "java/lang/invoke/VarHandle" ∧ (parseMethodDescriptor yX12_undo.desc).map (fun d => d.parameters.length) = some 0 := by decide +kernel
theorem ldL_law_639 : decode cL_law 639 = .ok (.pop, 1) := dq0 kk_87 (by decide +kernel)
theorem ldL_law_640 : decode cL_law 640 = .ok (.goto 425, 3) := dqT kk_167 (by decide +kernel)
set_option maxRecDepth 8000 in
set_option maxHeartbeats 1000000 in
theorem lc_14 {p : Program} {l : Launch} {e : Env} {s : State} {m : MethodId} {below : List Frame} {meth : Method} {c : Code} {D : va_G} {B b L : Nat} {cy : Nat → ClassId} {H : Heap} {locs : List Loc} {ls : Array Slot} {xs : Nat → Int32} {M : Mem} {Q : State → Prop} {i : Nat} (F : CallFix p m c code 4 s #[Value.ref b] TB RL) (hX : va_X b L xs s s.heap) (hbl : b < s.heap.size) (hbA : ¬ B ≤ b) (hi : i + 6 ≤ L) (hL : L ≤ 3072) (hJx : Jx M) (w : Wd D B cy s s.heap M H locs) (hl : lv_has ls 4 [(3, .int (zI (i : Int))), (2, .ref (B + 146)), (1, .ref (B + 0)), (0, .ref b)]) (kk : ∀ (M1 : Mem) (H1 : Heap) (locs1 : List Loc), Jx M1 → Wd D B cy s s.heap M1 H1 locs1 → W p l e room_1 s m #[Value.ref b] below meth c H1 locs1 159 13107 Q (F0 m 1065 ls [])) : W p l e room_1 s m #[Value.ref b] below meth c H locs 159 13107 Q (F0 m 630 ls []) := by
  have hx := F.1
  have hb := F.2.1
  obtain ⟨T, tn, Ps, mr, xw, Hs, kw, yw, Gs, hJ, hxy, hHG⟩ := hJx
  obtain ⟨qw, hv, ed, hv2, ed2, o, rfl, rfl, hb1, hb2⟩ := hxy.i
  have hta := hJ.1.2.2.2.2.1.1
  refine lv_aload_n hx hb ldL_law_630 rfl (lv_at hl 2 rfl) ?_
  obtain ⟨rd9, hC9⟩ := hJ.2.1
  refine k_Vi F w (As := []) (rest := []) (a := 0) (kd_lt (a := 0) (show kd 0 = (11, 0, 0) from rfl) (by decide)) (sh_11 rfl _ _) rfl (Ci_and2 (q_X11_undo  hJ.1.1) (g_undo hC9) (by decide) (by decide)) lgv_L_78 lhv_X11_undo ⟨(Nat.le_of_ble_eq_true rfl), (Nat.le_of_ble_eq_true rfl)⟩ hl.1 rfl (Nat.le_of_ble_eq_true rfl) ⟨(Nat.le_of_ble_eq_true rfl), (Nat.le_of_ble_eq_true rfl)⟩ ldL_law_631 (fun r1 N2 H locs hp w => ?_)
  obtain ⟨hp, M2N2, hAN2, hqN2⟩ := hp
  obtain ⟨z3, erz3, bz3, hIN2, hFN2⟩ := hp
  subst erz3
  obtain ⟨xwN2, kwN2, hKN2, hPN2⟩ := undo_c hC9 hqN2 hAN2
  have hJ4 := Jg.c hJ hIN2 hFN2 (fun b9 k9 h => by (try dsimp only at h); rcases h with ⟨rfl, rfl⟩ | ⟨rfl, rfl⟩ | ⟨rfl, rfl⟩ | ⟨rfl, rfl⟩ | rfl | rfl | rfl | rfl <;> first | decide | omega) (isTc.F hJ.1.2.2.1 hFN2 (by first | decide | (dsimp only; first | done | decide | omega) | omega) (fun k9 => by first | decide | (dsimp only; first | done | decide | omega) | omega)) (hJ.1.2.2.2.2.1) (hKN2)
  refine lv_pop hx hb ldL_law_634 rfl ?_
  refine lv_aload_n hx hb ldL_law_635 rfl (lv_at hl 1 rfl) ?_
  obtain ⟨g5, bg5, eg5⟩ := IvR.ld (k := 20) hJ4.1.2.1 (show ivr 146 20 = (0, 12) from rfl) (by decide)
  refine k_Vi F w (As := []) (rest := []) (a := 146) (kd_lt (a := 146) (show kd 146 = (12, 0, 0) from rfl) (by decide)) (sh_12 rfl _ _) rfl (Ci_and2 (q_X12_undo (ac := g5) eg5 bg5 hJ4.1.2.1) (m_undo hJ4.2.2) (by decide) (by decide)) lgv_L_81 lhv_X12_undo ⟨(Nat.le_of_ble_eq_true rfl), (Nat.le_of_ble_eq_true rfl)⟩ hl.1 rfl (Nat.le_of_ble_eq_true rfl) ⟨(Nat.le_of_ble_eq_true rfl), (Nat.le_of_ble_eq_true rfl)⟩ ldL_law_636 (fun r6 N7 H locs hp w => ?_)
  obtain ⟨hp, M2N7, hAN7, hqN7⟩ := hp
  obtain ⟨z8, erz8, bz8, hIN7, hFN7⟩ := hp
  subst erz8
  obtain ⟨xwN7, kwN7, hKN7, hPN7⟩ := undo_r hJ4.2.2 hqN7 hAN7
  have hJ9 := Jg.r hJ4 hIN7 hFN7 (fun b9 k9 h => by (try dsimp only at h); rcases h with ⟨rfl, rfl⟩ | rfl <;> first | decide | omega) (isTr.F hJ4.1.2.2.2.1 hFN7 (by first | decide | (dsimp only; first | done | decide | omega) | omega) (fun k9 => by first | decide | (dsimp only; first | done | decide | omega) | omega)) (hJ4.1.2.2.2.2.2) (hKN7)
  have hal := UP.al (alF.e hb1 hb2) hHG hPN2 hPN7
  refine lv_pop hx hb ldL_law_639 rfl ?_
  refine lv_goto (tgt := 1065) hx hb ldL_law_640 (by decide) ?_
  exact kk _ _ _ (Jx.of hJ9 rfl (by omega) rfl rfl hal.2.1 hal.1 hal.2.2.1) w
theorem ldL_law_643 : decode cL_law 643 = .ok (.aload_n 1, 1) := dq0 kk_43 (by decide +kernel)
theorem ldL_law_644 : decode cL_law 644 = .ok (.aload_n 0, 1) := dq0 kk_42 (by decide +kernel)
theorem ldL_law_645 : decode cL_law 645 = .ok (.iload_n 3, 1) := dq0 kk_29 (by decide +kernel)
theorem ldL_law_646 : decode cL_law 646 = .ok (.iconst 1, 1) := dq0 kk_4 (by decide +kernel)
theorem ldL_law_647 : decode cL_law 647 = .ok (.iadd, 1) := dq0 kk_96 (by decide +kernel)
theorem ldL_law_648 : decode cL_law 648 = .ok (.iaload, 1) := dq0 kk_46 (by decide +kernel)
theorem ldL_law_649 : decode cL_law 649 = .ok (.aload_n 0, 1) := dq0 kk_42 (by decide +kernel)
theorem ldL_law_650 : decode cL_law 650 = .ok (.iload_n 3, 1) := dq0 kk_29 (by decide +kernel)
theorem ldL_law_651 : decode cL_law 651 = .ok (.iconst 2, 1) := dq0 kk_5 (by decide +kernel)
theorem ldL_law_652 : decode cL_law 652 = .ok (.iadd, 1) := dq0 kk_96 (by decide +kernel)
theorem ldL_law_653 : decode cL_law 653 = .ok (.iaload, 1) := dq0 kk_46 (by decide +kernel)
theorem ldL_law_654 : decode cL_law 654 = .ok (.invokevirtual 82, 3) := dqV kk_182 (by decide +kernel)
theorem ltk_X11_has : Cond.code yX11_has cX11_has 4 (some .int) ∈ TB := tbm (tc4 (List.mem_of_getElem? (i := 124) rfl)) rfl
theorem lgc_X11_has : GoodIn TB (cw yX11_has cX11_has 4 (some .int)) := goodIn_c2 ltk_X11_has
theorem ltb_92 : Cond.methodLink "ToneLinesLaw" 82 yX11_has ∈ TB := tbm (tc4 (List.mem_of_getElem? (i := 121) rfl)) rfl
theorem ltb_93 : Cond.instanceMethod yX11_has ∈ TB := tbm (tc4 (List.mem_of_getElem? (i := 122) rfl)) rfl
theorem ltb_94 : Cond.selects "ToneLines" yX11_has yX11_has ∈ TB := tbm (tc4 (List.mem_of_getElem? (i := 123) rfl)) rfl
theorem lgv_L_82 : GoodIn TB (wsV RL 82 RX11 yX11_has (cw yX11_has cX11_has 4 (some .int))) := goodIn_4 ltb_92 ltb_93 ltb_94 ltb_3 lgc_X11_has
theorem lhv_X11_has : yX11_has.cls = RX11 ∧ yX11_has.cls ≠ "java/lang/invoke/MethodHandle" ∧ yX11_has.cls ≠ "java/lang/invoke/VarHandle" ∧ (parseMethodDescriptor yX11_has.desc).map (fun d => d.parameters.length) = some 2 := by decide +kernel
theorem ldL_law_657 : decode cL_law 657 = .ok (.pop, 1) := dq0 kk_87 (by decide +kernel)
theorem ldL_law_658 : decode cL_law 658 = .ok (.aload_n 2, 1) := dq0 kk_44 (by decide +kernel)
theorem ldL_law_659 : decode cL_law 659 = .ok (.aload_n 0, 1) := dq0 kk_42 (by decide +kernel)
theorem ldL_law_660 : decode cL_law 660 = .ok (.iload_n 3, 1) := dq0 kk_29 (by decide +kernel)
theorem ldL_law_661 : decode cL_law 661 = .ok (.iconst 1, 1) := dq0 kk_4 (by decide +kernel)
theorem ldL_law_662 : decode cL_law 662 = .ok (.iadd, 1) := dq0 kk_96 (by decide +kernel)
theorem ldL_law_663 : decode cL_law 663 = .ok (.iaload, 1) := dq0 kk_46 (by decide +kernel)
theorem ldL_law_664 : decode cL_law 664 = .ok (.aload_n 0, 1) := dq0 kk_42 (by decide +kernel)
theorem ldL_law_665 : decode cL_law 665 = .ok (.iload_n 3, 1) := dq0 kk_29 (by decide +kernel)
theorem ldL_law_666 : decode cL_law 666 = .ok (.iconst 2, 1) := dq0 kk_5 (by decide +kernel)
theorem ldL_law_667 : decode cL_law 667 = .ok (.iadd, 1) := dq0 kk_96 (by decide +kernel)
theorem ldL_law_668 : decode cL_law 668 = .ok (.iaload, 1) := dq0 kk_46 (by decide +kernel)
theorem ldL_law_669 : decode cL_law 669 = .ok (.invokevirtual 85, 3) := dqV kk_182 (by decide +kernel)
theorem ltk_X12_has : Cond.code yX12_has cX12_has 3 (some .int) ∈ TB := tbm (tc6 (List.mem_of_getElem? (i := 149) rfl)) rfl
theorem lgc_X12_has : GoodIn TB (cw yX12_has cX12_has 3 (some .int)) := goodIn_c2 ltk_X12_has
theorem ltb_95 : Cond.methodLink "ToneLinesLaw" 85 yX12_has ∈ TB := tbm (tc6 (List.mem_of_getElem? (i := 146) rfl)) rfl
theorem ltb_96 : Cond.instanceMethod yX12_has ∈ TB := tbm (tc6 (List.mem_of_getElem? (i := 147) rfl)) rfl
theorem ltb_97 : Cond.selects "ToneLinesModel" yX12_has yX12_has ∈ TB := tbm (tc6 (List.mem_of_getElem? (i := 148) rfl)) rfl
theorem lgv_L_85 : GoodIn TB (wsV RL 85 RX12 yX12_has (cw yX12_has cX12_has 3 (some .int))) := goodIn_4 ltb_95 ltb_96 ltb_97 ltb_7 lgc_X12_has
theorem lhv_X12_has : yX12_has.cls = RX12 ∧ yX12_has.cls ≠ "java/lang/invoke/MethodHandle" ∧ yX12_has.cls ≠ "java/lang/invoke/VarHandle" ∧ (parseMethodDescriptor yX12_has.desc).map (fun d => d.parameters.length) = some 2 := by decide +kernel
theorem ldL_law_672 : decode cL_law 672 = .ok (.pop, 1) := dq0 kk_87 (by decide +kernel)
theorem ldL_law_673 : decode cL_law 673 = .ok (.goto 392, 3) := dqT kk_167 (by decide +kernel)
set_option maxRecDepth 8000 in
set_option maxHeartbeats 1000000 in
theorem lc_15 {p : Program} {l : Launch} {e : Env} {s : State} {m : MethodId} {below : List Frame} {meth : Method} {c : Code} {D : va_G} {B b L : Nat} {cy : Nat → ClassId} {H : Heap} {locs : List Loc} {ls : Array Slot} {xs : Nat → Int32} {M : Mem} {Q : State → Prop} {i : Nat} (F : CallFix p m c code 4 s #[Value.ref b] TB RL) (hX : va_X b L xs s s.heap) (hbl : b < s.heap.size) (hbA : ¬ B ≤ b) (hi : i + 6 ≤ L) (hL : L ≤ 3072) (hJx : Jx M) (w : Wd D B cy s s.heap M H locs) (hl : lv_has ls 4 [(3, .int (zI (i : Int))), (2, .ref (B + 146)), (1, .ref (B + 0)), (0, .ref b)]) (kk : ∀ (M1 : Mem) (H1 : Heap) (locs1 : List Loc), Jx M1 → Wd D B cy s s.heap M1 H1 locs1 → W p l e room_1 s m #[Value.ref b] below meth c H1 locs1 159 13107 Q (F0 m 1065 ls [])) : W p l e room_1 s m #[Value.ref b] below meth c H locs 159 13107 Q (F0 m 643 ls []) := by
  have hx := F.1
  have hb := F.2.1
  obtain ⟨T, tn, Ps, mr, xw, Hs, kw, yw, Gs, hJ, hxy, hHG⟩ := hJx
  obtain ⟨qw, hv, ed, hv2, ed2, o, rfl, rfl, hb1, hb2⟩ := hxy.i
  have hta := hJ.1.2.2.2.2.1.1
  have hix1 := ix_z (z := (i : Int) + 1) (by omega) (by omega)
  obtain ⟨x1, bx1, ex1⟩ := rg_ex (xs ((i : Int) + 1).toNat)
  have hix2 := ix_z (z := (i : Int) + 2) (by omega) (by omega)
  obtain ⟨x2, bx2, ex2⟩ := rg_ex (xs ((i : Int) + 2).toNat)
  refine lv_aload_n hx hb ldL_law_643 rfl (lv_at hl 2 rfl) ?_
  refine lv_aload_n hx hb ldL_law_644 rfl (lv_at hl 3 rfl) ?_
  refine lv_iload_n hx hb ldL_law_645 rfl (lv_at hl 0 rfl) ?_
  refine lv_iconst (v := zI 1) hx hb ldL_law_646 rfl ?_
  refine z_iadd (z := (i : Int) + 1) hx hb ldL_law_647 (by omega) ?_
  refine va_sld hx hb hX hbl hbA w.2.2.1 (vpi hix1.1 (by rw [hix1.2]; omega)) ldL_law_648 ?_
  refine r_val ((congrArg xs hix1.2).trans ex1) ?_
  refine lv_aload_n hx hb ldL_law_649 rfl (lv_at hl 3 rfl) ?_
  refine lv_iload_n hx hb ldL_law_650 rfl (lv_at hl 0 rfl) ?_
  refine lv_iconst (v := zI 2) hx hb ldL_law_651 rfl ?_
  refine z_iadd (z := (i : Int) + 2) hx hb ldL_law_652 (by omega) ?_
  refine va_sld hx hb hX hbl hbA w.2.2.1 (vpi hix2.1 (by rw [hix2.2]; omega)) ldL_law_653 ?_
  refine r_val ((congrArg xs hix2.2).trans ex2) ?_
  refine k_Vi F w (As := [.int (zI x1), .int (zI x2)]) (rest := []) (a := 0) (kd_lt (a := 0) (show kd 0 = (11, 0, 0) from rfl) (by decide)) (sh_11 rfl _ _) rfl (gq_X11_has (x := x1) ⟨by omega, by omega⟩ (x1 := x2) ⟨by omega, by omega⟩ ⟨hJ.1.1, hJ.2.1⟩) lgv_L_82 lhv_X11_has ⟨(Nat.le_of_ble_eq_true rfl), (Nat.le_of_ble_eq_true rfl)⟩ hl.1 rfl (Nat.le_of_ble_eq_true rfl) ⟨(Nat.le_of_ble_eq_true rfl), (Nat.le_of_ble_eq_true rfl)⟩ ldL_law_654 (fun r1 N2 H locs hp w => ?_)
  obtain ⟨z3, rfl, bz3, hIN2, hFN2⟩ := hp
  have hJ4 := Jg.c hJ hIN2.1 hFN2 (fun b9 k9 h => by (try dsimp only at h); rcases h with ⟨rfl, rfl⟩ | ⟨rfl, rfl⟩ | rfl | rfl | ⟨q1, q2⟩ <;> first | decide | omega) (isTc.F hJ.1.2.2.1 hFN2 (by first | decide | (dsimp only; first | done | decide | omega) | omega) (fun k9 => by first | decide | (dsimp only; first | done | decide | omega) | omega)) (hJ.1.2.2.2.2.1) (hIN2.2)
  refine lv_pop hx hb ldL_law_657 rfl ?_
  refine lv_aload_n hx hb ldL_law_658 rfl (lv_at hl 1 rfl) ?_
  refine lv_aload_n hx hb ldL_law_659 rfl (lv_at hl 3 rfl) ?_
  refine lv_iload_n hx hb ldL_law_660 rfl (lv_at hl 0 rfl) ?_
  refine lv_iconst (v := zI 1) hx hb ldL_law_661 rfl ?_
  refine z_iadd (z := (i : Int) + 1) hx hb ldL_law_662 (by omega) ?_
  refine va_sld hx hb hX hbl hbA w.2.2.1 (vpi hix1.1 (by rw [hix1.2]; omega)) ldL_law_663 ?_
  refine r_val ((congrArg xs hix1.2).trans ex1) ?_
  refine lv_aload_n hx hb ldL_law_664 rfl (lv_at hl 3 rfl) ?_
  refine lv_iload_n hx hb ldL_law_665 rfl (lv_at hl 0 rfl) ?_
  refine lv_iconst (v := zI 2) hx hb ldL_law_666 rfl ?_
  refine z_iadd (z := (i : Int) + 2) hx hb ldL_law_667 (by omega) ?_
  refine va_sld hx hb hX hbl hbA w.2.2.1 (vpi hix2.1 (by rw [hix2.2]; omega)) ldL_law_668 ?_
  refine r_val ((congrArg xs hix2.2).trans ex2) ?_
  refine k_Vi F w (As := [.int (zI x1), .int (zI x2)]) (rest := []) (a := 146) (kd_lt (a := 146) (show kd 146 = (12, 0, 0) from rfl) (by decide)) (sh_12 rfl _ _) rfl (q_X12_has (x := x1) ⟨by omega, by omega⟩ (x1 := x2) ⟨by omega, by omega⟩ hJ4.1.2.1) lgv_L_85 lhv_X12_has ⟨(Nat.le_of_ble_eq_true rfl), (Nat.le_of_ble_eq_true rfl)⟩ hl.1 rfl (Nat.le_of_ble_eq_true rfl) ⟨(Nat.le_of_ble_eq_true rfl), (Nat.le_of_ble_eq_true rfl)⟩ ldL_law_669 (fun r5 N6 H locs hp w => ?_)
  obtain ⟨z7, rfl, bz7, hIN6, hFN6⟩ := hp
  have hJ8 := Jg.r hJ4 hIN6 hFN6 (fun b9 k9 h => by (try dsimp only at h); rcases h with ⟨rfl, rfl⟩ | ⟨rfl, rfl⟩ | rfl <;> first | decide | omega) (isTr.F hJ4.1.2.2.2.1 hFN6 (by first | decide | (dsimp only; first | done | decide | omega) | omega) (fun k9 => by first | decide | (dsimp only; first | done | decide | omega) | omega)) (hJ4.1.2.2.2.2.2) (hJ4.2.2.F hFN6 (fun k9 => by first | decide | (dsimp only; first | done | decide | omega) | omega) (fun k9 => by first | decide | (dsimp only; first | done | decide | omega) | omega) (fun k9 => by first | decide | (dsimp only; first | done | decide | omega) | omega) (by first | decide | (dsimp only; first | done | decide | omega) | omega) (by first | decide | (dsimp only; first | done | decide | omega) | omega))
  refine lv_pop hx hb ldL_law_672 rfl ?_
  refine lv_goto (tgt := 1065) hx hb ldL_law_673 (by decide) ?_
  exact kk _ _ _ (Jx.of hJ8 rfl (by omega) rfl rfl rfl (alF.e hb1 hb2) hHG) w
theorem ldL_law_676 : decode cL_law 676 = .ok (.aload_n 1, 1) := dq0 kk_43 (by decide +kernel)
theorem ldL_law_677 : decode cL_law 677 = .ok (.aload_n 0, 1) := dq0 kk_42 (by decide +kernel)
theorem ldL_law_678 : decode cL_law 678 = .ok (.iload_n 3, 1) := dq0 kk_29 (by decide +kernel)
theorem ldL_law_679 : decode cL_law 679 = .ok (.iconst 1, 1) := dq0 kk_4 (by decide +kernel)
theorem ldL_law_680 : decode cL_law 680 = .ok (.iadd, 1) := dq0 kk_96 (by decide +kernel)
theorem ldL_law_681 : decode cL_law 681 = .ok (.iaload, 1) := dq0 kk_46 (by decide +kernel)
theorem ldL_law_682 : decode cL_law 682 = .ok (.aload_n 0, 1) := dq0 kk_42 (by decide +kernel)
theorem ldL_law_683 : decode cL_law 683 = .ok (.iload_n 3, 1) := dq0 kk_29 (by decide +kernel)
theorem ldL_law_684 : decode cL_law 684 = .ok (.iconst 2, 1) := dq0 kk_5 (by decide +kernel)
theorem ldL_law_685 : decode cL_law 685 = .ok (.iadd, 1) := dq0 kk_96 (by decide +kernel)
theorem ldL_law_686 : decode cL_law 686 = .ok (.iaload, 1) := dq0 kk_46 (by decide +kernel)
theorem ldL_law_687 : decode cL_law 687 = .ok (.aload_n 0, 1) := dq0 kk_42 (by decide +kernel)
theorem ldL_law_688 : decode cL_law 688 = .ok (.iload_n 3, 1) := dq0 kk_29 (by decide +kernel)
theorem ldL_law_689 : decode cL_law 689 = .ok (.iconst 3, 1) := dq0 kk_6 (by decide +kernel)
theorem ldL_law_690 : decode cL_law 690 = .ok (.iadd, 1) := dq0 kk_96 (by decide +kernel)
theorem ldL_law_691 : decode cL_law 691 = .ok (.iaload, 1) := dq0 kk_46 (by decide +kernel)
theorem ldL_law_692 : decode cL_law 692 = .ok (.invokevirtual 86, 3) := dqV kk_182 (by decide +kernel)
theorem ltk_X11_toneAt : Cond.code yX11_toneAt cX11_toneAt 6 (some .int) ∈ TB := tbm (tc4 (List.mem_of_getElem? (i := 157) rfl)) rfl
theorem lgc_X11_toneAt : GoodIn TB (cw yX11_toneAt cX11_toneAt 6 (some .int)) := goodIn_c2 ltk_X11_toneAt
theorem ltb_98 : Cond.methodLink "ToneLinesLaw" 86 yX11_toneAt ∈ TB := tbm (tc4 (List.mem_of_getElem? (i := 154) rfl)) rfl
theorem ltb_99 : Cond.instanceMethod yX11_toneAt ∈ TB := tbm (tc4 (List.mem_of_getElem? (i := 155) rfl)) rfl
theorem ltb_100 : Cond.selects "ToneLines" yX11_toneAt yX11_toneAt ∈ TB := tbm (tc4 (List.mem_of_getElem? (i := 156) rfl)) rfl
theorem lgv_L_86 : GoodIn TB (wsV RL 86 RX11 yX11_toneAt (cw yX11_toneAt cX11_toneAt 6 (some .int))) := goodIn_4 ltb_98 ltb_99 ltb_100 ltb_3 lgc_X11_toneAt
theorem lhv_X11_toneAt : yX11_toneAt.cls = RX11 ∧ yX11_toneAt.cls ≠ "java/lang/invoke/MethodHandle" ∧ yX11_toneAt.cls ≠ "java/lang/invoke/VarHandle" ∧ (parseMethodDescriptor yX11_toneAt.desc).map (fun d => d.parameters.length) = some 3 := by decide +kernel
theorem ldL_law_695 : decode cL_law 695 = .ok (.pop, 1) := dq0 kk_87 (by decide +kernel)
theorem ldL_law_696 : decode cL_law 696 = .ok (.aload_n 2, 1) := dq0 kk_44 (by decide +kernel)
theorem ldL_law_697 : decode cL_law 697 = .ok (.aload_n 0, 1) := dq0 kk_42 (by decide +kernel)
theorem ldL_law_698 : decode cL_law 698 = .ok (.iload_n 3, 1) := dq0 kk_29 (by decide +kernel)
theorem ldL_law_699 : decode cL_law 699 = .ok (.iconst 1, 1) := dq0 kk_4 (by decide +kernel)
theorem ldL_law_700 : decode cL_law 700 = .ok (.iadd, 1) := dq0 kk_96 (by decide +kernel)
theorem ldL_law_701 : decode cL_law 701 = .ok (.iaload, 1) := dq0 kk_46 (by decide +kernel)
theorem ldL_law_702 : decode cL_law 702 = .ok (.aload_n 0, 1) := dq0 kk_42 (by decide +kernel)
theorem ldL_law_703 : decode cL_law 703 = .ok (.iload_n 3, 1) := dq0 kk_29 (by decide +kernel)
theorem ldL_law_704 : decode cL_law 704 = .ok (.iconst 2, 1) := dq0 kk_5 (by decide +kernel)
theorem ldL_law_705 : decode cL_law 705 = .ok (.iadd, 1) := dq0 kk_96 (by decide +kernel)
theorem ldL_law_706 : decode cL_law 706 = .ok (.iaload, 1) := dq0 kk_46 (by decide +kernel)
theorem ldL_law_707 : decode cL_law 707 = .ok (.aload_n 0, 1) := dq0 kk_42 (by decide +kernel)
theorem ldL_law_708 : decode cL_law 708 = .ok (.iload_n 3, 1) := dq0 kk_29 (by decide +kernel)
theorem ldL_law_709 : decode cL_law 709 = .ok (.iconst 3, 1) := dq0 kk_6 (by decide +kernel)
theorem ldL_law_710 : decode cL_law 710 = .ok (.iadd, 1) := dq0 kk_96 (by decide +kernel)
theorem ldL_law_711 : decode cL_law 711 = .ok (.iaload, 1) := dq0 kk_46 (by decide +kernel)
theorem ldL_law_712 : decode cL_law 712 = .ok (.invokevirtual 90, 3) := dqV kk_182 (by decide +kernel)
theorem ltk_X12_toneAt : Cond.code yX12_toneAt cX12_toneAt 6 (some .int) ∈ TB := tbm (tc6 (List.mem_of_getElem? (i := 189) rfl)) rfl
theorem lgc_X12_toneAt : GoodIn TB (cw yX12_toneAt cX12_toneAt 6 (some .int)) := goodIn_c2 ltk_X12_toneAt
theorem ltb_101 : Cond.methodLink "ToneLinesLaw" 90 yX12_toneAt ∈ TB := tbm (tc6 (List.mem_of_getElem? (i := 186) rfl)) rfl
theorem ltb_102 : Cond.instanceMethod yX12_toneAt ∈ TB := tbm (tc6 (List.mem_of_getElem? (i := 187) rfl)) rfl
theorem ltb_103 : Cond.selects "ToneLinesModel" yX12_toneAt yX12_toneAt ∈ TB := tbm (tc6 (List.mem_of_getElem? (i := 188) rfl)) rfl
theorem lgv_L_90 : GoodIn TB (wsV RL 90 RX12 yX12_toneAt (cw yX12_toneAt cX12_toneAt 6 (some .int))) := goodIn_4 ltb_101 ltb_102 ltb_103 ltb_7 lgc_X12_toneAt
theorem lhv_X12_toneAt : yX12_toneAt.cls = RX12 ∧ yX12_toneAt.cls ≠ "java/lang/invoke/MethodHandle" ∧ yX12_toneAt.cls ≠ "java/lang/invoke/VarHandle" ∧ (parseMethodDescriptor yX12_toneAt.desc).map (fun d => d.parameters.length) = some 3 := by decide +kernel
theorem ldL_law_715 : decode cL_law 715 = .ok (.pop, 1) := dq0 kk_87 (by decide +kernel)
theorem ldL_law_716 : decode cL_law 716 = .ok (.goto 349, 3) := dqT kk_167 (by decide +kernel)
set_option maxRecDepth 8000 in
set_option maxHeartbeats 1000000 in
theorem lc_16 {p : Program} {l : Launch} {e : Env} {s : State} {m : MethodId} {below : List Frame} {meth : Method} {c : Code} {D : va_G} {B b L : Nat} {cy : Nat → ClassId} {H : Heap} {locs : List Loc} {ls : Array Slot} {xs : Nat → Int32} {M : Mem} {Q : State → Prop} {i : Nat} (F : CallFix p m c code 4 s #[Value.ref b] TB RL) (hX : va_X b L xs s s.heap) (hbl : b < s.heap.size) (hbA : ¬ B ≤ b) (hi : i + 6 ≤ L) (hL : L ≤ 3072) (hJx : Jx M) (w : Wd D B cy s s.heap M H locs) (hl : lv_has ls 4 [(3, .int (zI (i : Int))), (2, .ref (B + 146)), (1, .ref (B + 0)), (0, .ref b)]) (kk : ∀ (M1 : Mem) (H1 : Heap) (locs1 : List Loc), Jx M1 → Wd D B cy s s.heap M1 H1 locs1 → W p l e room_1 s m #[Value.ref b] below meth c H1 locs1 159 13107 Q (F0 m 1065 ls [])) : W p l e room_1 s m #[Value.ref b] below meth c H locs 159 13107 Q (F0 m 676 ls []) := by
  have hx := F.1
  have hb := F.2.1
  obtain ⟨T, tn, Ps, mr, xw, Hs, kw, yw, Gs, hJ, hxy, hHG⟩ := hJx
  obtain ⟨qw, hv, ed, hv2, ed2, o, rfl, rfl, hb1, hb2⟩ := hxy.i
  have hta := hJ.1.2.2.2.2.1.1
  have hix1 := ix_z (z := (i : Int) + 1) (by omega) (by omega)
  obtain ⟨x1, bx1, ex1⟩ := rg_ex (xs ((i : Int) + 1).toNat)
  have hix2 := ix_z (z := (i : Int) + 2) (by omega) (by omega)
  obtain ⟨x2, bx2, ex2⟩ := rg_ex (xs ((i : Int) + 2).toNat)
  have hix3 := ix_z (z := (i : Int) + 3) (by omega) (by omega)
  obtain ⟨x3, bx3, ex3⟩ := rg_ex (xs ((i : Int) + 3).toNat)
  refine lv_aload_n hx hb ldL_law_676 rfl (lv_at hl 2 rfl) ?_
  refine lv_aload_n hx hb ldL_law_677 rfl (lv_at hl 3 rfl) ?_
  refine lv_iload_n hx hb ldL_law_678 rfl (lv_at hl 0 rfl) ?_
  refine lv_iconst (v := zI 1) hx hb ldL_law_679 rfl ?_
  refine z_iadd (z := (i : Int) + 1) hx hb ldL_law_680 (by omega) ?_
  refine va_sld hx hb hX hbl hbA w.2.2.1 (vpi hix1.1 (by rw [hix1.2]; omega)) ldL_law_681 ?_
  refine r_val ((congrArg xs hix1.2).trans ex1) ?_
  refine lv_aload_n hx hb ldL_law_682 rfl (lv_at hl 3 rfl) ?_
  refine lv_iload_n hx hb ldL_law_683 rfl (lv_at hl 0 rfl) ?_
  refine lv_iconst (v := zI 2) hx hb ldL_law_684 rfl ?_
  refine z_iadd (z := (i : Int) + 2) hx hb ldL_law_685 (by omega) ?_
  refine va_sld hx hb hX hbl hbA w.2.2.1 (vpi hix2.1 (by rw [hix2.2]; omega)) ldL_law_686 ?_
  refine r_val ((congrArg xs hix2.2).trans ex2) ?_
  refine lv_aload_n hx hb ldL_law_687 rfl (lv_at hl 3 rfl) ?_
  refine lv_iload_n hx hb ldL_law_688 rfl (lv_at hl 0 rfl) ?_
  refine lv_iconst (v := zI 3) hx hb ldL_law_689 rfl ?_
  refine z_iadd (z := (i : Int) + 3) hx hb ldL_law_690 (by omega) ?_
  refine va_sld hx hb hX hbl hbA w.2.2.1 (vpi hix3.1 (by rw [hix3.2]; omega)) ldL_law_691 ?_
  refine r_val ((congrArg xs hix3.2).trans ex3) ?_
  refine k_Vi F w (As := [.int (zI x1), .int (zI x2), .int (zI x3)]) (rest := []) (a := 0) (kd_lt (a := 0) (show kd 0 = (11, 0, 0) from rfl) (by decide)) (sh_11 rfl _ _) rfl (gq_X11_toneAt (x := x1) ⟨by omega, by omega⟩ (x1 := x2) ⟨by omega, by omega⟩ (x2 := x3) ⟨by omega, by omega⟩ ⟨hJ.1.1, hJ.2.1⟩) lgv_L_86 lhv_X11_toneAt ⟨(Nat.le_of_ble_eq_true rfl), (Nat.le_of_ble_eq_true rfl)⟩ hl.1 rfl (Nat.le_of_ble_eq_true rfl) ⟨(Nat.le_of_ble_eq_true rfl), (Nat.le_of_ble_eq_true rfl)⟩ ldL_law_692 (fun r1 N2 H locs hp w => ?_)
  obtain ⟨z3, rfl, bz3, hIN2, hFN2⟩ := hp
  have hJ4 := Jg.c hJ hIN2.1 hFN2 (fun b9 k9 h => by (try dsimp only at h); rcases h with ⟨rfl, rfl⟩ | ⟨rfl, rfl⟩ | rfl | rfl | ⟨q1, q2⟩ <;> first | decide | omega) (isTc.F hJ.1.2.2.1 hFN2 (by first | decide | (dsimp only; first | done | decide | omega) | omega) (fun k9 => by first | decide | (dsimp only; first | done | decide | omega) | omega)) (hJ.1.2.2.2.2.1) (hIN2.2)
  refine lv_pop hx hb ldL_law_695 rfl ?_
  refine lv_aload_n hx hb ldL_law_696 rfl (lv_at hl 1 rfl) ?_
  refine lv_aload_n hx hb ldL_law_697 rfl (lv_at hl 3 rfl) ?_
  refine lv_iload_n hx hb ldL_law_698 rfl (lv_at hl 0 rfl) ?_
  refine lv_iconst (v := zI 1) hx hb ldL_law_699 rfl ?_
  refine z_iadd (z := (i : Int) + 1) hx hb ldL_law_700 (by omega) ?_
  refine va_sld hx hb hX hbl hbA w.2.2.1 (vpi hix1.1 (by rw [hix1.2]; omega)) ldL_law_701 ?_
  refine r_val ((congrArg xs hix1.2).trans ex1) ?_
  refine lv_aload_n hx hb ldL_law_702 rfl (lv_at hl 3 rfl) ?_
  refine lv_iload_n hx hb ldL_law_703 rfl (lv_at hl 0 rfl) ?_
  refine lv_iconst (v := zI 2) hx hb ldL_law_704 rfl ?_
  refine z_iadd (z := (i : Int) + 2) hx hb ldL_law_705 (by omega) ?_
  refine va_sld hx hb hX hbl hbA w.2.2.1 (vpi hix2.1 (by rw [hix2.2]; omega)) ldL_law_706 ?_
  refine r_val ((congrArg xs hix2.2).trans ex2) ?_
  refine lv_aload_n hx hb ldL_law_707 rfl (lv_at hl 3 rfl) ?_
  refine lv_iload_n hx hb ldL_law_708 rfl (lv_at hl 0 rfl) ?_
  refine lv_iconst (v := zI 3) hx hb ldL_law_709 rfl ?_
  refine z_iadd (z := (i : Int) + 3) hx hb ldL_law_710 (by omega) ?_
  refine va_sld hx hb hX hbl hbA w.2.2.1 (vpi hix3.1 (by rw [hix3.2]; omega)) ldL_law_711 ?_
  refine r_val ((congrArg xs hix3.2).trans ex3) ?_
  refine k_Vi F w (As := [.int (zI x1), .int (zI x2), .int (zI x3)]) (rest := []) (a := 146) (kd_lt (a := 146) (show kd 146 = (12, 0, 0) from rfl) (by decide)) (sh_12 rfl _ _) rfl (q_X12_toneAt (x := x1) ⟨by omega, by omega⟩ (t := x2) ⟨by omega, by omega⟩ (x1 := x3) ⟨by omega, by omega⟩ hJ4.1.2.1) lgv_L_90 lhv_X12_toneAt ⟨(Nat.le_of_ble_eq_true rfl), (Nat.le_of_ble_eq_true rfl)⟩ hl.1 rfl (Nat.le_of_ble_eq_true rfl) ⟨(Nat.le_of_ble_eq_true rfl), (Nat.le_of_ble_eq_true rfl)⟩ ldL_law_712 (fun r5 N6 H locs hp w => ?_)
  obtain ⟨z7, rfl, bz7, hIN6, hFN6⟩ := hp
  have hJ8 := Jg.r hJ4 hIN6 hFN6 (fun b9 k9 h => by (try dsimp only at h); rcases h with ⟨rfl, rfl⟩ | ⟨rfl, rfl⟩ | rfl <;> first | decide | omega) (isTr.F hJ4.1.2.2.2.1 hFN6 (by first | decide | (dsimp only; first | done | decide | omega) | omega) (fun k9 => by first | decide | (dsimp only; first | done | decide | omega) | omega)) (hJ4.1.2.2.2.2.2) (hJ4.2.2.F hFN6 (fun k9 => by first | decide | (dsimp only; first | done | decide | omega) | omega) (fun k9 => by first | decide | (dsimp only; first | done | decide | omega) | omega) (fun k9 => by first | decide | (dsimp only; first | done | decide | omega) | omega) (by first | decide | (dsimp only; first | done | decide | omega) | omega) (by first | decide | (dsimp only; first | done | decide | omega) | omega))
  refine lv_pop hx hb ldL_law_715 rfl ?_
  refine lv_goto (tgt := 1065) hx hb ldL_law_716 (by decide) ?_
  exact kk _ _ _ (Jx.of hJ8 rfl (by omega) rfl rfl rfl (alF.e hb1 hb2) hHG) w
theorem ldL_law_719 : decode cL_law 719 = .ok (.aload_n 1, 1) := dq0 kk_43 (by decide +kernel)
theorem ldL_law_720 : decode cL_law 720 = .ok (.aload_n 0, 1) := dq0 kk_42 (by decide +kernel)
theorem ldL_law_721 : decode cL_law 721 = .ok (.iload_n 3, 1) := dq0 kk_29 (by decide +kernel)
theorem ldL_law_722 : decode cL_law 722 = .ok (.iconst 1, 1) := dq0 kk_4 (by decide +kernel)
theorem ldL_law_723 : decode cL_law 723 = .ok (.iadd, 1) := dq0 kk_96 (by decide +kernel)
theorem ldL_law_724 : decode cL_law 724 = .ok (.iaload, 1) := dq0 kk_46 (by decide +kernel)
theorem ldL_law_725 : decode cL_law 725 = .ok (.aload_n 0, 1) := dq0 kk_42 (by decide +kernel)
theorem ldL_law_726 : decode cL_law 726 = .ok (.iload_n 3, 1) := dq0 kk_29 (by decide +kernel)
theorem ldL_law_727 : decode cL_law 727 = .ok (.iconst 2, 1) := dq0 kk_5 (by decide +kernel)
theorem ldL_law_728 : decode cL_law 728 = .ok (.iadd, 1) := dq0 kk_96 (by decide +kernel)
theorem ldL_law_729 : decode cL_law 729 = .ok (.iaload, 1) := dq0 kk_46 (by decide +kernel)
theorem ldL_law_730 : decode cL_law 730 = .ok (.aload_n 0, 1) := dq0 kk_42 (by decide +kernel)
theorem ldL_law_731 : decode cL_law 731 = .ok (.iload_n 3, 1) := dq0 kk_29 (by decide +kernel)
theorem ldL_law_732 : decode cL_law 732 = .ok (.iconst 3, 1) := dq0 kk_6 (by decide +kernel)
theorem ldL_law_733 : decode cL_law 733 = .ok (.iadd, 1) := dq0 kk_96 (by decide +kernel)
theorem ldL_law_734 : decode cL_law 734 = .ok (.iaload, 1) := dq0 kk_46 (by decide +kernel)
theorem ldL_law_735 : decode cL_law 735 = .ok (.invokevirtual 91, 3) := dqV kk_182 (by decide +kernel)
theorem ltk_X11_syllableAt : Cond.code yX11_syllableAt cX11_syllableAt 6 (some .int) ∈ TB := tbm (tc4 (List.mem_of_getElem? (i := 163) rfl)) rfl
theorem lgc_X11_syllableAt : GoodIn TB (cw yX11_syllableAt cX11_syllableAt 6 (some .int)) := goodIn_c2 ltk_X11_syllableAt
theorem ltb_104 : Cond.methodLink "ToneLinesLaw" 91 yX11_syllableAt ∈ TB := tbm (tc4 (List.mem_of_getElem? (i := 160) rfl)) rfl
theorem ltb_105 : Cond.instanceMethod yX11_syllableAt ∈ TB := tbm (tc4 (List.mem_of_getElem? (i := 161) rfl)) rfl
theorem ltb_106 : Cond.selects "ToneLines" yX11_syllableAt yX11_syllableAt ∈ TB := tbm (tc4 (List.mem_of_getElem? (i := 162) rfl)) rfl
theorem lgv_L_91 : GoodIn TB (wsV RL 91 RX11 yX11_syllableAt (cw yX11_syllableAt cX11_syllableAt 6 (some .int))) := goodIn_4 ltb_104 ltb_105 ltb_106 ltb_3 lgc_X11_syllableAt
theorem lhv_X11_syllableAt : yX11_syllableAt.cls = RX11 ∧ yX11_syllableAt.cls ≠ "java/lang/invoke/MethodHandle" ∧ yX11_syllableAt.cls ≠ "java/lang/invoke/VarHandle" ∧ (parseMethodDescriptor yX11_syllableAt.desc).map (fun d => d.parameters.length) = some 3 := by decide +kernel
theorem ldL_law_738 : decode cL_law 738 = .ok (.pop, 1) := dq0 kk_87 (by decide +kernel)
theorem ldL_law_739 : decode cL_law 739 = .ok (.aload_n 2, 1) := dq0 kk_44 (by decide +kernel)
theorem ldL_law_740 : decode cL_law 740 = .ok (.aload_n 0, 1) := dq0 kk_42 (by decide +kernel)
theorem ldL_law_741 : decode cL_law 741 = .ok (.iload_n 3, 1) := dq0 kk_29 (by decide +kernel)
theorem ldL_law_742 : decode cL_law 742 = .ok (.iconst 1, 1) := dq0 kk_4 (by decide +kernel)
theorem ldL_law_743 : decode cL_law 743 = .ok (.iadd, 1) := dq0 kk_96 (by decide +kernel)
theorem ldL_law_744 : decode cL_law 744 = .ok (.iaload, 1) := dq0 kk_46 (by decide +kernel)
theorem ldL_law_745 : decode cL_law 745 = .ok (.aload_n 0, 1) := dq0 kk_42 (by decide +kernel)
theorem ldL_law_746 : decode cL_law 746 = .ok (.iload_n 3, 1) := dq0 kk_29 (by decide +kernel)
theorem ldL_law_747 : decode cL_law 747 = .ok (.iconst 2, 1) := dq0 kk_5 (by decide +kernel)
theorem ldL_law_748 : decode cL_law 748 = .ok (.iadd, 1) := dq0 kk_96 (by decide +kernel)
theorem ldL_law_749 : decode cL_law 749 = .ok (.iaload, 1) := dq0 kk_46 (by decide +kernel)
theorem ldL_law_750 : decode cL_law 750 = .ok (.aload_n 0, 1) := dq0 kk_42 (by decide +kernel)
theorem ldL_law_751 : decode cL_law 751 = .ok (.iload_n 3, 1) := dq0 kk_29 (by decide +kernel)
theorem ldL_law_752 : decode cL_law 752 = .ok (.iconst 3, 1) := dq0 kk_6 (by decide +kernel)
theorem ldL_law_753 : decode cL_law 753 = .ok (.iadd, 1) := dq0 kk_96 (by decide +kernel)
theorem ldL_law_754 : decode cL_law 754 = .ok (.iaload, 1) := dq0 kk_46 (by decide +kernel)
theorem ldL_law_755 : decode cL_law 755 = .ok (.invokevirtual 94, 3) := dqV kk_182 (by decide +kernel)
theorem ltk_X12_syllableAt : Cond.code yX12_syllableAt cX12_syllableAt 5 (some .int) ∈ TB := tbm (tc6 (List.mem_of_getElem? (i := 196) rfl)) rfl
theorem lgc_X12_syllableAt : GoodIn TB (cw yX12_syllableAt cX12_syllableAt 5 (some .int)) := goodIn_c2 ltk_X12_syllableAt
theorem ltb_107 : Cond.methodLink "ToneLinesLaw" 94 yX12_syllableAt ∈ TB := tbm (tc6 (List.mem_of_getElem? (i := 193) rfl)) rfl
theorem ltb_108 : Cond.instanceMethod yX12_syllableAt ∈ TB := tbm (tc6 (List.mem_of_getElem? (i := 194) rfl)) rfl
theorem ltb_109 : Cond.selects "ToneLinesModel" yX12_syllableAt yX12_syllableAt ∈ TB := tbm (tc6 (List.mem_of_getElem? (i := 195) rfl)) rfl
theorem lgv_L_94 : GoodIn TB (wsV RL 94 RX12 yX12_syllableAt (cw yX12_syllableAt cX12_syllableAt 5 (some .int))) := goodIn_4 ltb_107 ltb_108 ltb_109 ltb_7 lgc_X12_syllableAt
theorem lhv_X12_syllableAt : yX12_syllableAt.cls = RX12 ∧ yX12_syllableAt.cls ≠ "java/lang/invoke/MethodHandle" ∧ yX12_syllableAt.cls ≠ "java/lang/invoke/VarHandle" ∧ (parseMethodDescriptor yX12_syllableAt.desc).map (fun d => d.parameters.length) = some 3 := by decide +kernel
theorem ldL_law_758 : decode cL_law 758 = .ok (.pop, 1) := dq0 kk_87 (by decide +kernel)
theorem ldL_law_759 : decode cL_law 759 = .ok (.goto 306, 3) := dqT kk_167 (by decide +kernel)
set_option maxRecDepth 8000 in
set_option maxHeartbeats 1000000 in
theorem lc_17 {p : Program} {l : Launch} {e : Env} {s : State} {m : MethodId} {below : List Frame} {meth : Method} {c : Code} {D : va_G} {B b L : Nat} {cy : Nat → ClassId} {H : Heap} {locs : List Loc} {ls : Array Slot} {xs : Nat → Int32} {M : Mem} {Q : State → Prop} {i : Nat} (F : CallFix p m c code 4 s #[Value.ref b] TB RL) (hX : va_X b L xs s s.heap) (hbl : b < s.heap.size) (hbA : ¬ B ≤ b) (hi : i + 6 ≤ L) (hL : L ≤ 3072) (hJx : Jx M) (w : Wd D B cy s s.heap M H locs) (hl : lv_has ls 4 [(3, .int (zI (i : Int))), (2, .ref (B + 146)), (1, .ref (B + 0)), (0, .ref b)]) (kk : ∀ (M1 : Mem) (H1 : Heap) (locs1 : List Loc), Jx M1 → Wd D B cy s s.heap M1 H1 locs1 → W p l e room_1 s m #[Value.ref b] below meth c H1 locs1 159 13107 Q (F0 m 1065 ls [])) : W p l e room_1 s m #[Value.ref b] below meth c H locs 159 13107 Q (F0 m 719 ls []) := by
  have hx := F.1
  have hb := F.2.1
  obtain ⟨T, tn, Ps, mr, xw, Hs, kw, yw, Gs, hJ, hxy, hHG⟩ := hJx
  obtain ⟨qw, hv, ed, hv2, ed2, o, rfl, rfl, hb1, hb2⟩ := hxy.i
  have hta := hJ.1.2.2.2.2.1.1
  have hix1 := ix_z (z := (i : Int) + 1) (by omega) (by omega)
  obtain ⟨x1, bx1, ex1⟩ := rg_ex (xs ((i : Int) + 1).toNat)
  have hix2 := ix_z (z := (i : Int) + 2) (by omega) (by omega)
  obtain ⟨x2, bx2, ex2⟩ := rg_ex (xs ((i : Int) + 2).toNat)
  have hix3 := ix_z (z := (i : Int) + 3) (by omega) (by omega)
  obtain ⟨x3, bx3, ex3⟩ := rg_ex (xs ((i : Int) + 3).toNat)
  refine lv_aload_n hx hb ldL_law_719 rfl (lv_at hl 2 rfl) ?_
  refine lv_aload_n hx hb ldL_law_720 rfl (lv_at hl 3 rfl) ?_
  refine lv_iload_n hx hb ldL_law_721 rfl (lv_at hl 0 rfl) ?_
  refine lv_iconst (v := zI 1) hx hb ldL_law_722 rfl ?_
  refine z_iadd (z := (i : Int) + 1) hx hb ldL_law_723 (by omega) ?_
  refine va_sld hx hb hX hbl hbA w.2.2.1 (vpi hix1.1 (by rw [hix1.2]; omega)) ldL_law_724 ?_
  refine r_val ((congrArg xs hix1.2).trans ex1) ?_
  refine lv_aload_n hx hb ldL_law_725 rfl (lv_at hl 3 rfl) ?_
  refine lv_iload_n hx hb ldL_law_726 rfl (lv_at hl 0 rfl) ?_
  refine lv_iconst (v := zI 2) hx hb ldL_law_727 rfl ?_
  refine z_iadd (z := (i : Int) + 2) hx hb ldL_law_728 (by omega) ?_
  refine va_sld hx hb hX hbl hbA w.2.2.1 (vpi hix2.1 (by rw [hix2.2]; omega)) ldL_law_729 ?_
  refine r_val ((congrArg xs hix2.2).trans ex2) ?_
  refine lv_aload_n hx hb ldL_law_730 rfl (lv_at hl 3 rfl) ?_
  refine lv_iload_n hx hb ldL_law_731 rfl (lv_at hl 0 rfl) ?_
  refine lv_iconst (v := zI 3) hx hb ldL_law_732 rfl ?_
  refine z_iadd (z := (i : Int) + 3) hx hb ldL_law_733 (by omega) ?_
  refine va_sld hx hb hX hbl hbA w.2.2.1 (vpi hix3.1 (by rw [hix3.2]; omega)) ldL_law_734 ?_
  refine r_val ((congrArg xs hix3.2).trans ex3) ?_
  refine k_Vi F w (As := [.int (zI x1), .int (zI x2), .int (zI x3)]) (rest := []) (a := 0) (kd_lt (a := 0) (show kd 0 = (11, 0, 0) from rfl) (by decide)) (sh_11 rfl _ _) rfl (gq_X11_syllableAt (x := x1) ⟨by omega, by omega⟩ (x1 := x2) ⟨by omega, by omega⟩ (x2 := x3) ⟨by omega, by omega⟩ ⟨hJ.1.1, hJ.2.1⟩) lgv_L_91 lhv_X11_syllableAt ⟨(Nat.le_of_ble_eq_true rfl), (Nat.le_of_ble_eq_true rfl)⟩ hl.1 rfl (Nat.le_of_ble_eq_true rfl) ⟨(Nat.le_of_ble_eq_true rfl), (Nat.le_of_ble_eq_true rfl)⟩ ldL_law_735 (fun r1 N2 H locs hp w => ?_)
  obtain ⟨z3, rfl, bz3, hIN2, hFN2⟩ := hp
  have hJ4 := Jg.c hJ hIN2.1 hFN2 (fun b9 k9 h => by (try dsimp only at h); rcases h with ⟨rfl, rfl⟩ | ⟨rfl, rfl⟩ | rfl | rfl | ⟨q1, q2⟩ <;> first | decide | omega) (isTc.F hJ.1.2.2.1 hFN2 (by first | decide | (dsimp only; first | done | decide | omega) | omega) (fun k9 => by first | decide | (dsimp only; first | done | decide | omega) | omega)) (hJ.1.2.2.2.2.1) (hIN2.2)
  refine lv_pop hx hb ldL_law_738 rfl ?_
  refine lv_aload_n hx hb ldL_law_739 rfl (lv_at hl 1 rfl) ?_
  refine lv_aload_n hx hb ldL_law_740 rfl (lv_at hl 3 rfl) ?_
  refine lv_iload_n hx hb ldL_law_741 rfl (lv_at hl 0 rfl) ?_
  refine lv_iconst (v := zI 1) hx hb ldL_law_742 rfl ?_
  refine z_iadd (z := (i : Int) + 1) hx hb ldL_law_743 (by omega) ?_
  refine va_sld hx hb hX hbl hbA w.2.2.1 (vpi hix1.1 (by rw [hix1.2]; omega)) ldL_law_744 ?_
  refine r_val ((congrArg xs hix1.2).trans ex1) ?_
  refine lv_aload_n hx hb ldL_law_745 rfl (lv_at hl 3 rfl) ?_
  refine lv_iload_n hx hb ldL_law_746 rfl (lv_at hl 0 rfl) ?_
  refine lv_iconst (v := zI 2) hx hb ldL_law_747 rfl ?_
  refine z_iadd (z := (i : Int) + 2) hx hb ldL_law_748 (by omega) ?_
  refine va_sld hx hb hX hbl hbA w.2.2.1 (vpi hix2.1 (by rw [hix2.2]; omega)) ldL_law_749 ?_
  refine r_val ((congrArg xs hix2.2).trans ex2) ?_
  refine lv_aload_n hx hb ldL_law_750 rfl (lv_at hl 3 rfl) ?_
  refine lv_iload_n hx hb ldL_law_751 rfl (lv_at hl 0 rfl) ?_
  refine lv_iconst (v := zI 3) hx hb ldL_law_752 rfl ?_
  refine z_iadd (z := (i : Int) + 3) hx hb ldL_law_753 (by omega) ?_
  refine va_sld hx hb hX hbl hbA w.2.2.1 (vpi hix3.1 (by rw [hix3.2]; omega)) ldL_law_754 ?_
  refine r_val ((congrArg xs hix3.2).trans ex3) ?_
  refine k_Vi F w (As := [.int (zI x1), .int (zI x2), .int (zI x3)]) (rest := []) (a := 146) (kd_lt (a := 146) (show kd 146 = (12, 0, 0) from rfl) (by decide)) (sh_12 rfl _ _) rfl (q_X12_syllableAt (x := x1) ⟨by omega, by omega⟩ (y := x2) ⟨by omega, by omega⟩ (x1 := x3) ⟨by omega, by omega⟩ hJ4.1.2.1) lgv_L_94 lhv_X12_syllableAt ⟨(Nat.le_of_ble_eq_true rfl), (Nat.le_of_ble_eq_true rfl)⟩ hl.1 rfl (Nat.le_of_ble_eq_true rfl) ⟨(Nat.le_of_ble_eq_true rfl), (Nat.le_of_ble_eq_true rfl)⟩ ldL_law_755 (fun r5 N6 H locs hp w => ?_)
  obtain ⟨z7, rfl, bz7, hIN6, hFN6⟩ := hp
  have hJ8 := Jg.r hJ4 hIN6 hFN6 (fun b9 k9 h => by (try dsimp only at h); rcases h with ⟨rfl, rfl⟩ | ⟨rfl, rfl⟩ | rfl <;> first | decide | omega) (isTr.F hJ4.1.2.2.2.1 hFN6 (by first | decide | (dsimp only; first | done | decide | omega) | omega) (fun k9 => by first | decide | (dsimp only; first | done | decide | omega) | omega)) (hJ4.1.2.2.2.2.2) (hJ4.2.2.F hFN6 (fun k9 => by first | decide | (dsimp only; first | done | decide | omega) | omega) (fun k9 => by first | decide | (dsimp only; first | done | decide | omega) | omega) (fun k9 => by first | decide | (dsimp only; first | done | decide | omega) | omega) (by first | decide | (dsimp only; first | done | decide | omega) | omega) (by first | decide | (dsimp only; first | done | decide | omega) | omega))
  refine lv_pop hx hb ldL_law_758 rfl ?_
  refine lv_goto (tgt := 1065) hx hb ldL_law_759 (by decide) ?_
  exact kk _ _ _ (Jx.of hJ8 rfl (by omega) rfl rfl rfl (alF.e hb1 hb2) hHG) w
theorem ldL_law_762 : decode cL_law 762 = .ok (.aload_n 1, 1) := dq0 kk_43 (by decide +kernel)
theorem ldL_law_763 : decode cL_law 763 = .ok (.aload_n 0, 1) := dq0 kk_42 (by decide +kernel)
theorem ldL_law_764 : decode cL_law 764 = .ok (.iload_n 3, 1) := dq0 kk_29 (by decide +kernel)
theorem ldL_law_765 : decode cL_law 765 = .ok (.iconst 1, 1) := dq0 kk_4 (by decide +kernel)
theorem ldL_law_766 : decode cL_law 766 = .ok (.iadd, 1) := dq0 kk_96 (by decide +kernel)
theorem ldL_law_767 : decode cL_law 767 = .ok (.iaload, 1) := dq0 kk_46 (by decide +kernel)
theorem ldL_law_768 : decode cL_law 768 = .ok (.aload_n 0, 1) := dq0 kk_42 (by decide +kernel)
theorem ldL_law_769 : decode cL_law 769 = .ok (.iload_n 3, 1) := dq0 kk_29 (by decide +kernel)
theorem ldL_law_770 : decode cL_law 770 = .ok (.iconst 2, 1) := dq0 kk_5 (by decide +kernel)
theorem ldL_law_771 : decode cL_law 771 = .ok (.iadd, 1) := dq0 kk_96 (by decide +kernel)
theorem ldL_law_772 : decode cL_law 772 = .ok (.iaload, 1) := dq0 kk_46 (by decide +kernel)
theorem ldL_law_773 : decode cL_law 773 = .ok (.invokevirtual 95, 3) := dqV kk_182 (by decide +kernel)
theorem ltk_X11_linesOf : Cond.code yX11_linesOf cX11_linesOf 4 (some .int) ∈ TB := tbm (tc4 (List.mem_of_getElem? (i := 172) rfl)) rfl
theorem lgc_X11_linesOf : GoodIn TB (cw yX11_linesOf cX11_linesOf 4 (some .int)) := goodIn_c2 ltk_X11_linesOf
theorem ltb_110 : Cond.methodLink "ToneLinesLaw" 95 yX11_linesOf ∈ TB := tbm (tc4 (List.mem_of_getElem? (i := 169) rfl)) rfl
theorem ltb_111 : Cond.instanceMethod yX11_linesOf ∈ TB := tbm (tc4 (List.mem_of_getElem? (i := 170) rfl)) rfl
theorem ltb_112 : Cond.selects "ToneLines" yX11_linesOf yX11_linesOf ∈ TB := tbm (tc4 (List.mem_of_getElem? (i := 171) rfl)) rfl
theorem lgv_L_95 : GoodIn TB (wsV RL 95 RX11 yX11_linesOf (cw yX11_linesOf cX11_linesOf 4 (some .int))) := goodIn_4 ltb_110 ltb_111 ltb_112 ltb_3 lgc_X11_linesOf
theorem lhv_X11_linesOf : yX11_linesOf.cls = RX11 ∧ yX11_linesOf.cls ≠ "java/lang/invoke/MethodHandle" ∧ yX11_linesOf.cls ≠ "java/lang/invoke/VarHandle" ∧ (parseMethodDescriptor yX11_linesOf.desc).map (fun d => d.parameters.length) = some 2 := by decide +kernel
theorem ldL_law_776 : decode cL_law 776 = .ok (.pop, 1) := dq0 kk_87 (by decide +kernel)
theorem ldL_law_777 : decode cL_law 777 = .ok (.aload_n 2, 1) := dq0 kk_44 (by decide +kernel)
theorem ldL_law_778 : decode cL_law 778 = .ok (.aload_n 0, 1) := dq0 kk_42 (by decide +kernel)
theorem ldL_law_779 : decode cL_law 779 = .ok (.iload_n 3, 1) := dq0 kk_29 (by decide +kernel)
theorem ldL_law_780 : decode cL_law 780 = .ok (.iconst 1, 1) := dq0 kk_4 (by decide +kernel)
theorem ldL_law_781 : decode cL_law 781 = .ok (.iadd, 1) := dq0 kk_96 (by decide +kernel)
theorem ldL_law_782 : decode cL_law 782 = .ok (.iaload, 1) := dq0 kk_46 (by decide +kernel)
theorem ldL_law_783 : decode cL_law 783 = .ok (.aload_n 0, 1) := dq0 kk_42 (by decide +kernel)
theorem ldL_law_784 : decode cL_law 784 = .ok (.iload_n 3, 1) := dq0 kk_29 (by decide +kernel)
theorem ldL_law_785 : decode cL_law 785 = .ok (.iconst 2, 1) := dq0 kk_5 (by decide +kernel)
theorem ldL_law_786 : decode cL_law 786 = .ok (.iadd, 1) := dq0 kk_96 (by decide +kernel)
theorem ldL_law_787 : decode cL_law 787 = .ok (.iaload, 1) := dq0 kk_46 (by decide +kernel)
theorem ldL_law_788 : decode cL_law 788 = .ok (.invokevirtual 98, 3) := dqV kk_182 (by decide +kernel)
theorem ltk_X12_linesOf : Cond.code yX12_linesOf cX12_linesOf 3 (some .int) ∈ TB := tbm (tc6 (List.mem_of_getElem? (i := 204) rfl)) rfl
theorem lgc_X12_linesOf : GoodIn TB (cw yX12_linesOf cX12_linesOf 3 (some .int)) := goodIn_c2 ltk_X12_linesOf
theorem ltb_113 : Cond.methodLink "ToneLinesLaw" 98 yX12_linesOf ∈ TB := tbm (tc6 (List.mem_of_getElem? (i := 201) rfl)) rfl
theorem ltb_114 : Cond.instanceMethod yX12_linesOf ∈ TB := tbm (tc6 (List.mem_of_getElem? (i := 202) rfl)) rfl
theorem ltb_115 : Cond.selects "ToneLinesModel" yX12_linesOf yX12_linesOf ∈ TB := tbm (tc6 (List.mem_of_getElem? (i := 203) rfl)) rfl
theorem lgv_L_98 : GoodIn TB (wsV RL 98 RX12 yX12_linesOf (cw yX12_linesOf cX12_linesOf 3 (some .int))) := goodIn_4 ltb_113 ltb_114 ltb_115 ltb_7 lgc_X12_linesOf
theorem lhv_X12_linesOf : yX12_linesOf.cls = RX12 ∧ yX12_linesOf.cls ≠ "java/lang/invoke/MethodHandle" ∧ yX12_linesOf.cls ≠ "java/lang/invoke/VarHandle" ∧ (parseMethodDescriptor yX12_linesOf.desc).map (fun d => d.parameters.length) = some 2 := by decide +kernel
theorem ldL_law_791 : decode cL_law 791 = .ok (.pop, 1) := dq0 kk_87 (by decide +kernel)
theorem ldL_law_792 : decode cL_law 792 = .ok (.goto 273, 3) := dqT kk_167 (by decide +kernel)
set_option maxRecDepth 8000 in
set_option maxHeartbeats 1000000 in
theorem lc_18 {p : Program} {l : Launch} {e : Env} {s : State} {m : MethodId} {below : List Frame} {meth : Method} {c : Code} {D : va_G} {B b L : Nat} {cy : Nat → ClassId} {H : Heap} {locs : List Loc} {ls : Array Slot} {xs : Nat → Int32} {M : Mem} {Q : State → Prop} {i : Nat} (F : CallFix p m c code 4 s #[Value.ref b] TB RL) (hX : va_X b L xs s s.heap) (hbl : b < s.heap.size) (hbA : ¬ B ≤ b) (hi : i + 6 ≤ L) (hL : L ≤ 3072) (hJx : Jx M) (w : Wd D B cy s s.heap M H locs) (hl : lv_has ls 4 [(3, .int (zI (i : Int))), (2, .ref (B + 146)), (1, .ref (B + 0)), (0, .ref b)]) (kk : ∀ (M1 : Mem) (H1 : Heap) (locs1 : List Loc), Jx M1 → Wd D B cy s s.heap M1 H1 locs1 → W p l e room_1 s m #[Value.ref b] below meth c H1 locs1 159 13107 Q (F0 m 1065 ls [])) : W p l e room_1 s m #[Value.ref b] below meth c H locs 159 13107 Q (F0 m 762 ls []) := by
  have hx := F.1
  have hb := F.2.1
  obtain ⟨T, tn, Ps, mr, xw, Hs, kw, yw, Gs, hJ, hxy, hHG⟩ := hJx
  obtain ⟨qw, hv, ed, hv2, ed2, o, rfl, rfl, hb1, hb2⟩ := hxy.i
  have hta := hJ.1.2.2.2.2.1.1
  have hix1 := ix_z (z := (i : Int) + 1) (by omega) (by omega)
  obtain ⟨x1, bx1, ex1⟩ := rg_ex (xs ((i : Int) + 1).toNat)
  have hix2 := ix_z (z := (i : Int) + 2) (by omega) (by omega)
  obtain ⟨x2, bx2, ex2⟩ := rg_ex (xs ((i : Int) + 2).toNat)
  refine lv_aload_n hx hb ldL_law_762 rfl (lv_at hl 2 rfl) ?_
  refine lv_aload_n hx hb ldL_law_763 rfl (lv_at hl 3 rfl) ?_
  refine lv_iload_n hx hb ldL_law_764 rfl (lv_at hl 0 rfl) ?_
  refine lv_iconst (v := zI 1) hx hb ldL_law_765 rfl ?_
  refine z_iadd (z := (i : Int) + 1) hx hb ldL_law_766 (by omega) ?_
  refine va_sld hx hb hX hbl hbA w.2.2.1 (vpi hix1.1 (by rw [hix1.2]; omega)) ldL_law_767 ?_
  refine r_val ((congrArg xs hix1.2).trans ex1) ?_
  refine lv_aload_n hx hb ldL_law_768 rfl (lv_at hl 3 rfl) ?_
  refine lv_iload_n hx hb ldL_law_769 rfl (lv_at hl 0 rfl) ?_
  refine lv_iconst (v := zI 2) hx hb ldL_law_770 rfl ?_
  refine z_iadd (z := (i : Int) + 2) hx hb ldL_law_771 (by omega) ?_
  refine va_sld hx hb hX hbl hbA w.2.2.1 (vpi hix2.1 (by rw [hix2.2]; omega)) ldL_law_772 ?_
  refine r_val ((congrArg xs hix2.2).trans ex2) ?_
  refine k_Vi F w (As := [.int (zI x1), .int (zI x2)]) (rest := []) (a := 0) (kd_lt (a := 0) (show kd 0 = (11, 0, 0) from rfl) (by decide)) (sh_11 rfl _ _) rfl (gq_X11_linesOf (x := x1) ⟨by omega, by omega⟩ (x1 := x2) ⟨by omega, by omega⟩ ⟨hJ.1.1, hJ.2.1⟩) lgv_L_95 lhv_X11_linesOf ⟨(Nat.le_of_ble_eq_true rfl), (Nat.le_of_ble_eq_true rfl)⟩ hl.1 rfl (Nat.le_of_ble_eq_true rfl) ⟨(Nat.le_of_ble_eq_true rfl), (Nat.le_of_ble_eq_true rfl)⟩ ldL_law_773 (fun r1 N2 H locs hp w => ?_)
  obtain ⟨z3, rfl, bz3, hIN2, hFN2⟩ := hp
  have hJ4 := Jg.c hJ hIN2.1 hFN2 (fun b9 k9 h => by (try dsimp only at h); rcases h with ⟨rfl, rfl⟩ | ⟨rfl, rfl⟩ | rfl | rfl | ⟨q1, q2⟩ <;> first | decide | omega) (isTc.F hJ.1.2.2.1 hFN2 (by first | decide | (dsimp only; first | done | decide | omega) | omega) (fun k9 => by first | decide | (dsimp only; first | done | decide | omega) | omega)) (hJ.1.2.2.2.2.1) (hIN2.2)
  refine lv_pop hx hb ldL_law_776 rfl ?_
  refine lv_aload_n hx hb ldL_law_777 rfl (lv_at hl 1 rfl) ?_
  refine lv_aload_n hx hb ldL_law_778 rfl (lv_at hl 3 rfl) ?_
  refine lv_iload_n hx hb ldL_law_779 rfl (lv_at hl 0 rfl) ?_
  refine lv_iconst (v := zI 1) hx hb ldL_law_780 rfl ?_
  refine z_iadd (z := (i : Int) + 1) hx hb ldL_law_781 (by omega) ?_
  refine va_sld hx hb hX hbl hbA w.2.2.1 (vpi hix1.1 (by rw [hix1.2]; omega)) ldL_law_782 ?_
  refine r_val ((congrArg xs hix1.2).trans ex1) ?_
  refine lv_aload_n hx hb ldL_law_783 rfl (lv_at hl 3 rfl) ?_
  refine lv_iload_n hx hb ldL_law_784 rfl (lv_at hl 0 rfl) ?_
  refine lv_iconst (v := zI 2) hx hb ldL_law_785 rfl ?_
  refine z_iadd (z := (i : Int) + 2) hx hb ldL_law_786 (by omega) ?_
  refine va_sld hx hb hX hbl hbA w.2.2.1 (vpi hix2.1 (by rw [hix2.2]; omega)) ldL_law_787 ?_
  refine r_val ((congrArg xs hix2.2).trans ex2) ?_
  refine k_Vi F w (As := [.int (zI x1), .int (zI x2)]) (rest := []) (a := 146) (kd_lt (a := 146) (show kd 146 = (12, 0, 0) from rfl) (by decide)) (sh_12 rfl _ _) rfl (q_X12_linesOf (x := x1) ⟨by omega, by omega⟩ (t := x2) ⟨by omega, by omega⟩ hJ4.1.2.1) lgv_L_98 lhv_X12_linesOf ⟨(Nat.le_of_ble_eq_true rfl), (Nat.le_of_ble_eq_true rfl)⟩ hl.1 rfl (Nat.le_of_ble_eq_true rfl) ⟨(Nat.le_of_ble_eq_true rfl), (Nat.le_of_ble_eq_true rfl)⟩ ldL_law_788 (fun r5 N6 H locs hp w => ?_)
  obtain ⟨z7, rfl, bz7, hIN6, hFN6⟩ := hp
  have hJ8 := Jg.r hJ4 hIN6 hFN6 (fun b9 k9 h => by (try dsimp only at h); rcases h with ⟨rfl, rfl⟩ | ⟨rfl, rfl⟩ | rfl <;> first | decide | omega) (isTr.F hJ4.1.2.2.2.1 hFN6 (by first | decide | (dsimp only; first | done | decide | omega) | omega) (fun k9 => by first | decide | (dsimp only; first | done | decide | omega) | omega)) (hJ4.1.2.2.2.2.2) (hJ4.2.2.F hFN6 (fun k9 => by first | decide | (dsimp only; first | done | decide | omega) | omega) (fun k9 => by first | decide | (dsimp only; first | done | decide | omega) | omega) (fun k9 => by first | decide | (dsimp only; first | done | decide | omega) | omega) (by first | decide | (dsimp only; first | done | decide | omega) | omega) (by first | decide | (dsimp only; first | done | decide | omega) | omega))
  refine lv_pop hx hb ldL_law_791 rfl ?_
  refine lv_goto (tgt := 1065) hx hb ldL_law_792 (by decide) ?_
  exact kk _ _ _ (Jx.of hJ8 rfl (by omega) rfl rfl rfl (alF.e hb1 hb2) hHG) w
theorem ldL_law_795 : decode cL_law 795 = .ok (.aload_n 1, 1) := dq0 kk_43 (by decide +kernel)
theorem ldL_law_796 : decode cL_law 796 = .ok (.aload_n 0, 1) := dq0 kk_42 (by decide +kernel)
theorem ldL_law_797 : decode cL_law 797 = .ok (.iload_n 3, 1) := dq0 kk_29 (by decide +kernel)
theorem ldL_law_798 : decode cL_law 798 = .ok (.iconst 1, 1) := dq0 kk_4 (by decide +kernel)
theorem ldL_law_799 : decode cL_law 799 = .ok (.iadd, 1) := dq0 kk_96 (by decide +kernel)
theorem ldL_law_800 : decode cL_law 800 = .ok (.iaload, 1) := dq0 kk_46 (by decide +kernel)
theorem ldL_law_801 : decode cL_law 801 = .ok (.aload_n 0, 1) := dq0 kk_42 (by decide +kernel)
theorem ldL_law_802 : decode cL_law 802 = .ok (.iload_n 3, 1) := dq0 kk_29 (by decide +kernel)
theorem ldL_law_803 : decode cL_law 803 = .ok (.iconst 2, 1) := dq0 kk_5 (by decide +kernel)
theorem ldL_law_804 : decode cL_law 804 = .ok (.iadd, 1) := dq0 kk_96 (by decide +kernel)
theorem ldL_law_805 : decode cL_law 805 = .ok (.iaload, 1) := dq0 kk_46 (by decide +kernel)
theorem ldL_law_806 : decode cL_law 806 = .ok (.aload_n 0, 1) := dq0 kk_42 (by decide +kernel)
theorem ldL_law_807 : decode cL_law 807 = .ok (.iload_n 3, 1) := dq0 kk_29 (by decide +kernel)
theorem ldL_law_808 : decode cL_law 808 = .ok (.iconst 3, 1) := dq0 kk_6 (by decide +kernel)
theorem ldL_law_809 : decode cL_law 809 = .ok (.iadd, 1) := dq0 kk_96 (by decide +kernel)
theorem ldL_law_810 : decode cL_law 810 = .ok (.iaload, 1) := dq0 kk_46 (by decide +kernel)
theorem ldL_law_811 : decode cL_law 811 = .ok (.invokevirtual 99, 3) := dqV kk_182 (by decide +kernel)
theorem ltk_X11_open : Cond.code yX11_open cX11_open 5 (some .int) ∈ TB := tbm (tc4 (List.mem_of_getElem? (i := 176) rfl)) rfl
theorem lgc_X11_open : GoodIn TB (cw yX11_open cX11_open 5 (some .int)) := goodIn_c2 ltk_X11_open
theorem ltb_116 : Cond.methodLink "ToneLinesLaw" 99 yX11_open ∈ TB := tbm (tc4 (List.mem_of_getElem? (i := 173) rfl)) rfl
theorem ltb_117 : Cond.instanceMethod yX11_open ∈ TB := tbm (tc4 (List.mem_of_getElem? (i := 174) rfl)) rfl
theorem ltb_118 : Cond.selects "ToneLines" yX11_open yX11_open ∈ TB := tbm (tc4 (List.mem_of_getElem? (i := 175) rfl)) rfl
theorem lgv_L_99 : GoodIn TB (wsV RL 99 RX11 yX11_open (cw yX11_open cX11_open 5 (some .int))) := goodIn_4 ltb_116 ltb_117 ltb_118 ltb_3 lgc_X11_open
theorem lhv_X11_open : yX11_open.cls = RX11 ∧ yX11_open.cls ≠ "java/lang/invoke/MethodHandle" ∧ yX11_open.cls ≠ "java/lang/invoke/VarHandle" ∧ (parseMethodDescriptor yX11_open.desc).map (fun d => d.parameters.length) = some 3 := by decide +kernel
theorem ldL_law_814 : decode cL_law 814 = .ok (.pop, 1) := dq0 kk_87 (by decide +kernel)
theorem ldL_law_815 : decode cL_law 815 = .ok (.aload_n 2, 1) := dq0 kk_44 (by decide +kernel)
theorem ldL_law_816 : decode cL_law 816 = .ok (.aload_n 0, 1) := dq0 kk_42 (by decide +kernel)
theorem ldL_law_817 : decode cL_law 817 = .ok (.iload_n 3, 1) := dq0 kk_29 (by decide +kernel)
theorem ldL_law_818 : decode cL_law 818 = .ok (.iconst 1, 1) := dq0 kk_4 (by decide +kernel)
theorem ldL_law_819 : decode cL_law 819 = .ok (.iadd, 1) := dq0 kk_96 (by decide +kernel)
theorem ldL_law_820 : decode cL_law 820 = .ok (.iaload, 1) := dq0 kk_46 (by decide +kernel)
theorem ldL_law_821 : decode cL_law 821 = .ok (.aload_n 0, 1) := dq0 kk_42 (by decide +kernel)
theorem ldL_law_822 : decode cL_law 822 = .ok (.iload_n 3, 1) := dq0 kk_29 (by decide +kernel)
theorem ldL_law_823 : decode cL_law 823 = .ok (.iconst 2, 1) := dq0 kk_5 (by decide +kernel)
theorem ldL_law_824 : decode cL_law 824 = .ok (.iadd, 1) := dq0 kk_96 (by decide +kernel)
theorem ldL_law_825 : decode cL_law 825 = .ok (.iaload, 1) := dq0 kk_46 (by decide +kernel)
theorem ldL_law_826 : decode cL_law 826 = .ok (.aload_n 0, 1) := dq0 kk_42 (by decide +kernel)
theorem ldL_law_827 : decode cL_law 827 = .ok (.iload_n 3, 1) := dq0 kk_29 (by decide +kernel)
theorem ldL_law_828 : decode cL_law 828 = .ok (.iconst 3, 1) := dq0 kk_6 (by decide +kernel)
theorem ldL_law_829 : decode cL_law 829 = .ok (.iadd, 1) := dq0 kk_96 (by decide +kernel)
theorem ldL_law_830 : decode cL_law 830 = .ok (.iaload, 1) := dq0 kk_46 (by decide +kernel)
theorem ldL_law_831 : decode cL_law 831 = .ok (.invokevirtual 102, 3) := dqV kk_182 (by decide +kernel)
theorem ltk_X12_open : Cond.code yX12_open cX12_open 4 (some .int) ∈ TB := tbm (tc6 (List.mem_of_getElem? (i := 208) rfl)) rfl
theorem lgc_X12_open : GoodIn TB (cw yX12_open cX12_open 4 (some .int)) := goodIn_c2 ltk_X12_open
theorem ltb_119 : Cond.methodLink "ToneLinesLaw" 102 yX12_open ∈ TB := tbm (tc6 (List.mem_of_getElem? (i := 205) rfl)) rfl
theorem ltb_120 : Cond.instanceMethod yX12_open ∈ TB := tbm (tc6 (List.mem_of_getElem? (i := 206) rfl)) rfl
theorem ltb_121 : Cond.selects "ToneLinesModel" yX12_open yX12_open ∈ TB := tbm (tc6 (List.mem_of_getElem? (i := 207) rfl)) rfl
theorem lgv_L_102 : GoodIn TB (wsV RL 102 RX12 yX12_open (cw yX12_open cX12_open 4 (some .int))) := goodIn_4 ltb_119 ltb_120 ltb_121 ltb_7 lgc_X12_open
theorem lhv_X12_open : yX12_open.cls = RX12 ∧ yX12_open.cls ≠ "java/lang/invoke/MethodHandle" ∧ yX12_open.cls ≠ "java/lang/invoke/VarHandle" ∧ (parseMethodDescriptor yX12_open.desc).map (fun d => d.parameters.length) = some 3 := by decide +kernel
theorem ldL_law_834 : decode cL_law 834 = .ok (.pop, 1) := dq0 kk_87 (by decide +kernel)
theorem ldL_law_835 : decode cL_law 835 = .ok (.goto 230, 3) := dqT kk_167 (by decide +kernel)
set_option maxRecDepth 8000 in
set_option maxHeartbeats 1000000 in
theorem lc_19 {p : Program} {l : Launch} {e : Env} {s : State} {m : MethodId} {below : List Frame} {meth : Method} {c : Code} {D : va_G} {B b L : Nat} {cy : Nat → ClassId} {H : Heap} {locs : List Loc} {ls : Array Slot} {xs : Nat → Int32} {M : Mem} {Q : State → Prop} {i : Nat} (F : CallFix p m c code 4 s #[Value.ref b] TB RL) (hX : va_X b L xs s s.heap) (hbl : b < s.heap.size) (hbA : ¬ B ≤ b) (hi : i + 6 ≤ L) (hL : L ≤ 3072) (hJx : Jx M) (w : Wd D B cy s s.heap M H locs) (hl : lv_has ls 4 [(3, .int (zI (i : Int))), (2, .ref (B + 146)), (1, .ref (B + 0)), (0, .ref b)]) (kk : ∀ (M1 : Mem) (H1 : Heap) (locs1 : List Loc), Jx M1 → Wd D B cy s s.heap M1 H1 locs1 → W p l e room_1 s m #[Value.ref b] below meth c H1 locs1 159 13107 Q (F0 m 1065 ls [])) : W p l e room_1 s m #[Value.ref b] below meth c H locs 159 13107 Q (F0 m 795 ls []) := by
  have hx := F.1
  have hb := F.2.1
  obtain ⟨T, tn, Ps, mr, xw, Hs, kw, yw, Gs, hJ, hxy, hHG⟩ := hJx
  obtain ⟨qw, hv, ed, hv2, ed2, o, rfl, rfl, hb1, hb2⟩ := hxy.i
  have hta := hJ.1.2.2.2.2.1.1
  have hix1 := ix_z (z := (i : Int) + 1) (by omega) (by omega)
  obtain ⟨x1, bx1, ex1⟩ := rg_ex (xs ((i : Int) + 1).toNat)
  have hix2 := ix_z (z := (i : Int) + 2) (by omega) (by omega)
  obtain ⟨x2, bx2, ex2⟩ := rg_ex (xs ((i : Int) + 2).toNat)
  have hix3 := ix_z (z := (i : Int) + 3) (by omega) (by omega)
  obtain ⟨x3, bx3, ex3⟩ := rg_ex (xs ((i : Int) + 3).toNat)
  refine lv_aload_n hx hb ldL_law_795 rfl (lv_at hl 2 rfl) ?_
  refine lv_aload_n hx hb ldL_law_796 rfl (lv_at hl 3 rfl) ?_
  refine lv_iload_n hx hb ldL_law_797 rfl (lv_at hl 0 rfl) ?_
  refine lv_iconst (v := zI 1) hx hb ldL_law_798 rfl ?_
  refine z_iadd (z := (i : Int) + 1) hx hb ldL_law_799 (by omega) ?_
  refine va_sld hx hb hX hbl hbA w.2.2.1 (vpi hix1.1 (by rw [hix1.2]; omega)) ldL_law_800 ?_
  refine r_val ((congrArg xs hix1.2).trans ex1) ?_
  refine lv_aload_n hx hb ldL_law_801 rfl (lv_at hl 3 rfl) ?_
  refine lv_iload_n hx hb ldL_law_802 rfl (lv_at hl 0 rfl) ?_
  refine lv_iconst (v := zI 2) hx hb ldL_law_803 rfl ?_
  refine z_iadd (z := (i : Int) + 2) hx hb ldL_law_804 (by omega) ?_
  refine va_sld hx hb hX hbl hbA w.2.2.1 (vpi hix2.1 (by rw [hix2.2]; omega)) ldL_law_805 ?_
  refine r_val ((congrArg xs hix2.2).trans ex2) ?_
  refine lv_aload_n hx hb ldL_law_806 rfl (lv_at hl 3 rfl) ?_
  refine lv_iload_n hx hb ldL_law_807 rfl (lv_at hl 0 rfl) ?_
  refine lv_iconst (v := zI 3) hx hb ldL_law_808 rfl ?_
  refine z_iadd (z := (i : Int) + 3) hx hb ldL_law_809 (by omega) ?_
  refine va_sld hx hb hX hbl hbA w.2.2.1 (vpi hix3.1 (by rw [hix3.2]; omega)) ldL_law_810 ?_
  refine r_val ((congrArg xs hix3.2).trans ex3) ?_
  refine k_Vi F w (As := [.int (zI x1), .int (zI x2), .int (zI x3)]) (rest := []) (a := 0) (kd_lt (a := 0) (show kd 0 = (11, 0, 0) from rfl) (by decide)) (sh_11 rfl _ _) rfl (gq_X11_open (x := x1) ⟨by omega, by omega⟩ (x1 := x2) ⟨by omega, by omega⟩ (x2 := x3) ⟨by omega, by omega⟩ ⟨hJ.1.1, hJ.2.1⟩) lgv_L_99 lhv_X11_open ⟨(Nat.le_of_ble_eq_true rfl), (Nat.le_of_ble_eq_true rfl)⟩ hl.1 rfl (Nat.le_of_ble_eq_true rfl) ⟨(Nat.le_of_ble_eq_true rfl), (Nat.le_of_ble_eq_true rfl)⟩ ldL_law_811 (fun r1 N2 H locs hp w => ?_)
  obtain ⟨z3, rfl, bz3, hIN2, hFN2⟩ := hp
  have hJ4 := Jg.c hJ hIN2.1 hFN2 (fun b9 k9 h => by (try dsimp only at h); rcases h with ⟨rfl, rfl⟩ | ⟨rfl, rfl⟩ | rfl | rfl | ⟨q1, q2⟩ <;> first | decide | omega) (isTc.F hJ.1.2.2.1 hFN2 (by first | decide | (dsimp only; first | done | decide | omega) | omega) (fun k9 => by first | decide | (dsimp only; first | done | decide | omega) | omega)) (hJ.1.2.2.2.2.1) (hIN2.2)
  refine lv_pop hx hb ldL_law_814 rfl ?_
  refine lv_aload_n hx hb ldL_law_815 rfl (lv_at hl 1 rfl) ?_
  refine lv_aload_n hx hb ldL_law_816 rfl (lv_at hl 3 rfl) ?_
  refine lv_iload_n hx hb ldL_law_817 rfl (lv_at hl 0 rfl) ?_
  refine lv_iconst (v := zI 1) hx hb ldL_law_818 rfl ?_
  refine z_iadd (z := (i : Int) + 1) hx hb ldL_law_819 (by omega) ?_
  refine va_sld hx hb hX hbl hbA w.2.2.1 (vpi hix1.1 (by rw [hix1.2]; omega)) ldL_law_820 ?_
  refine r_val ((congrArg xs hix1.2).trans ex1) ?_
  refine lv_aload_n hx hb ldL_law_821 rfl (lv_at hl 3 rfl) ?_
  refine lv_iload_n hx hb ldL_law_822 rfl (lv_at hl 0 rfl) ?_
  refine lv_iconst (v := zI 2) hx hb ldL_law_823 rfl ?_
  refine z_iadd (z := (i : Int) + 2) hx hb ldL_law_824 (by omega) ?_
  refine va_sld hx hb hX hbl hbA w.2.2.1 (vpi hix2.1 (by rw [hix2.2]; omega)) ldL_law_825 ?_
  refine r_val ((congrArg xs hix2.2).trans ex2) ?_
  refine lv_aload_n hx hb ldL_law_826 rfl (lv_at hl 3 rfl) ?_
  refine lv_iload_n hx hb ldL_law_827 rfl (lv_at hl 0 rfl) ?_
  refine lv_iconst (v := zI 3) hx hb ldL_law_828 rfl ?_
  refine z_iadd (z := (i : Int) + 3) hx hb ldL_law_829 (by omega) ?_
  refine va_sld hx hb hX hbl hbA w.2.2.1 (vpi hix3.1 (by rw [hix3.2]; omega)) ldL_law_830 ?_
  refine r_val ((congrArg xs hix3.2).trans ex3) ?_
  refine k_Vi F w (As := [.int (zI x1), .int (zI x2), .int (zI x3)]) (rest := []) (a := 146) (kd_lt (a := 146) (show kd 146 = (12, 0, 0) from rfl) (by decide)) (sh_12 rfl _ _) rfl (q_X12_open (x := x1) ⟨by omega, by omega⟩ (t := x2) ⟨by omega, by omega⟩ (y := x3) ⟨by omega, by omega⟩ hJ4.1.2.1) lgv_L_102 lhv_X12_open ⟨(Nat.le_of_ble_eq_true rfl), (Nat.le_of_ble_eq_true rfl)⟩ hl.1 rfl (Nat.le_of_ble_eq_true rfl) ⟨(Nat.le_of_ble_eq_true rfl), (Nat.le_of_ble_eq_true rfl)⟩ ldL_law_831 (fun r5 N6 H locs hp w => ?_)
  obtain ⟨z7, rfl, bz7, hIN6, hFN6⟩ := hp
  have hJ8 := Jg.r hJ4 hIN6 hFN6 (fun b9 k9 h => by (try dsimp only at h); rcases h with ⟨rfl, rfl⟩ | ⟨rfl, rfl⟩ | rfl <;> first | decide | omega) (isTr.F hJ4.1.2.2.2.1 hFN6 (by first | decide | (dsimp only; first | done | decide | omega) | omega) (fun k9 => by first | decide | (dsimp only; first | done | decide | omega) | omega)) (hJ4.1.2.2.2.2.2) (hJ4.2.2.F hFN6 (fun k9 => by first | decide | (dsimp only; first | done | decide | omega) | omega) (fun k9 => by first | decide | (dsimp only; first | done | decide | omega) | omega) (fun k9 => by first | decide | (dsimp only; first | done | decide | omega) | omega) (by first | decide | (dsimp only; first | done | decide | omega) | omega) (by first | decide | (dsimp only; first | done | decide | omega) | omega))
  refine lv_pop hx hb ldL_law_834 rfl ?_
  refine lv_goto (tgt := 1065) hx hb ldL_law_835 (by decide) ?_
  exact kk _ _ _ (Jx.of hJ8 rfl (by omega) rfl rfl rfl (alF.e hb1 hb2) hHG) w
theorem ldL_law_838 : decode cL_law 838 = .ok (.aload_n 1, 1) := dq0 kk_43 (by decide +kernel)
theorem ldL_law_839 : decode cL_law 839 = .ok (.aload_n 0, 1) := dq0 kk_42 (by decide +kernel)
theorem ldL_law_840 : decode cL_law 840 = .ok (.iload_n 3, 1) := dq0 kk_29 (by decide +kernel)
theorem ldL_law_841 : decode cL_law 841 = .ok (.iconst 1, 1) := dq0 kk_4 (by decide +kernel)
theorem ldL_law_842 : decode cL_law 842 = .ok (.iadd, 1) := dq0 kk_96 (by decide +kernel)
theorem ldL_law_843 : decode cL_law 843 = .ok (.iaload, 1) := dq0 kk_46 (by decide +kernel)
theorem ldL_law_844 : decode cL_law 844 = .ok (.aload_n 0, 1) := dq0 kk_42 (by decide +kernel)
theorem ldL_law_845 : decode cL_law 845 = .ok (.iload_n 3, 1) := dq0 kk_29 (by decide +kernel)
theorem ldL_law_846 : decode cL_law 846 = .ok (.iconst 2, 1) := dq0 kk_5 (by decide +kernel)
theorem ldL_law_847 : decode cL_law 847 = .ok (.iadd, 1) := dq0 kk_96 (by decide +kernel)
theorem ldL_law_848 : decode cL_law 848 = .ok (.iaload, 1) := dq0 kk_46 (by decide +kernel)
theorem ldL_law_849 : decode cL_law 849 = .ok (.invokevirtual 103, 3) := dqV kk_182 (by decide +kernel)
theorem ltk_X11_spell : Cond.code yX11_spell cX11_spell 3 (some .int) ∈ TB := tbm (tc4 (List.mem_of_getElem? (i := 180) rfl)) rfl
theorem lgc_X11_spell : GoodIn TB (cw yX11_spell cX11_spell 3 (some .int)) := goodIn_c2 ltk_X11_spell
theorem ltb_122 : Cond.methodLink "ToneLinesLaw" 103 yX11_spell ∈ TB := tbm (tc4 (List.mem_of_getElem? (i := 177) rfl)) rfl
theorem ltb_123 : Cond.instanceMethod yX11_spell ∈ TB := tbm (tc4 (List.mem_of_getElem? (i := 178) rfl)) rfl
theorem ltb_124 : Cond.selects "ToneLines" yX11_spell yX11_spell ∈ TB := tbm (tc4 (List.mem_of_getElem? (i := 179) rfl)) rfl
theorem lgv_L_103 : GoodIn TB (wsV RL 103 RX11 yX11_spell (cw yX11_spell cX11_spell 3 (some .int))) := goodIn_4 ltb_122 ltb_123 ltb_124 ltb_3 lgc_X11_spell
theorem lhv_X11_spell : yX11_spell.cls = RX11 ∧ yX11_spell.cls ≠ "java/lang/invoke/MethodHandle" ∧ yX11_spell.cls ≠ "java/lang/invoke/VarHandle" ∧ (parseMethodDescriptor yX11_spell.desc).map (fun d => d.parameters.length) = some 2 := by decide +kernel
theorem ldL_law_852 : decode cL_law 852 = .ok (.pop, 1) := dq0 kk_87 (by decide +kernel)
theorem ldL_law_853 : decode cL_law 853 = .ok (.aload_n 2, 1) := dq0 kk_44 (by decide +kernel)
theorem ldL_law_854 : decode cL_law 854 = .ok (.aload_n 0, 1) := dq0 kk_42 (by decide +kernel)
theorem ldL_law_855 : decode cL_law 855 = .ok (.iload_n 3, 1) := dq0 kk_29 (by decide +kernel)
theorem ldL_law_856 : decode cL_law 856 = .ok (.iconst 1, 1) := dq0 kk_4 (by decide +kernel)
theorem ldL_law_857 : decode cL_law 857 = .ok (.iadd, 1) := dq0 kk_96 (by decide +kernel)
theorem ldL_law_858 : decode cL_law 858 = .ok (.iaload, 1) := dq0 kk_46 (by decide +kernel)
theorem ldL_law_859 : decode cL_law 859 = .ok (.aload_n 0, 1) := dq0 kk_42 (by decide +kernel)
theorem ldL_law_860 : decode cL_law 860 = .ok (.iload_n 3, 1) := dq0 kk_29 (by decide +kernel)
theorem ldL_law_861 : decode cL_law 861 = .ok (.iconst 2, 1) := dq0 kk_5 (by decide +kernel)
theorem ldL_law_862 : decode cL_law 862 = .ok (.iadd, 1) := dq0 kk_96 (by decide +kernel)
theorem ldL_law_863 : decode cL_law 863 = .ok (.iaload, 1) := dq0 kk_46 (by decide +kernel)
theorem ldL_law_864 : decode cL_law 864 = .ok (.invokevirtual 106, 3) := dqV kk_182 (by decide +kernel)
theorem ltk_X12_spell : Cond.code yX12_spell cX12_spell 3 (some .int) ∈ TB := tbm (tc6 (List.mem_of_getElem? (i := 212) rfl)) rfl
theorem lgc_X12_spell : GoodIn TB (cw yX12_spell cX12_spell 3 (some .int)) := goodIn_c2 ltk_X12_spell
theorem ltb_125 : Cond.methodLink "ToneLinesLaw" 106 yX12_spell ∈ TB := tbm (tc6 (List.mem_of_getElem? (i := 209) rfl)) rfl
theorem ltb_126 : Cond.instanceMethod yX12_spell ∈ TB := tbm (tc6 (List.mem_of_getElem? (i := 210) rfl)) rfl
theorem ltb_127 : Cond.selects "ToneLinesModel" yX12_spell yX12_spell ∈ TB := tbm (tc6 (List.mem_of_getElem? (i := 211) rfl)) rfl
theorem lgv_L_106 : GoodIn TB (wsV RL 106 RX12 yX12_spell (cw yX12_spell cX12_spell 3 (some .int))) := goodIn_4 ltb_125 ltb_126 ltb_127 ltb_7 lgc_X12_spell
theorem lhv_X12_spell : yX12_spell.cls = RX12 ∧ yX12_spell.cls ≠ "java/lang/invoke/MethodHandle" ∧ yX12_spell.cls ≠ "java/lang/invoke/VarHandle" ∧ (parseMethodDescriptor yX12_spell.desc).map (fun d => d.parameters.length) = some 2 := by decide +kernel
theorem ldL_law_867 : decode cL_law 867 = .ok (.pop, 1) := dq0 kk_87 (by decide +kernel)
theorem ldL_law_868 : decode cL_law 868 = .ok (.goto 197, 3) := dqT kk_167 (by decide +kernel)
set_option maxRecDepth 8000 in
set_option maxHeartbeats 1000000 in
theorem lc_20 {p : Program} {l : Launch} {e : Env} {s : State} {m : MethodId} {below : List Frame} {meth : Method} {c : Code} {D : va_G} {B b L : Nat} {cy : Nat → ClassId} {H : Heap} {locs : List Loc} {ls : Array Slot} {xs : Nat → Int32} {M : Mem} {Q : State → Prop} {i : Nat} (F : CallFix p m c code 4 s #[Value.ref b] TB RL) (hX : va_X b L xs s s.heap) (hbl : b < s.heap.size) (hbA : ¬ B ≤ b) (hi : i + 6 ≤ L) (hL : L ≤ 3072) (hJx : Jx M) (w : Wd D B cy s s.heap M H locs) (hl : lv_has ls 4 [(3, .int (zI (i : Int))), (2, .ref (B + 146)), (1, .ref (B + 0)), (0, .ref b)]) (kk : ∀ (M1 : Mem) (H1 : Heap) (locs1 : List Loc), Jx M1 → Wd D B cy s s.heap M1 H1 locs1 → W p l e room_1 s m #[Value.ref b] below meth c H1 locs1 159 13107 Q (F0 m 1065 ls [])) : W p l e room_1 s m #[Value.ref b] below meth c H locs 159 13107 Q (F0 m 838 ls []) := by
  have hx := F.1
  have hb := F.2.1
  obtain ⟨T, tn, Ps, mr, xw, Hs, kw, yw, Gs, hJ, hxy, hHG⟩ := hJx
  obtain ⟨qw, hv, ed, hv2, ed2, o, rfl, rfl, hb1, hb2⟩ := hxy.i
  have hta := hJ.1.2.2.2.2.1.1
  have hix1 := ix_z (z := (i : Int) + 1) (by omega) (by omega)
  obtain ⟨x1, bx1, ex1⟩ := rg_ex (xs ((i : Int) + 1).toNat)
  have hix2 := ix_z (z := (i : Int) + 2) (by omega) (by omega)
  obtain ⟨x2, bx2, ex2⟩ := rg_ex (xs ((i : Int) + 2).toNat)
  refine lv_aload_n hx hb ldL_law_838 rfl (lv_at hl 2 rfl) ?_
  refine lv_aload_n hx hb ldL_law_839 rfl (lv_at hl 3 rfl) ?_
  refine lv_iload_n hx hb ldL_law_840 rfl (lv_at hl 0 rfl) ?_
  refine lv_iconst (v := zI 1) hx hb ldL_law_841 rfl ?_
  refine z_iadd (z := (i : Int) + 1) hx hb ldL_law_842 (by omega) ?_
  refine va_sld hx hb hX hbl hbA w.2.2.1 (vpi hix1.1 (by rw [hix1.2]; omega)) ldL_law_843 ?_
  refine r_val ((congrArg xs hix1.2).trans ex1) ?_
  refine lv_aload_n hx hb ldL_law_844 rfl (lv_at hl 3 rfl) ?_
  refine lv_iload_n hx hb ldL_law_845 rfl (lv_at hl 0 rfl) ?_
  refine lv_iconst (v := zI 2) hx hb ldL_law_846 rfl ?_
  refine z_iadd (z := (i : Int) + 2) hx hb ldL_law_847 (by omega) ?_
  refine va_sld hx hb hX hbl hbA w.2.2.1 (vpi hix2.1 (by rw [hix2.2]; omega)) ldL_law_848 ?_
  refine r_val ((congrArg xs hix2.2).trans ex2) ?_
  refine k_Vi F w (As := [.int (zI x1), .int (zI x2)]) (rest := []) (a := 0) (kd_lt (a := 0) (show kd 0 = (11, 0, 0) from rfl) (by decide)) (sh_11 rfl _ _) rfl (gq_X11_spell (x := x1) ⟨by omega, by omega⟩ (x1 := x2) ⟨by omega, by omega⟩ ⟨hJ.1.1, hJ.2.1⟩) lgv_L_103 lhv_X11_spell ⟨(Nat.le_of_ble_eq_true rfl), (Nat.le_of_ble_eq_true rfl)⟩ hl.1 rfl (Nat.le_of_ble_eq_true rfl) ⟨(Nat.le_of_ble_eq_true rfl), (Nat.le_of_ble_eq_true rfl)⟩ ldL_law_849 (fun r1 N2 H locs hp w => ?_)
  obtain ⟨z3, rfl, bz3, hIN2, hFN2⟩ := hp
  have hJ4 := Jg.c hJ hIN2.1 hFN2 (fun b9 k9 h => by (try dsimp only at h); rcases h with ⟨rfl, rfl⟩ | ⟨rfl, rfl⟩ | ⟨rfl, rfl⟩ | rfl | rfl | rfl | ⟨q1, q2⟩ <;> first | decide | omega) (isTc.F hJ.1.2.2.1 hFN2 (by first | decide | (dsimp only; first | done | decide | omega) | omega) (fun k9 => by first | decide | (dsimp only; first | done | decide | omega) | omega)) (hJ.1.2.2.2.2.1) (hIN2.2)
  refine lv_pop hx hb ldL_law_852 rfl ?_
  refine lv_aload_n hx hb ldL_law_853 rfl (lv_at hl 1 rfl) ?_
  refine lv_aload_n hx hb ldL_law_854 rfl (lv_at hl 3 rfl) ?_
  refine lv_iload_n hx hb ldL_law_855 rfl (lv_at hl 0 rfl) ?_
  refine lv_iconst (v := zI 1) hx hb ldL_law_856 rfl ?_
  refine z_iadd (z := (i : Int) + 1) hx hb ldL_law_857 (by omega) ?_
  refine va_sld hx hb hX hbl hbA w.2.2.1 (vpi hix1.1 (by rw [hix1.2]; omega)) ldL_law_858 ?_
  refine r_val ((congrArg xs hix1.2).trans ex1) ?_
  refine lv_aload_n hx hb ldL_law_859 rfl (lv_at hl 3 rfl) ?_
  refine lv_iload_n hx hb ldL_law_860 rfl (lv_at hl 0 rfl) ?_
  refine lv_iconst (v := zI 2) hx hb ldL_law_861 rfl ?_
  refine z_iadd (z := (i : Int) + 2) hx hb ldL_law_862 (by omega) ?_
  refine va_sld hx hb hX hbl hbA w.2.2.1 (vpi hix2.1 (by rw [hix2.2]; omega)) ldL_law_863 ?_
  refine r_val ((congrArg xs hix2.2).trans ex2) ?_
  refine k_Vi F w (As := [.int (zI x1), .int (zI x2)]) (rest := []) (a := 146) (kd_lt (a := 146) (show kd 146 = (12, 0, 0) from rfl) (by decide)) (sh_12 rfl _ _) rfl (q_X12_spell (x := x1) ⟨by omega, by omega⟩ (x1 := x2) ⟨by omega, by omega⟩ hJ4.1.2.1) lgv_L_106 lhv_X12_spell ⟨(Nat.le_of_ble_eq_true rfl), (Nat.le_of_ble_eq_true rfl)⟩ hl.1 rfl (Nat.le_of_ble_eq_true rfl) ⟨(Nat.le_of_ble_eq_true rfl), (Nat.le_of_ble_eq_true rfl)⟩ ldL_law_864 (fun r5 N6 H locs hp w => ?_)
  obtain ⟨z7, rfl, bz7, hIN6, hFN6⟩ := hp
  have hJ8 := Jg.r hJ4 hIN6 hFN6 (fun b9 k9 h => by (try dsimp only at h); rcases h with ⟨rfl, rfl⟩ | ⟨rfl, rfl⟩ | ⟨rfl, rfl⟩ | rfl | rfl <;> first | decide | omega) (isTr.F hJ4.1.2.2.2.1 hFN6 (by first | decide | (dsimp only; first | done | decide | omega) | omega) (fun k9 => by first | decide | (dsimp only; first | done | decide | omega) | omega)) (hJ4.1.2.2.2.2.2) (hJ4.2.2.F hFN6 (fun k9 => by first | decide | (dsimp only; first | done | decide | omega) | omega) (fun k9 => by first | decide | (dsimp only; first | done | decide | omega) | omega) (fun k9 => by first | decide | (dsimp only; first | done | decide | omega) | omega) (by first | decide | (dsimp only; first | done | decide | omega) | omega) (by first | decide | (dsimp only; first | done | decide | omega) | omega))
  refine lv_pop hx hb ldL_law_867 rfl ?_
  refine lv_goto (tgt := 1065) hx hb ldL_law_868 (by decide) ?_
  exact kk _ _ _ (Jx.of hJ8 rfl (by omega) rfl rfl rfl (alF.e hb1 hb2) hHG) w
theorem ldL_law_871 : decode cL_law 871 = .ok (.aload_n 1, 1) := dq0 kk_43 (by decide +kernel)
theorem ldL_law_872 : decode cL_law 872 = .ok (.aload_n 0, 1) := dq0 kk_42 (by decide +kernel)
theorem ldL_law_873 : decode cL_law 873 = .ok (.iload_n 3, 1) := dq0 kk_29 (by decide +kernel)
theorem ldL_law_874 : decode cL_law 874 = .ok (.iconst 1, 1) := dq0 kk_4 (by decide +kernel)
theorem ldL_law_875 : decode cL_law 875 = .ok (.iadd, 1) := dq0 kk_96 (by decide +kernel)
theorem ldL_law_876 : decode cL_law 876 = .ok (.iaload, 1) := dq0 kk_46 (by decide +kernel)
theorem ldL_law_877 : decode cL_law 877 = .ok (.aload_n 0, 1) := dq0 kk_42 (by decide +kernel)
theorem ldL_law_878 : decode cL_law 878 = .ok (.iload_n 3, 1) := dq0 kk_29 (by decide +kernel)
theorem ldL_law_879 : decode cL_law 879 = .ok (.iconst 2, 1) := dq0 kk_5 (by decide +kernel)
theorem ldL_law_880 : decode cL_law 880 = .ok (.iadd, 1) := dq0 kk_96 (by decide +kernel)
theorem ldL_law_881 : decode cL_law 881 = .ok (.iaload, 1) := dq0 kk_46 (by decide +kernel)
theorem ldL_law_882 : decode cL_law 882 = .ok (.invokevirtual 107, 3) := dqV kk_182 (by decide +kernel)
theorem ltk_X11_rule : Cond.code yX11_rule cX11_rule 3 (some .int) ∈ TB := tbm (tc4 (List.mem_of_getElem? (i := 205) rfl)) rfl
theorem lgc_X11_rule : GoodIn TB (cw yX11_rule cX11_rule 3 (some .int)) := goodIn_c2 ltk_X11_rule
theorem ltb_128 : Cond.methodLink "ToneLinesLaw" 107 yX11_rule ∈ TB := tbm (tc4 (List.mem_of_getElem? (i := 202) rfl)) rfl
theorem ltb_129 : Cond.instanceMethod yX11_rule ∈ TB := tbm (tc4 (List.mem_of_getElem? (i := 203) rfl)) rfl
theorem ltb_130 : Cond.selects "ToneLines" yX11_rule yX11_rule ∈ TB := tbm (tc4 (List.mem_of_getElem? (i := 204) rfl)) rfl
theorem lgv_L_107 : GoodIn TB (wsV RL 107 RX11 yX11_rule (cw yX11_rule cX11_rule 3 (some .int))) := goodIn_4 ltb_128 ltb_129 ltb_130 ltb_3 lgc_X11_rule
theorem lhv_X11_rule : yX11_rule.cls = RX11 ∧ yX11_rule.cls ≠ "java/lang/invoke/MethodHandle" ∧ yX11_rule.cls ≠ "java/lang/invoke/VarHandle" ∧ (parseMethodDescriptor yX11_rule.desc).map (fun d => d.parameters.length) = some 2 := by decide +kernel
theorem ldL_law_885 : decode cL_law 885 = .ok (.pop, 1) := dq0 kk_87 (by decide +kernel)
theorem ldL_law_886 : decode cL_law 886 = .ok (.aload_n 2, 1) := dq0 kk_44 (by decide +kernel)
theorem ldL_law_887 : decode cL_law 887 = .ok (.aload_n 0, 1) := dq0 kk_42 (by decide +kernel)
theorem ldL_law_888 : decode cL_law 888 = .ok (.iload_n 3, 1) := dq0 kk_29 (by decide +kernel)
theorem ldL_law_889 : decode cL_law 889 = .ok (.iconst 1, 1) := dq0 kk_4 (by decide +kernel)
theorem ldL_law_890 : decode cL_law 890 = .ok (.iadd, 1) := dq0 kk_96 (by decide +kernel)
theorem ldL_law_891 : decode cL_law 891 = .ok (.iaload, 1) := dq0 kk_46 (by decide +kernel)
theorem ldL_law_892 : decode cL_law 892 = .ok (.aload_n 0, 1) := dq0 kk_42 (by decide +kernel)
theorem ldL_law_893 : decode cL_law 893 = .ok (.iload_n 3, 1) := dq0 kk_29 (by decide +kernel)
theorem ldL_law_894 : decode cL_law 894 = .ok (.iconst 2, 1) := dq0 kk_5 (by decide +kernel)
theorem ldL_law_895 : decode cL_law 895 = .ok (.iadd, 1) := dq0 kk_96 (by decide +kernel)
theorem ldL_law_896 : decode cL_law 896 = .ok (.iaload, 1) := dq0 kk_46 (by decide +kernel)
theorem ldL_law_897 : decode cL_law 897 = .ok (.invokevirtual 110, 3) := dqV kk_182 (by decide +kernel)
theorem ltk_X12_rule : Cond.code yX12_rule cX12_rule 3 (some .int) ∈ TB := tbm (tc6 (List.mem_of_getElem? (i := 228) rfl)) rfl
theorem lgc_X12_rule : GoodIn TB (cw yX12_rule cX12_rule 3 (some .int)) := goodIn_c2 ltk_X12_rule
theorem ltb_131 : Cond.methodLink "ToneLinesLaw" 110 yX12_rule ∈ TB := tbm (tc6 (List.mem_of_getElem? (i := 225) rfl)) rfl
theorem ltb_132 : Cond.instanceMethod yX12_rule ∈ TB := tbm (tc6 (List.mem_of_getElem? (i := 226) rfl)) rfl
theorem ltb_133 : Cond.selects "ToneLinesModel" yX12_rule yX12_rule ∈ TB := tbm (tc6 (List.mem_of_getElem? (i := 227) rfl)) rfl
theorem lgv_L_110 : GoodIn TB (wsV RL 110 RX12 yX12_rule (cw yX12_rule cX12_rule 3 (some .int))) := goodIn_4 ltb_131 ltb_132 ltb_133 ltb_7 lgc_X12_rule
theorem lhv_X12_rule : yX12_rule.cls = RX12 ∧ yX12_rule.cls ≠ "java/lang/invoke/MethodHandle" ∧ yX12_rule.cls ≠ "java/lang/invoke/VarHandle" ∧ (parseMethodDescriptor yX12_rule.desc).map (fun d => d.parameters.length) = some 2 := by decide +kernel
theorem ldL_law_900 : decode cL_law 900 = .ok (.pop, 1) := dq0 kk_87 (by decide +kernel)
theorem ldL_law_901 : decode cL_law 901 = .ok (.goto 164, 3) := dqT kk_167 (by decide +kernel)
set_option maxRecDepth 8000 in
set_option maxHeartbeats 1000000 in
theorem lc_21 {p : Program} {l : Launch} {e : Env} {s : State} {m : MethodId} {below : List Frame} {meth : Method} {c : Code} {D : va_G} {B b L : Nat} {cy : Nat → ClassId} {H : Heap} {locs : List Loc} {ls : Array Slot} {xs : Nat → Int32} {M : Mem} {Q : State → Prop} {i : Nat} (F : CallFix p m c code 4 s #[Value.ref b] TB RL) (hX : va_X b L xs s s.heap) (hbl : b < s.heap.size) (hbA : ¬ B ≤ b) (hi : i + 6 ≤ L) (hL : L ≤ 3072) (hJx : Jx M) (w : Wd D B cy s s.heap M H locs) (hl : lv_has ls 4 [(3, .int (zI (i : Int))), (2, .ref (B + 146)), (1, .ref (B + 0)), (0, .ref b)]) (kk : ∀ (M1 : Mem) (H1 : Heap) (locs1 : List Loc), Jx M1 → Wd D B cy s s.heap M1 H1 locs1 → W p l e room_1 s m #[Value.ref b] below meth c H1 locs1 159 13107 Q (F0 m 1065 ls [])) : W p l e room_1 s m #[Value.ref b] below meth c H locs 159 13107 Q (F0 m 871 ls []) := by
  have hx := F.1
  have hb := F.2.1
  obtain ⟨T, tn, Ps, mr, xw, Hs, kw, yw, Gs, hJ, hxy, hHG⟩ := hJx
  obtain ⟨qw, hv, ed, hv2, ed2, o, rfl, rfl, hb1, hb2⟩ := hxy.i
  have hta := hJ.1.2.2.2.2.1.1
  have hix1 := ix_z (z := (i : Int) + 1) (by omega) (by omega)
  obtain ⟨x1, bx1, ex1⟩ := rg_ex (xs ((i : Int) + 1).toNat)
  have hix2 := ix_z (z := (i : Int) + 2) (by omega) (by omega)
  obtain ⟨x2, bx2, ex2⟩ := rg_ex (xs ((i : Int) + 2).toNat)
  refine lv_aload_n hx hb ldL_law_871 rfl (lv_at hl 2 rfl) ?_
  refine lv_aload_n hx hb ldL_law_872 rfl (lv_at hl 3 rfl) ?_
  refine lv_iload_n hx hb ldL_law_873 rfl (lv_at hl 0 rfl) ?_
  refine lv_iconst (v := zI 1) hx hb ldL_law_874 rfl ?_
  refine z_iadd (z := (i : Int) + 1) hx hb ldL_law_875 (by omega) ?_
  refine va_sld hx hb hX hbl hbA w.2.2.1 (vpi hix1.1 (by rw [hix1.2]; omega)) ldL_law_876 ?_
  refine r_val ((congrArg xs hix1.2).trans ex1) ?_
  refine lv_aload_n hx hb ldL_law_877 rfl (lv_at hl 3 rfl) ?_
  refine lv_iload_n hx hb ldL_law_878 rfl (lv_at hl 0 rfl) ?_
  refine lv_iconst (v := zI 2) hx hb ldL_law_879 rfl ?_
  refine z_iadd (z := (i : Int) + 2) hx hb ldL_law_880 (by omega) ?_
  refine va_sld hx hb hX hbl hbA w.2.2.1 (vpi hix2.1 (by rw [hix2.2]; omega)) ldL_law_881 ?_
  refine r_val ((congrArg xs hix2.2).trans ex2) ?_
  refine k_Vi F w (As := [.int (zI x1), .int (zI x2)]) (rest := []) (a := 0) (kd_lt (a := 0) (show kd 0 = (11, 0, 0) from rfl) (by decide)) (sh_11 rfl _ _) rfl (q_X11_rule (x := x1) ⟨by omega, by omega⟩ (x1 := x2) ⟨by omega, by omega⟩ hJ.1.1) lgv_L_107 lhv_X11_rule ⟨(Nat.le_of_ble_eq_true rfl), (Nat.le_of_ble_eq_true rfl)⟩ hl.1 rfl (Nat.le_of_ble_eq_true rfl) ⟨(Nat.le_of_ble_eq_true rfl), (Nat.le_of_ble_eq_true rfl)⟩ ldL_law_882 (fun r1 N2 H locs hp w => ?_)
  obtain ⟨z3, rfl, bz3, hMN2⟩ := hp
  rw [hMN2] at w
  refine lv_pop hx hb ldL_law_885 rfl ?_
  refine lv_aload_n hx hb ldL_law_886 rfl (lv_at hl 1 rfl) ?_
  refine lv_aload_n hx hb ldL_law_887 rfl (lv_at hl 3 rfl) ?_
  refine lv_iload_n hx hb ldL_law_888 rfl (lv_at hl 0 rfl) ?_
  refine lv_iconst (v := zI 1) hx hb ldL_law_889 rfl ?_
  refine z_iadd (z := (i : Int) + 1) hx hb ldL_law_890 (by omega) ?_
  refine va_sld hx hb hX hbl hbA w.2.2.1 (vpi hix1.1 (by rw [hix1.2]; omega)) ldL_law_891 ?_
  refine r_val ((congrArg xs hix1.2).trans ex1) ?_
  refine lv_aload_n hx hb ldL_law_892 rfl (lv_at hl 3 rfl) ?_
  refine lv_iload_n hx hb ldL_law_893 rfl (lv_at hl 0 rfl) ?_
  refine lv_iconst (v := zI 2) hx hb ldL_law_894 rfl ?_
  refine z_iadd (z := (i : Int) + 2) hx hb ldL_law_895 (by omega) ?_
  refine va_sld hx hb hX hbl hbA w.2.2.1 (vpi hix2.1 (by rw [hix2.2]; omega)) ldL_law_896 ?_
  refine r_val ((congrArg xs hix2.2).trans ex2) ?_
  refine k_Vi F w (As := [.int (zI x1), .int (zI x2)]) (rest := []) (a := 146) (kd_lt (a := 146) (show kd 146 = (12, 0, 0) from rfl) (by decide)) (sh_12 rfl _ _) rfl (q_X12_rule (x := x1) ⟨by omega, by omega⟩ (x1 := x2) ⟨by omega, by omega⟩ hJ.1.2.1) lgv_L_110 lhv_X12_rule ⟨(Nat.le_of_ble_eq_true rfl), (Nat.le_of_ble_eq_true rfl)⟩ hl.1 rfl (Nat.le_of_ble_eq_true rfl) ⟨(Nat.le_of_ble_eq_true rfl), (Nat.le_of_ble_eq_true rfl)⟩ ldL_law_897 (fun r4 N5 H locs hp w => ?_)
  obtain ⟨z6, rfl, bz6, hMN5⟩ := hp
  rw [hMN5] at w
  refine lv_pop hx hb ldL_law_900 rfl ?_
  refine lv_goto (tgt := 1065) hx hb ldL_law_901 (by decide) ?_
  exact kk _ _ _ (Jx.of hJ rfl (by omega) rfl rfl rfl (alF.e hb1 hb2) hHG) w
theorem ldL_law_904 : decode cL_law 904 = .ok (.aload_n 1, 1) := dq0 kk_43 (by decide +kernel)
theorem ldL_law_905 : decode cL_law 905 = .ok (.aload_n 0, 1) := dq0 kk_42 (by decide +kernel)
theorem ldL_law_906 : decode cL_law 906 = .ok (.iload_n 3, 1) := dq0 kk_29 (by decide +kernel)
theorem ldL_law_907 : decode cL_law 907 = .ok (.iconst 1, 1) := dq0 kk_4 (by decide +kernel)
theorem ldL_law_908 : decode cL_law 908 = .ok (.iadd, 1) := dq0 kk_96 (by decide +kernel)
theorem ldL_law_909 : decode cL_law 909 = .ok (.iaload, 1) := dq0 kk_46 (by decide +kernel)
theorem ldL_law_910 : decode cL_law 910 = .ok (.aload_n 0, 1) := dq0 kk_42 (by decide +kernel)
theorem ldL_law_911 : decode cL_law 911 = .ok (.iload_n 3, 1) := dq0 kk_29 (by decide +kernel)
theorem ldL_law_912 : decode cL_law 912 = .ok (.iconst 2, 1) := dq0 kk_5 (by decide +kernel)
theorem ldL_law_913 : decode cL_law 913 = .ok (.iadd, 1) := dq0 kk_96 (by decide +kernel)
theorem ldL_law_914 : decode cL_law 914 = .ok (.iaload, 1) := dq0 kk_46 (by decide +kernel)
theorem ldL_law_915 : decode cL_law 915 = .ok (.invokevirtual 111, 3) := dqV kk_182 (by decide +kernel)
theorem ltk_X11_done : Cond.code yX11_done cX11_done 3 (some .int) ∈ TB := tbm (tc4 (List.mem_of_getElem? (i := 209) rfl)) rfl
theorem lgc_X11_done : GoodIn TB (cw yX11_done cX11_done 3 (some .int)) := goodIn_c2 ltk_X11_done
theorem ltb_134 : Cond.methodLink "ToneLinesLaw" 111 yX11_done ∈ TB := tbm (tc4 (List.mem_of_getElem? (i := 206) rfl)) rfl
theorem ltb_135 : Cond.instanceMethod yX11_done ∈ TB := tbm (tc4 (List.mem_of_getElem? (i := 207) rfl)) rfl
theorem ltb_136 : Cond.selects "ToneLines" yX11_done yX11_done ∈ TB := tbm (tc4 (List.mem_of_getElem? (i := 208) rfl)) rfl
theorem lgv_L_111 : GoodIn TB (wsV RL 111 RX11 yX11_done (cw yX11_done cX11_done 3 (some .int))) := goodIn_4 ltb_134 ltb_135 ltb_136 ltb_3 lgc_X11_done
theorem lhv_X11_done : yX11_done.cls = RX11 ∧ yX11_done.cls ≠ "java/lang/invoke/MethodHandle" ∧ yX11_done.cls ≠ "java/lang/invoke/VarHandle" ∧ (parseMethodDescriptor yX11_done.desc).map (fun d => d.parameters.length) = some 2 := by decide +kernel
theorem ldL_law_918 : decode cL_law 918 = .ok (.pop, 1) := dq0 kk_87 (by decide +kernel)
theorem ldL_law_919 : decode cL_law 919 = .ok (.aload_n 2, 1) := dq0 kk_44 (by decide +kernel)
theorem ldL_law_920 : decode cL_law 920 = .ok (.aload_n 0, 1) := dq0 kk_42 (by decide +kernel)
theorem ldL_law_921 : decode cL_law 921 = .ok (.iload_n 3, 1) := dq0 kk_29 (by decide +kernel)
theorem ldL_law_922 : decode cL_law 922 = .ok (.iconst 1, 1) := dq0 kk_4 (by decide +kernel)
theorem ldL_law_923 : decode cL_law 923 = .ok (.iadd, 1) := dq0 kk_96 (by decide +kernel)
theorem ldL_law_924 : decode cL_law 924 = .ok (.iaload, 1) := dq0 kk_46 (by decide +kernel)
theorem ldL_law_925 : decode cL_law 925 = .ok (.aload_n 0, 1) := dq0 kk_42 (by decide +kernel)
theorem ldL_law_926 : decode cL_law 926 = .ok (.iload_n 3, 1) := dq0 kk_29 (by decide +kernel)
theorem ldL_law_927 : decode cL_law 927 = .ok (.iconst 2, 1) := dq0 kk_5 (by decide +kernel)
theorem ldL_law_928 : decode cL_law 928 = .ok (.iadd, 1) := dq0 kk_96 (by decide +kernel)
theorem ldL_law_929 : decode cL_law 929 = .ok (.iaload, 1) := dq0 kk_46 (by decide +kernel)
theorem ldL_law_930 : decode cL_law 930 = .ok (.invokevirtual 114, 3) := dqV kk_182 (by decide +kernel)
theorem ltk_X12_done : Cond.code yX12_done cX12_done 4 (some .int) ∈ TB := tbm (tc6 (List.mem_of_getElem? (i := 232) rfl)) rfl
theorem lgc_X12_done : GoodIn TB (cw yX12_done cX12_done 4 (some .int)) := goodIn_c2 ltk_X12_done
theorem ltb_137 : Cond.methodLink "ToneLinesLaw" 114 yX12_done ∈ TB := tbm (tc6 (List.mem_of_getElem? (i := 229) rfl)) rfl
theorem ltb_138 : Cond.instanceMethod yX12_done ∈ TB := tbm (tc6 (List.mem_of_getElem? (i := 230) rfl)) rfl
theorem ltb_139 : Cond.selects "ToneLinesModel" yX12_done yX12_done ∈ TB := tbm (tc6 (List.mem_of_getElem? (i := 231) rfl)) rfl
theorem lgv_L_114 : GoodIn TB (wsV RL 114 RX12 yX12_done (cw yX12_done cX12_done 4 (some .int))) := goodIn_4 ltb_137 ltb_138 ltb_139 ltb_7 lgc_X12_done
theorem lhv_X12_done : yX12_done.cls = RX12 ∧ yX12_done.cls ≠ "java/lang/invoke/MethodHandle" ∧ yX12_done.cls ≠ "java/lang/invoke/VarHandle" ∧ (parseMethodDescriptor yX12_done.desc).map (fun d => d.parameters.length) = some 2 := by decide +kernel
theorem ldL_law_933 : decode cL_law 933 = .ok (.pop, 1) := dq0 kk_87 (by decide +kernel)
theorem ldL_law_934 : decode cL_law 934 = .ok (.goto 131, 3) := dqT kk_167 (by decide +kernel)
set_option maxRecDepth 8000 in
set_option maxHeartbeats 1000000 in
theorem lc_22 {p : Program} {l : Launch} {e : Env} {s : State} {m : MethodId} {below : List Frame} {meth : Method} {c : Code} {D : va_G} {B b L : Nat} {cy : Nat → ClassId} {H : Heap} {locs : List Loc} {ls : Array Slot} {xs : Nat → Int32} {M : Mem} {Q : State → Prop} {i : Nat} (F : CallFix p m c code 4 s #[Value.ref b] TB RL) (hX : va_X b L xs s s.heap) (hbl : b < s.heap.size) (hbA : ¬ B ≤ b) (hi : i + 6 ≤ L) (hL : L ≤ 3072) (hJx : Jx M) (w : Wd D B cy s s.heap M H locs) (hl : lv_has ls 4 [(3, .int (zI (i : Int))), (2, .ref (B + 146)), (1, .ref (B + 0)), (0, .ref b)]) (kk : ∀ (M1 : Mem) (H1 : Heap) (locs1 : List Loc), Jx M1 → Wd D B cy s s.heap M1 H1 locs1 → W p l e room_1 s m #[Value.ref b] below meth c H1 locs1 159 13107 Q (F0 m 1065 ls [])) : W p l e room_1 s m #[Value.ref b] below meth c H locs 159 13107 Q (F0 m 904 ls []) := by
  have hx := F.1
  have hb := F.2.1
  obtain ⟨T, tn, Ps, mr, xw, Hs, kw, yw, Gs, hJ, hxy, hHG⟩ := hJx
  obtain ⟨qw, hv, ed, hv2, ed2, o, rfl, rfl, hb1, hb2⟩ := hxy.i
  have hta := hJ.1.2.2.2.2.1.1
  have hix1 := ix_z (z := (i : Int) + 1) (by omega) (by omega)
  obtain ⟨x1, bx1, ex1⟩ := rg_ex (xs ((i : Int) + 1).toNat)
  have hix2 := ix_z (z := (i : Int) + 2) (by omega) (by omega)
  obtain ⟨x2, bx2, ex2⟩ := rg_ex (xs ((i : Int) + 2).toNat)
  refine lv_aload_n hx hb ldL_law_904 rfl (lv_at hl 2 rfl) ?_
  refine lv_aload_n hx hb ldL_law_905 rfl (lv_at hl 3 rfl) ?_
  refine lv_iload_n hx hb ldL_law_906 rfl (lv_at hl 0 rfl) ?_
  refine lv_iconst (v := zI 1) hx hb ldL_law_907 rfl ?_
  refine z_iadd (z := (i : Int) + 1) hx hb ldL_law_908 (by omega) ?_
  refine va_sld hx hb hX hbl hbA w.2.2.1 (vpi hix1.1 (by rw [hix1.2]; omega)) ldL_law_909 ?_
  refine r_val ((congrArg xs hix1.2).trans ex1) ?_
  refine lv_aload_n hx hb ldL_law_910 rfl (lv_at hl 3 rfl) ?_
  refine lv_iload_n hx hb ldL_law_911 rfl (lv_at hl 0 rfl) ?_
  refine lv_iconst (v := zI 2) hx hb ldL_law_912 rfl ?_
  refine z_iadd (z := (i : Int) + 2) hx hb ldL_law_913 (by omega) ?_
  refine va_sld hx hb hX hbl hbA w.2.2.1 (vpi hix2.1 (by rw [hix2.2]; omega)) ldL_law_914 ?_
  refine r_val ((congrArg xs hix2.2).trans ex2) ?_
  refine k_Vi F w (As := [.int (zI x1), .int (zI x2)]) (rest := []) (a := 0) (kd_lt (a := 0) (show kd 0 = (11, 0, 0) from rfl) (by decide)) (sh_11 rfl _ _) rfl (gq_X11_done (x := x1) ⟨by omega, by omega⟩ (x1 := x2) ⟨by omega, by omega⟩ ⟨hJ.1.1, hJ.2.1⟩) lgv_L_111 lhv_X11_done ⟨(Nat.le_of_ble_eq_true rfl), (Nat.le_of_ble_eq_true rfl)⟩ hl.1 rfl (Nat.le_of_ble_eq_true rfl) ⟨(Nat.le_of_ble_eq_true rfl), (Nat.le_of_ble_eq_true rfl)⟩ ldL_law_915 (fun r1 N2 H locs hp w => ?_)
  obtain ⟨z3, rfl, bz3, hIN2, hFN2⟩ := hp
  have hJ4 := Jg.c hJ hIN2.1 hFN2 (fun b9 k9 h => by (try dsimp only at h); rcases h with ⟨rfl, rfl⟩ | ⟨rfl, rfl⟩ | rfl | rfl | ⟨q1, q2⟩ <;> first | decide | omega) (isTc.F hJ.1.2.2.1 hFN2 (by first | decide | (dsimp only; first | done | decide | omega) | omega) (fun k9 => by first | decide | (dsimp only; first | done | decide | omega) | omega)) (hJ.1.2.2.2.2.1) (hIN2.2)
  refine lv_pop hx hb ldL_law_918 rfl ?_
  refine lv_aload_n hx hb ldL_law_919 rfl (lv_at hl 1 rfl) ?_
  refine lv_aload_n hx hb ldL_law_920 rfl (lv_at hl 3 rfl) ?_
  refine lv_iload_n hx hb ldL_law_921 rfl (lv_at hl 0 rfl) ?_
  refine lv_iconst (v := zI 1) hx hb ldL_law_922 rfl ?_
  refine z_iadd (z := (i : Int) + 1) hx hb ldL_law_923 (by omega) ?_
  refine va_sld hx hb hX hbl hbA w.2.2.1 (vpi hix1.1 (by rw [hix1.2]; omega)) ldL_law_924 ?_
  refine r_val ((congrArg xs hix1.2).trans ex1) ?_
  refine lv_aload_n hx hb ldL_law_925 rfl (lv_at hl 3 rfl) ?_
  refine lv_iload_n hx hb ldL_law_926 rfl (lv_at hl 0 rfl) ?_
  refine lv_iconst (v := zI 2) hx hb ldL_law_927 rfl ?_
  refine z_iadd (z := (i : Int) + 2) hx hb ldL_law_928 (by omega) ?_
  refine va_sld hx hb hX hbl hbA w.2.2.1 (vpi hix2.1 (by rw [hix2.2]; omega)) ldL_law_929 ?_
  refine r_val ((congrArg xs hix2.2).trans ex2) ?_
  refine k_Vi F w (As := [.int (zI x1), .int (zI x2)]) (rest := []) (a := 146) (kd_lt (a := 146) (show kd 146 = (12, 0, 0) from rfl) (by decide)) (sh_12 rfl _ _) rfl (q_X12_done (x := x1) ⟨by omega, by omega⟩ (x1 := x2) ⟨by omega, by omega⟩ hJ4.1.2.1) lgv_L_114 lhv_X12_done ⟨(Nat.le_of_ble_eq_true rfl), (Nat.le_of_ble_eq_true rfl)⟩ hl.1 rfl (Nat.le_of_ble_eq_true rfl) ⟨(Nat.le_of_ble_eq_true rfl), (Nat.le_of_ble_eq_true rfl)⟩ ldL_law_930 (fun r5 N6 H locs hp w => ?_)
  obtain ⟨z7, rfl, bz7, hIN6, hFN6⟩ := hp
  have hJ8 := Jg.r hJ4 hIN6 hFN6 (fun b9 k9 h => by (try dsimp only at h); rcases h with ⟨rfl, rfl⟩ | ⟨rfl, rfl⟩ | rfl <;> first | decide | omega) (isTr.F hJ4.1.2.2.2.1 hFN6 (by first | decide | (dsimp only; first | done | decide | omega) | omega) (fun k9 => by first | decide | (dsimp only; first | done | decide | omega) | omega)) (hJ4.1.2.2.2.2.2) (hJ4.2.2.F hFN6 (fun k9 => by first | decide | (dsimp only; first | done | decide | omega) | omega) (fun k9 => by first | decide | (dsimp only; first | done | decide | omega) | omega) (fun k9 => by first | decide | (dsimp only; first | done | decide | omega) | omega) (by first | decide | (dsimp only; first | done | decide | omega) | omega) (by first | decide | (dsimp only; first | done | decide | omega) | omega))
  refine lv_pop hx hb ldL_law_933 rfl ?_
  refine lv_goto (tgt := 1065) hx hb ldL_law_934 (by decide) ?_
  exact kk _ _ _ (Jx.of hJ8 rfl (by omega) rfl rfl rfl (alF.e hb1 hb2) hHG) w
theorem ldL_law_937 : decode cL_law 937 = .ok (.aload_n 1, 1) := dq0 kk_43 (by decide +kernel)
theorem ldL_law_938 : decode cL_law 938 = .ok (.aload_n 0, 1) := dq0 kk_42 (by decide +kernel)
theorem ldL_law_939 : decode cL_law 939 = .ok (.iload_n 3, 1) := dq0 kk_29 (by decide +kernel)
theorem ldL_law_940 : decode cL_law 940 = .ok (.iconst 1, 1) := dq0 kk_4 (by decide +kernel)
theorem ldL_law_941 : decode cL_law 941 = .ok (.iadd, 1) := dq0 kk_96 (by decide +kernel)
theorem ldL_law_942 : decode cL_law 942 = .ok (.iaload, 1) := dq0 kk_46 (by decide +kernel)
theorem ldL_law_943 : decode cL_law 943 = .ok (.invokevirtual 115, 3) := dqV kk_182 (by decide +kernel)
theorem ltk_X11_exchanged : Cond.code yX11_exchanged cX11_exchanged 2 (some .int) ∈ TB := tbm (tc4 (List.mem_of_getElem? (i := 213) rfl)) rfl
theorem lgc_X11_exchanged : GoodIn TB (cw yX11_exchanged cX11_exchanged 2 (some .int)) := goodIn_c2 ltk_X11_exchanged
theorem ltb_140 : Cond.methodLink "ToneLinesLaw" 115 yX11_exchanged ∈ TB := tbm (tc4 (List.mem_of_getElem? (i := 210) rfl)) rfl
theorem ltb_141 : Cond.instanceMethod yX11_exchanged ∈ TB := tbm (tc4 (List.mem_of_getElem? (i := 211) rfl)) rfl
theorem ltb_142 : Cond.selects "ToneLines" yX11_exchanged yX11_exchanged ∈ TB := tbm (tc4 (List.mem_of_getElem? (i := 212) rfl)) rfl
theorem lgv_L_115 : GoodIn TB (wsV RL 115 RX11 yX11_exchanged (cw yX11_exchanged cX11_exchanged 2 (some .int))) := goodIn_4 ltb_140 ltb_141 ltb_142 ltb_3 lgc_X11_exchanged
theorem lhv_X11_exchanged : yX11_exchanged.cls = RX11 ∧ yX11_exchanged.cls ≠ "java/lang/invoke/MethodHandle" ∧ yX11_exchanged.cls ≠ "java/lang/invoke/VarHandle" ∧ (parseMethodDescriptor yX11_exchanged.desc).map (fun d => d.parameters.length) = some 1 := by decide +kernel
theorem ldL_law_946 : decode cL_law 946 = .ok (.pop, 1) := dq0 kk_87 (by decide +kernel)
theorem ldL_law_947 : decode cL_law 947 = .ok (.aload_n 2, 1) := dq0 kk_44 (by decide +kernel)
theorem ldL_law_948 : decode cL_law 948 = .ok (.aload_n 0, 1) := dq0 kk_42 (by decide +kernel)
theorem ldL_law_949 : decode cL_law 949 = .ok (.iload_n 3, 1) := dq0 kk_29 (by decide +kernel)
theorem ldL_law_950 : decode cL_law 950 = .ok (.iconst 1, 1) := dq0 kk_4 (by decide +kernel)
theorem ldL_law_951 : decode cL_law 951 = .ok (.iadd, 1) := dq0 kk_96 (by decide +kernel)
theorem ldL_law_952 : decode cL_law 952 = .ok (.iaload, 1) := dq0 kk_46 (by decide +kernel)
theorem ldL_law_953 : decode cL_law 953 = .ok (.invokevirtual 118, 3) := dqV kk_182 (by decide +kernel)
theorem ltk_X12_exchanged : Cond.code yX12_exchanged cX12_exchanged 3 (some .int) ∈ TB := tbm (tc6 (List.mem_of_getElem? (i := 236) rfl)) rfl
theorem lgc_X12_exchanged : GoodIn TB (cw yX12_exchanged cX12_exchanged 3 (some .int)) := goodIn_c2 ltk_X12_exchanged
theorem ltb_143 : Cond.methodLink "ToneLinesLaw" 118 yX12_exchanged ∈ TB := tbm (tc6 (List.mem_of_getElem? (i := 233) rfl)) rfl
theorem ltb_144 : Cond.instanceMethod yX12_exchanged ∈ TB := tbm (tc6 (List.mem_of_getElem? (i := 234) rfl)) rfl
theorem ltb_145 : Cond.selects "ToneLinesModel" yX12_exchanged yX12_exchanged ∈ TB := tbm (tc6 (List.mem_of_getElem? (i := 235) rfl)) rfl
theorem lgv_L_118 : GoodIn TB (wsV RL 118 RX12 yX12_exchanged (cw yX12_exchanged cX12_exchanged 3 (some .int))) := goodIn_4 ltb_143 ltb_144 ltb_145 ltb_7 lgc_X12_exchanged
theorem lhv_X12_exchanged : yX12_exchanged.cls = RX12 ∧ yX12_exchanged.cls ≠ "java/lang/invoke/MethodHandle" ∧ yX12_exchanged.cls ≠ "java/lang/invoke/VarHandle" ∧ (parseMethodDescriptor yX12_exchanged.desc).map (fun d => d.parameters.length) = some 1 := by decide +kernel
theorem ldL_law_956 : decode cL_law 956 = .ok (.pop, 1) := dq0 kk_87 (by decide +kernel)
theorem ldL_law_957 : decode cL_law 957 = .ok (.goto 108, 3) := dqT kk_167 (by decide +kernel)
set_option maxRecDepth 8000 in
set_option maxHeartbeats 1000000 in
theorem lc_23 {p : Program} {l : Launch} {e : Env} {s : State} {m : MethodId} {below : List Frame} {meth : Method} {c : Code} {D : va_G} {B b L : Nat} {cy : Nat → ClassId} {H : Heap} {locs : List Loc} {ls : Array Slot} {xs : Nat → Int32} {M : Mem} {Q : State → Prop} {i : Nat} (F : CallFix p m c code 4 s #[Value.ref b] TB RL) (hX : va_X b L xs s s.heap) (hbl : b < s.heap.size) (hbA : ¬ B ≤ b) (hi : i + 6 ≤ L) (hL : L ≤ 3072) (hJx : Jx M) (w : Wd D B cy s s.heap M H locs) (hl : lv_has ls 4 [(3, .int (zI (i : Int))), (2, .ref (B + 146)), (1, .ref (B + 0)), (0, .ref b)]) (kk : ∀ (M1 : Mem) (H1 : Heap) (locs1 : List Loc), Jx M1 → Wd D B cy s s.heap M1 H1 locs1 → W p l e room_1 s m #[Value.ref b] below meth c H1 locs1 159 13107 Q (F0 m 1065 ls [])) : W p l e room_1 s m #[Value.ref b] below meth c H locs 159 13107 Q (F0 m 937 ls []) := by
  have hx := F.1
  have hb := F.2.1
  obtain ⟨T, tn, Ps, mr, xw, Hs, kw, yw, Gs, hJ, hxy, hHG⟩ := hJx
  obtain ⟨qw, hv, ed, hv2, ed2, o, rfl, rfl, hb1, hb2⟩ := hxy.i
  have hta := hJ.1.2.2.2.2.1.1
  have hix1 := ix_z (z := (i : Int) + 1) (by omega) (by omega)
  obtain ⟨x1, bx1, ex1⟩ := rg_ex (xs ((i : Int) + 1).toNat)
  refine lv_aload_n hx hb ldL_law_937 rfl (lv_at hl 2 rfl) ?_
  refine lv_aload_n hx hb ldL_law_938 rfl (lv_at hl 3 rfl) ?_
  refine lv_iload_n hx hb ldL_law_939 rfl (lv_at hl 0 rfl) ?_
  refine lv_iconst (v := zI 1) hx hb ldL_law_940 rfl ?_
  refine z_iadd (z := (i : Int) + 1) hx hb ldL_law_941 (by omega) ?_
  refine va_sld hx hb hX hbl hbA w.2.2.1 (vpi hix1.1 (by rw [hix1.2]; omega)) ldL_law_942 ?_
  refine r_val ((congrArg xs hix1.2).trans ex1) ?_
  refine k_Vi F w (As := [.int (zI x1)]) (rest := []) (a := 0) (kd_lt (a := 0) (show kd 0 = (11, 0, 0) from rfl) (by decide)) (sh_11 rfl _ _) rfl (gq_X11_exchanged (x := x1) ⟨by omega, by omega⟩ ⟨hJ.1.1, hJ.2.1⟩) lgv_L_115 lhv_X11_exchanged ⟨(Nat.le_of_ble_eq_true rfl), (Nat.le_of_ble_eq_true rfl)⟩ hl.1 rfl (Nat.le_of_ble_eq_true rfl) ⟨(Nat.le_of_ble_eq_true rfl), (Nat.le_of_ble_eq_true rfl)⟩ ldL_law_943 (fun r1 N2 H locs hp w => ?_)
  obtain ⟨z3, rfl, bz3, hIN2, hFN2⟩ := hp
  have hJ4 := Jg.c hJ hIN2.1 hFN2 (fun b9 k9 h => by (try dsimp only at h); rcases h with ⟨rfl, rfl⟩ | ⟨rfl, rfl⟩ | rfl | rfl | rfl | rfl | rfl | ⟨q1, q2⟩ <;> first | decide | omega) (isTc.F hJ.1.2.2.1 hFN2 (by first | decide | (dsimp only; first | done | decide | omega) | omega) (fun k9 => by first | decide | (dsimp only; first | done | decide | omega) | omega)) (hJ.1.2.2.2.2.1) (hIN2.2)
  refine lv_pop hx hb ldL_law_946 rfl ?_
  refine lv_aload_n hx hb ldL_law_947 rfl (lv_at hl 1 rfl) ?_
  refine lv_aload_n hx hb ldL_law_948 rfl (lv_at hl 3 rfl) ?_
  refine lv_iload_n hx hb ldL_law_949 rfl (lv_at hl 0 rfl) ?_
  refine lv_iconst (v := zI 1) hx hb ldL_law_950 rfl ?_
  refine z_iadd (z := (i : Int) + 1) hx hb ldL_law_951 (by omega) ?_
  refine va_sld hx hb hX hbl hbA w.2.2.1 (vpi hix1.1 (by rw [hix1.2]; omega)) ldL_law_952 ?_
  refine r_val ((congrArg xs hix1.2).trans ex1) ?_
  refine k_Vi F w (As := [.int (zI x1)]) (rest := []) (a := 146) (kd_lt (a := 146) (show kd 146 = (12, 0, 0) from rfl) (by decide)) (sh_12 rfl _ _) rfl (q_X12_exchanged (x := x1) ⟨by omega, by omega⟩ hJ4.1.2.1) lgv_L_118 lhv_X12_exchanged ⟨(Nat.le_of_ble_eq_true rfl), (Nat.le_of_ble_eq_true rfl)⟩ hl.1 rfl (Nat.le_of_ble_eq_true rfl) ⟨(Nat.le_of_ble_eq_true rfl), (Nat.le_of_ble_eq_true rfl)⟩ ldL_law_953 (fun r5 N6 H locs hp w => ?_)
  obtain ⟨z7, rfl, bz7, hIN6, hFN6⟩ := hp
  have hJ8 := Jg.r hJ4 hIN6 hFN6 (fun b9 k9 h => by (try dsimp only at h); rcases h with ⟨rfl, rfl⟩ | ⟨rfl, rfl⟩ | rfl | rfl <;> first | decide | omega) (isTr.F hJ4.1.2.2.2.1 hFN6 (by first | decide | (dsimp only; first | done | decide | omega) | omega) (fun k9 => by first | decide | (dsimp only; first | done | decide | omega) | omega)) (hJ4.1.2.2.2.2.2) (hJ4.2.2.F hFN6 (fun k9 => by first | decide | (dsimp only; first | done | decide | omega) | omega) (fun k9 => by first | decide | (dsimp only; first | done | decide | omega) | omega) (fun k9 => by first | decide | (dsimp only; first | done | decide | omega) | omega) (by first | decide | (dsimp only; first | done | decide | omega) | omega) (by first | decide | (dsimp only; first | done | decide | omega) | omega))
  refine lv_pop hx hb ldL_law_956 rfl ?_
  refine lv_goto (tgt := 1065) hx hb ldL_law_957 (by decide) ?_
  exact kk _ _ _ (Jx.of hJ8 rfl (by omega) rfl rfl rfl (alF.e hb1 hb2) hHG) w
theorem ldL_law_960 : decode cL_law 960 = .ok (.aload_n 1, 1) := dq0 kk_43 (by decide +kernel)
theorem ldL_law_961 : decode cL_law 961 = .ok (.invokevirtual 119, 3) := dqV kk_182 (by decide +kernel)
theorem ltk_X11_needed : Cond.code yX11_needed cX11_needed 4 (some .int) ∈ TB := tbm (tc4 (List.mem_of_getElem? (i := 235) rfl)) rfl
theorem lgc_X11_needed : GoodIn TB (cw yX11_needed cX11_needed 4 (some .int)) := goodIn_c2 ltk_X11_needed
theorem ltb_146 : Cond.methodLink "ToneLinesLaw" 119 yX11_needed ∈ TB := tbm (tc4 (List.mem_of_getElem? (i := 232) rfl)) rfl
theorem ltb_147 : Cond.instanceMethod yX11_needed ∈ TB := tbm (tc4 (List.mem_of_getElem? (i := 233) rfl)) rfl
theorem ltb_148 : Cond.selects "ToneLines" yX11_needed yX11_needed ∈ TB := tbm (tc4 (List.mem_of_getElem? (i := 234) rfl)) rfl
theorem lgv_L_119 : GoodIn TB (wsV RL 119 RX11 yX11_needed (cw yX11_needed cX11_needed 4 (some .int))) := goodIn_4 ltb_146 ltb_147 ltb_148 ltb_3 lgc_X11_needed
theorem lhv_X11_needed : yX11_needed.cls = RX11 ∧ yX11_needed.cls ≠ "java/lang/invoke/MethodHandle" ∧ yX11_needed.cls ≠ "java/lang/invoke/VarHandle" ∧ (parseMethodDescriptor yX11_needed.desc).map (fun d => d.parameters.length) = some 0 := by decide +kernel
theorem ldL_law_964 : decode cL_law 964 = .ok (.pop, 1) := dq0 kk_87 (by decide +kernel)
theorem ldL_law_965 : decode cL_law 965 = .ok (.aload_n 2, 1) := dq0 kk_44 (by decide +kernel)
theorem ldL_law_966 : decode cL_law 966 = .ok (.invokevirtual 122, 3) := dqV kk_182 (by decide +kernel)
theorem ltk_X12_needed : Cond.code yX12_needed cX12_needed 4 (some .int) ∈ TB := tbm (tc7 (List.mem_of_getElem? (i := 8) rfl)) rfl
theorem lgc_X12_needed : GoodIn TB (cw yX12_needed cX12_needed 4 (some .int)) := goodIn_c2 ltk_X12_needed
theorem ltb_149 : Cond.methodLink "ToneLinesLaw" 122 yX12_needed ∈ TB := tbm (tc7 (List.mem_of_getElem? (i := 5) rfl)) rfl
theorem ltb_150 : Cond.instanceMethod yX12_needed ∈ TB := tbm (tc7 (List.mem_of_getElem? (i := 6) rfl)) rfl
theorem ltb_151 : Cond.selects "ToneLinesModel" yX12_needed yX12_needed ∈ TB := tbm (tc7 (List.mem_of_getElem? (i := 7) rfl)) rfl
theorem lgv_L_122 : GoodIn TB (wsV RL 122 RX12 yX12_needed (cw yX12_needed cX12_needed 4 (some .int))) := goodIn_4 ltb_149 ltb_150 ltb_151 ltb_7 lgc_X12_needed
theorem lhv_X12_needed : yX12_needed.cls = RX12 ∧ yX12_needed.cls ≠ "java/lang/invoke/MethodHandle" ∧ yX12_needed.cls ≠ "java/lang/invoke/VarHandle" ∧ (parseMethodDescriptor yX12_needed.desc).map (fun d => d.parameters.length) = some 0 := by decide +kernel
theorem ldL_law_969 : decode cL_law 969 = .ok (.pop, 1) := dq0 kk_87 (by decide +kernel)
theorem ldL_law_970 : decode cL_law 970 = .ok (.goto 95, 3) := dqT kk_167 (by decide +kernel)
set_option maxRecDepth 8000 in
set_option maxHeartbeats 1000000 in
theorem lc_24 {p : Program} {l : Launch} {e : Env} {s : State} {m : MethodId} {below : List Frame} {meth : Method} {c : Code} {D : va_G} {B b L : Nat} {cy : Nat → ClassId} {H : Heap} {locs : List Loc} {ls : Array Slot} {xs : Nat → Int32} {M : Mem} {Q : State → Prop} {i : Nat} (F : CallFix p m c code 4 s #[Value.ref b] TB RL) (hX : va_X b L xs s s.heap) (hbl : b < s.heap.size) (hbA : ¬ B ≤ b) (hi : i + 6 ≤ L) (hL : L ≤ 3072) (hJx : Jx M) (w : Wd D B cy s s.heap M H locs) (hl : lv_has ls 4 [(3, .int (zI (i : Int))), (2, .ref (B + 146)), (1, .ref (B + 0)), (0, .ref b)]) (kk : ∀ (M1 : Mem) (H1 : Heap) (locs1 : List Loc), Jx M1 → Wd D B cy s s.heap M1 H1 locs1 → W p l e room_1 s m #[Value.ref b] below meth c H1 locs1 159 13107 Q (F0 m 1065 ls [])) : W p l e room_1 s m #[Value.ref b] below meth c H locs 159 13107 Q (F0 m 960 ls []) := by
  have hx := F.1
  have hb := F.2.1
  obtain ⟨T, tn, Ps, mr, xw, Hs, kw, yw, Gs, hJ, hxy, hHG⟩ := hJx
  obtain ⟨qw, hv, ed, hv2, ed2, o, rfl, rfl, hb1, hb2⟩ := hxy.i
  have hta := hJ.1.2.2.2.2.1.1
  refine lv_aload_n hx hb ldL_law_960 rfl (lv_at hl 2 rfl) ?_
  refine k_Vi F w (As := []) (rest := []) (a := 0) (kd_lt (a := 0) (show kd 0 = (11, 0, 0) from rfl) (by decide)) (sh_11 rfl _ _) rfl (gq_X11_needed  ⟨hJ.1.1, hJ.2.1⟩) lgv_L_119 lhv_X11_needed ⟨(Nat.le_of_ble_eq_true rfl), (Nat.le_of_ble_eq_true rfl)⟩ hl.1 rfl (Nat.le_of_ble_eq_true rfl) ⟨(Nat.le_of_ble_eq_true rfl), (Nat.le_of_ble_eq_true rfl)⟩ ldL_law_961 (fun r1 N2 H locs hp w => ?_)
  obtain ⟨z3, rfl, bz3, hIN2, hFN2⟩ := hp
  have hJ4 := Jg.c hJ hIN2.1 hFN2 (fun b9 k9 h => by (try dsimp only at h); rcases h with ⟨rfl, rfl⟩ | ⟨rfl, rfl⟩ | rfl | rfl | rfl | rfl | rfl | ⟨q1, q2⟩ <;> first | decide | omega) (isTc.F hJ.1.2.2.1 hFN2 (by first | decide | (dsimp only; first | done | decide | omega) | omega) (fun k9 => by first | decide | (dsimp only; first | done | decide | omega) | omega)) (hJ.1.2.2.2.2.1) (hIN2.2)
  refine lv_pop hx hb ldL_law_964 rfl ?_
  refine lv_aload_n hx hb ldL_law_965 rfl (lv_at hl 1 rfl) ?_
  refine k_Vi F w (As := []) (rest := []) (a := 146) (kd_lt (a := 146) (show kd 146 = (12, 0, 0) from rfl) (by decide)) (sh_12 rfl _ _) rfl (q_X12_needed  hJ4.1.2.1) lgv_L_122 lhv_X12_needed ⟨(Nat.le_of_ble_eq_true rfl), (Nat.le_of_ble_eq_true rfl)⟩ hl.1 rfl (Nat.le_of_ble_eq_true rfl) ⟨(Nat.le_of_ble_eq_true rfl), (Nat.le_of_ble_eq_true rfl)⟩ ldL_law_966 (fun r5 N6 H locs hp w => ?_)
  obtain ⟨z7, rfl, bz7, hIN6, hFN6⟩ := hp
  have hJ8 := Jg.r hJ4 hIN6 hFN6 (fun b9 k9 h => by (try dsimp only at h); rcases h with ⟨rfl, rfl⟩ | ⟨rfl, rfl⟩ | rfl | rfl <;> first | decide | omega) (isTr.F hJ4.1.2.2.2.1 hFN6 (by first | decide | (dsimp only; first | done | decide | omega) | omega) (fun k9 => by first | decide | (dsimp only; first | done | decide | omega) | omega)) (hJ4.1.2.2.2.2.2) (hJ4.2.2.F hFN6 (fun k9 => by first | decide | (dsimp only; first | done | decide | omega) | omega) (fun k9 => by first | decide | (dsimp only; first | done | decide | omega) | omega) (fun k9 => by first | decide | (dsimp only; first | done | decide | omega) | omega) (by first | decide | (dsimp only; first | done | decide | omega) | omega) (by first | decide | (dsimp only; first | done | decide | omega) | omega))
  refine lv_pop hx hb ldL_law_969 rfl ?_
  refine lv_goto (tgt := 1065) hx hb ldL_law_970 (by decide) ?_
  exact kk _ _ _ (Jx.of hJ8 rfl (by omega) rfl rfl rfl (alF.e hb1 hb2) hHG) w
theorem ldL_law_973 : decode cL_law 973 = .ok (.aload_n 1, 1) := dq0 kk_43 (by decide +kernel)
theorem ldL_law_974 : decode cL_law 974 = .ok (.aload_n 0, 1) := dq0 kk_42 (by decide +kernel)
theorem ldL_law_975 : decode cL_law 975 = .ok (.iload_n 3, 1) := dq0 kk_29 (by decide +kernel)
theorem ldL_law_976 : decode cL_law 976 = .ok (.iconst 1, 1) := dq0 kk_4 (by decide +kernel)
theorem ldL_law_977 : decode cL_law 977 = .ok (.iadd, 1) := dq0 kk_96 (by decide +kernel)
theorem ldL_law_978 : decode cL_law 978 = .ok (.iaload, 1) := dq0 kk_46 (by decide +kernel)
theorem ldL_law_979 : decode cL_law 979 = .ok (.invokevirtual 123, 3) := dqV kk_182 (by decide +kernel)
theorem ltk_X11_orders : Cond.code yX11_orders cX11_orders 2 (some .int) ∈ TB := tbm (tc4 (List.mem_of_getElem? (i := 239) rfl)) rfl
theorem lgc_X11_orders : GoodIn TB (cw yX11_orders cX11_orders 2 (some .int)) := goodIn_c2 ltk_X11_orders
theorem ltb_152 : Cond.methodLink "ToneLinesLaw" 123 yX11_orders ∈ TB := tbm (tc4 (List.mem_of_getElem? (i := 236) rfl)) rfl
theorem ltb_153 : Cond.instanceMethod yX11_orders ∈ TB := tbm (tc4 (List.mem_of_getElem? (i := 237) rfl)) rfl
theorem ltb_154 : Cond.selects "ToneLines" yX11_orders yX11_orders ∈ TB := tbm (tc4 (List.mem_of_getElem? (i := 238) rfl)) rfl
theorem lgv_L_123 : GoodIn TB (wsV RL 123 RX11 yX11_orders (cw yX11_orders cX11_orders 2 (some .int))) := goodIn_4 ltb_152 ltb_153 ltb_154 ltb_3 lgc_X11_orders
theorem lhv_X11_orders : yX11_orders.cls = RX11 ∧ yX11_orders.cls ≠ "java/lang/invoke/MethodHandle" ∧ yX11_orders.cls ≠ "java/lang/invoke/VarHandle" ∧ (parseMethodDescriptor yX11_orders.desc).map (fun d => d.parameters.length) = some 1 := by decide +kernel
theorem ldL_law_982 : decode cL_law 982 = .ok (.pop, 1) := dq0 kk_87 (by decide +kernel)
theorem ldL_law_983 : decode cL_law 983 = .ok (.aload_n 2, 1) := dq0 kk_44 (by decide +kernel)
theorem ldL_law_984 : decode cL_law 984 = .ok (.aload_n 0, 1) := dq0 kk_42 (by decide +kernel)
theorem ldL_law_985 : decode cL_law 985 = .ok (.iload_n 3, 1) := dq0 kk_29 (by decide +kernel)
theorem ldL_law_986 : decode cL_law 986 = .ok (.iconst 1, 1) := dq0 kk_4 (by decide +kernel)
theorem ldL_law_987 : decode cL_law 987 = .ok (.iadd, 1) := dq0 kk_96 (by decide +kernel)
theorem ldL_law_988 : decode cL_law 988 = .ok (.iaload, 1) := dq0 kk_46 (by decide +kernel)
theorem ldL_law_989 : decode cL_law 989 = .ok (.invokevirtual 126, 3) := dqV kk_182 (by decide +kernel)
theorem ltk_X12_orders : Cond.code yX12_orders cX12_orders 5 (some .int) ∈ TB := tbm (tc7 (List.mem_of_getElem? (i := 12) rfl)) rfl
theorem lgc_X12_orders : GoodIn TB (cw yX12_orders cX12_orders 5 (some .int)) := goodIn_c2 ltk_X12_orders
theorem ltb_155 : Cond.methodLink "ToneLinesLaw" 126 yX12_orders ∈ TB := tbm (tc7 (List.mem_of_getElem? (i := 9) rfl)) rfl
theorem ltb_156 : Cond.instanceMethod yX12_orders ∈ TB := tbm (tc7 (List.mem_of_getElem? (i := 10) rfl)) rfl
theorem ltb_157 : Cond.selects "ToneLinesModel" yX12_orders yX12_orders ∈ TB := tbm (tc7 (List.mem_of_getElem? (i := 11) rfl)) rfl
theorem lgv_L_126 : GoodIn TB (wsV RL 126 RX12 yX12_orders (cw yX12_orders cX12_orders 5 (some .int))) := goodIn_4 ltb_155 ltb_156 ltb_157 ltb_7 lgc_X12_orders
theorem lhv_X12_orders : yX12_orders.cls = RX12 ∧ yX12_orders.cls ≠ "java/lang/invoke/MethodHandle" ∧ yX12_orders.cls ≠ "java/lang/invoke/VarHandle" ∧ (parseMethodDescriptor yX12_orders.desc).map (fun d => d.parameters.length) = some 1 := by decide +kernel
theorem ldL_law_992 : decode cL_law 992 = .ok (.pop, 1) := dq0 kk_87 (by decide +kernel)
theorem ldL_law_993 : decode cL_law 993 = .ok (.goto 72, 3) := dqT kk_167 (by decide +kernel)
set_option maxRecDepth 8000 in
set_option maxHeartbeats 1000000 in
theorem lc_25 {p : Program} {l : Launch} {e : Env} {s : State} {m : MethodId} {below : List Frame} {meth : Method} {c : Code} {D : va_G} {B b L : Nat} {cy : Nat → ClassId} {H : Heap} {locs : List Loc} {ls : Array Slot} {xs : Nat → Int32} {M : Mem} {Q : State → Prop} {i : Nat} (F : CallFix p m c code 4 s #[Value.ref b] TB RL) (hX : va_X b L xs s s.heap) (hbl : b < s.heap.size) (hbA : ¬ B ≤ b) (hi : i + 6 ≤ L) (hL : L ≤ 3072) (hJx : Jx M) (w : Wd D B cy s s.heap M H locs) (hl : lv_has ls 4 [(3, .int (zI (i : Int))), (2, .ref (B + 146)), (1, .ref (B + 0)), (0, .ref b)]) (kk : ∀ (M1 : Mem) (H1 : Heap) (locs1 : List Loc), Jx M1 → Wd D B cy s s.heap M1 H1 locs1 → W p l e room_1 s m #[Value.ref b] below meth c H1 locs1 159 13107 Q (F0 m 1065 ls [])) : W p l e room_1 s m #[Value.ref b] below meth c H locs 159 13107 Q (F0 m 973 ls []) := by
  have hx := F.1
  have hb := F.2.1
  obtain ⟨T, tn, Ps, mr, xw, Hs, kw, yw, Gs, hJ, hxy, hHG⟩ := hJx
  obtain ⟨qw, hv, ed, hv2, ed2, o, rfl, rfl, hb1, hb2⟩ := hxy.i
  have hta := hJ.1.2.2.2.2.1.1
  have hix1 := ix_z (z := (i : Int) + 1) (by omega) (by omega)
  obtain ⟨x1, bx1, ex1⟩ := rg_ex (xs ((i : Int) + 1).toNat)
  refine lv_aload_n hx hb ldL_law_973 rfl (lv_at hl 2 rfl) ?_
  refine lv_aload_n hx hb ldL_law_974 rfl (lv_at hl 3 rfl) ?_
  refine lv_iload_n hx hb ldL_law_975 rfl (lv_at hl 0 rfl) ?_
  refine lv_iconst (v := zI 1) hx hb ldL_law_976 rfl ?_
  refine z_iadd (z := (i : Int) + 1) hx hb ldL_law_977 (by omega) ?_
  refine va_sld hx hb hX hbl hbA w.2.2.1 (vpi hix1.1 (by rw [hix1.2]; omega)) ldL_law_978 ?_
  refine r_val ((congrArg xs hix1.2).trans ex1) ?_
  refine k_Vi F w (As := [.int (zI x1)]) (rest := []) (a := 0) (kd_lt (a := 0) (show kd 0 = (11, 0, 0) from rfl) (by decide)) (sh_11 rfl _ _) rfl (gq_X11_orders (x := x1) ⟨by omega, by omega⟩ ⟨hJ.1.1, hJ.2.1⟩) lgv_L_123 lhv_X11_orders ⟨(Nat.le_of_ble_eq_true rfl), (Nat.le_of_ble_eq_true rfl)⟩ hl.1 rfl (Nat.le_of_ble_eq_true rfl) ⟨(Nat.le_of_ble_eq_true rfl), (Nat.le_of_ble_eq_true rfl)⟩ ldL_law_979 (fun r1 N2 H locs hp w => ?_)
  obtain ⟨z3, rfl, bz3, hIN2, hFN2⟩ := hp
  have hJ4 := Jg.c hJ hIN2.1 hFN2 (fun b9 k9 h => by (try dsimp only at h); rcases h with ⟨rfl, rfl⟩ | ⟨rfl, rfl⟩ | ⟨rfl, rfl⟩ | ⟨rfl, rfl⟩ | ⟨rfl, rfl⟩ | rfl | rfl | rfl | ⟨q1, q2⟩ | ⟨q1, q2⟩ <;> first | decide | omega) (isTc.F hJ.1.2.2.1 hFN2 (by first | decide | (dsimp only; first | done | decide | omega) | omega) (fun k9 => by first | decide | (dsimp only; first | done | decide | omega) | omega)) (hJ.1.2.2.2.2.1) (hIN2.2)
  refine lv_pop hx hb ldL_law_982 rfl ?_
  refine lv_aload_n hx hb ldL_law_983 rfl (lv_at hl 1 rfl) ?_
  refine lv_aload_n hx hb ldL_law_984 rfl (lv_at hl 3 rfl) ?_
  refine lv_iload_n hx hb ldL_law_985 rfl (lv_at hl 0 rfl) ?_
  refine lv_iconst (v := zI 1) hx hb ldL_law_986 rfl ?_
  refine z_iadd (z := (i : Int) + 1) hx hb ldL_law_987 (by omega) ?_
  refine va_sld hx hb hX hbl hbA w.2.2.1 (vpi hix1.1 (by rw [hix1.2]; omega)) ldL_law_988 ?_
  refine r_val ((congrArg xs hix1.2).trans ex1) ?_
  obtain ⟨g5, bg5, eg5⟩ := IvR.ld (k := 5) hJ4.1.2.1 (show ivr 146 5 = (0, 8) from rfl) (by decide)
  refine k_Vi F w (As := [.int (zI x1)]) (rest := []) (a := 146) (kd_lt (a := 146) (show kd 146 = (12, 0, 0) from rfl) (by decide)) (sh_12 rfl _ _) rfl (q_X12_orders (x := x1) ⟨by omega, by omega⟩ (rn := g5) eg5 bg5 hJ4.1.2.1) lgv_L_126 lhv_X12_orders ⟨(Nat.le_of_ble_eq_true rfl), (Nat.le_of_ble_eq_true rfl)⟩ hl.1 rfl (Nat.le_of_ble_eq_true rfl) ⟨(Nat.le_of_ble_eq_true rfl), (Nat.le_of_ble_eq_true rfl)⟩ ldL_law_989 (fun r6 N7 H locs hp w => ?_)
  obtain ⟨z8, rfl, bz8, hIN7, hFN7⟩ := hp
  have hJ9 := Jg.r hJ4 hIN7 hFN7 (fun b9 k9 h => by (try dsimp only at h); rcases h with ⟨rfl, rfl⟩ | ⟨rfl, rfl⟩ | ⟨rfl, rfl⟩ | rfl | rfl | rfl <;> first | decide | omega) (isTr.F hJ4.1.2.2.2.1 hFN7 (by first | decide | (dsimp only; first | done | decide | omega) | omega) (fun k9 => by first | decide | (dsimp only; first | done | decide | omega) | omega)) (hJ4.1.2.2.2.2.2) (hJ4.2.2.F hFN7 (fun k9 => by first | decide | (dsimp only; first | done | decide | omega) | omega) (fun k9 => by first | decide | (dsimp only; first | done | decide | omega) | omega) (fun k9 => by first | decide | (dsimp only; first | done | decide | omega) | omega) (by first | decide | (dsimp only; first | done | decide | omega) | omega) (by first | decide | (dsimp only; first | done | decide | omega) | omega))
  refine lv_pop hx hb ldL_law_992 rfl ?_
  refine lv_goto (tgt := 1065) hx hb ldL_law_993 (by decide) ?_
  exact kk _ _ _ (Jx.of hJ9 rfl (by omega) rfl rfl rfl (alF.e hb1 hb2) hHG) w
theorem ldL_law_996 : decode cL_law 996 = .ok (.aload_n 1, 1) := dq0 kk_43 (by decide +kernel)
theorem ldL_law_997 : decode cL_law 997 = .ok (.aload_n 0, 1) := dq0 kk_42 (by decide +kernel)
theorem ldL_law_998 : decode cL_law 998 = .ok (.iload_n 3, 1) := dq0 kk_29 (by decide +kernel)
theorem ldL_law_999 : decode cL_law 999 = .ok (.iconst 1, 1) := dq0 kk_4 (by decide +kernel)
theorem ldL_law_1000 : decode cL_law 1000 = .ok (.iadd, 1) := dq0 kk_96 (by decide +kernel)
theorem ldL_law_1001 : decode cL_law 1001 = .ok (.iaload, 1) := dq0 kk_46 (by decide +kernel)
theorem ldL_law_1002 : decode cL_law 1002 = .ok (.invokevirtual 127, 3) := dqV kk_182 (by decide +kernel)
theorem ltk_X11_sources : Cond.code yX11_sources cX11_sources 2 (some .int) ∈ TB := tbm (tc5 (List.mem_of_getElem? (i := 24) rfl)) rfl
theorem lgc_X11_sources : GoodIn TB (cw yX11_sources cX11_sources 2 (some .int)) := goodIn_c2 ltk_X11_sources
theorem ltb_158 : Cond.methodLink "ToneLinesLaw" 127 yX11_sources ∈ TB := tbm (tc5 (List.mem_of_getElem? (i := 21) rfl)) rfl
theorem ltb_159 : Cond.instanceMethod yX11_sources ∈ TB := tbm (tc5 (List.mem_of_getElem? (i := 22) rfl)) rfl
theorem ltb_160 : Cond.selects "ToneLines" yX11_sources yX11_sources ∈ TB := tbm (tc5 (List.mem_of_getElem? (i := 23) rfl)) rfl
theorem lgv_L_127 : GoodIn TB (wsV RL 127 RX11 yX11_sources (cw yX11_sources cX11_sources 2 (some .int))) := goodIn_4 ltb_158 ltb_159 ltb_160 ltb_3 lgc_X11_sources
theorem lhv_X11_sources : yX11_sources.cls = RX11 ∧ yX11_sources.cls ≠ "java/lang/invoke/MethodHandle" ∧ yX11_sources.cls ≠ "java/lang/invoke/VarHandle" ∧ (parseMethodDescriptor yX11_sources.desc).map (fun d => d.parameters.length) = some 1 := by decide +kernel
theorem ldL_law_1005 : decode cL_law 1005 = .ok (.pop, 1) := dq0 kk_87 (by decide +kernel)
theorem ldL_law_1006 : decode cL_law 1006 = .ok (.aload_n 2, 1) := dq0 kk_44 (by decide +kernel)
theorem ldL_law_1007 : decode cL_law 1007 = .ok (.aload_n 0, 1) := dq0 kk_42 (by decide +kernel)
theorem ldL_law_1008 : decode cL_law 1008 = .ok (.iload_n 3, 1) := dq0 kk_29 (by decide +kernel)
theorem ldL_law_1009 : decode cL_law 1009 = .ok (.iconst 1, 1) := dq0 kk_4 (by decide +kernel)
theorem ldL_law_1010 : decode cL_law 1010 = .ok (.iadd, 1) := dq0 kk_96 (by decide +kernel)
theorem ldL_law_1011 : decode cL_law 1011 = .ok (.iaload, 1) := dq0 kk_46 (by decide +kernel)
theorem ldL_law_1012 : decode cL_law 1012 = .ok (.invokevirtual 130, 3) := dqV kk_182 (by decide +kernel)
theorem ltk_X12_sources : Cond.code yX12_sources cX12_sources 2 (some .int) ∈ TB := tbm (tc7 (List.mem_of_getElem? (i := 24) rfl)) rfl
theorem lgc_X12_sources : GoodIn TB (cw yX12_sources cX12_sources 2 (some .int)) := goodIn_c2 ltk_X12_sources
theorem ltb_161 : Cond.methodLink "ToneLinesLaw" 130 yX12_sources ∈ TB := tbm (tc7 (List.mem_of_getElem? (i := 21) rfl)) rfl
theorem ltb_162 : Cond.instanceMethod yX12_sources ∈ TB := tbm (tc7 (List.mem_of_getElem? (i := 22) rfl)) rfl
theorem ltb_163 : Cond.selects "ToneLinesModel" yX12_sources yX12_sources ∈ TB := tbm (tc7 (List.mem_of_getElem? (i := 23) rfl)) rfl
theorem lgv_L_130 : GoodIn TB (wsV RL 130 RX12 yX12_sources (cw yX12_sources cX12_sources 2 (some .int))) := goodIn_4 ltb_161 ltb_162 ltb_163 ltb_7 lgc_X12_sources
theorem lhv_X12_sources : yX12_sources.cls = RX12 ∧ yX12_sources.cls ≠ "java/lang/invoke/MethodHandle" ∧ yX12_sources.cls ≠ "java/lang/invoke/VarHandle" ∧ (parseMethodDescriptor yX12_sources.desc).map (fun d => d.parameters.length) = some 1 := by decide +kernel
theorem ldL_law_1015 : decode cL_law 1015 = .ok (.pop, 1) := dq0 kk_87 (by decide +kernel)
theorem ldL_law_1016 : decode cL_law 1016 = .ok (.goto 49, 3) := dqT kk_167 (by decide +kernel)
set_option maxRecDepth 8000 in
set_option maxHeartbeats 1000000 in
theorem lc_26 {p : Program} {l : Launch} {e : Env} {s : State} {m : MethodId} {below : List Frame} {meth : Method} {c : Code} {D : va_G} {B b L : Nat} {cy : Nat → ClassId} {H : Heap} {locs : List Loc} {ls : Array Slot} {xs : Nat → Int32} {M : Mem} {Q : State → Prop} {i : Nat} (F : CallFix p m c code 4 s #[Value.ref b] TB RL) (hX : va_X b L xs s s.heap) (hbl : b < s.heap.size) (hbA : ¬ B ≤ b) (hi : i + 6 ≤ L) (hL : L ≤ 3072) (hJx : Jx M) (w : Wd D B cy s s.heap M H locs) (hl : lv_has ls 4 [(3, .int (zI (i : Int))), (2, .ref (B + 146)), (1, .ref (B + 0)), (0, .ref b)]) (kk : ∀ (M1 : Mem) (H1 : Heap) (locs1 : List Loc), Jx M1 → Wd D B cy s s.heap M1 H1 locs1 → W p l e room_1 s m #[Value.ref b] below meth c H1 locs1 159 13107 Q (F0 m 1065 ls [])) : W p l e room_1 s m #[Value.ref b] below meth c H locs 159 13107 Q (F0 m 996 ls []) := by
  have hx := F.1
  have hb := F.2.1
  obtain ⟨T, tn, Ps, mr, xw, Hs, kw, yw, Gs, hJ, hxy, hHG⟩ := hJx
  obtain ⟨qw, hv, ed, hv2, ed2, o, rfl, rfl, hb1, hb2⟩ := hxy.i
  have hta := hJ.1.2.2.2.2.1.1
  have hix1 := ix_z (z := (i : Int) + 1) (by omega) (by omega)
  obtain ⟨x1, bx1, ex1⟩ := rg_ex (xs ((i : Int) + 1).toNat)
  refine lv_aload_n hx hb ldL_law_996 rfl (lv_at hl 2 rfl) ?_
  refine lv_aload_n hx hb ldL_law_997 rfl (lv_at hl 3 rfl) ?_
  refine lv_iload_n hx hb ldL_law_998 rfl (lv_at hl 0 rfl) ?_
  refine lv_iconst (v := zI 1) hx hb ldL_law_999 rfl ?_
  refine z_iadd (z := (i : Int) + 1) hx hb ldL_law_1000 (by omega) ?_
  refine va_sld hx hb hX hbl hbA w.2.2.1 (vpi hix1.1 (by rw [hix1.2]; omega)) ldL_law_1001 ?_
  refine r_val ((congrArg xs hix1.2).trans ex1) ?_
  refine k_Vi F w (As := [.int (zI x1)]) (rest := []) (a := 0) (kd_lt (a := 0) (show kd 0 = (11, 0, 0) from rfl) (by decide)) (sh_11 rfl _ _) rfl (gq_X11_sources (x := x1) ⟨by omega, by omega⟩ ⟨hJ.1.1, hJ.2.1⟩) lgv_L_127 lhv_X11_sources ⟨(Nat.le_of_ble_eq_true rfl), (Nat.le_of_ble_eq_true rfl)⟩ hl.1 rfl (Nat.le_of_ble_eq_true rfl) ⟨(Nat.le_of_ble_eq_true rfl), (Nat.le_of_ble_eq_true rfl)⟩ ldL_law_1002 (fun r1 N2 H locs hp w => ?_)
  obtain ⟨z3, rfl, bz3, hIN2, hFN2⟩ := hp
  have hJ4 := Jg.c hJ hIN2.1 hFN2 (fun b9 k9 h => by (try dsimp only at h); rcases h with ⟨rfl, rfl⟩ | ⟨rfl, rfl⟩ | rfl | rfl | rfl | rfl | rfl | rfl | rfl | rfl | ⟨q1, q2⟩ <;> first | decide | omega) (isTc.F hJ.1.2.2.1 hFN2 (by first | decide | (dsimp only; first | done | decide | omega) | omega) (fun k9 => by first | decide | (dsimp only; first | done | decide | omega) | omega)) (hJ.1.2.2.2.2.1) (hIN2.2)
  refine lv_pop hx hb ldL_law_1005 rfl ?_
  refine lv_aload_n hx hb ldL_law_1006 rfl (lv_at hl 1 rfl) ?_
  refine lv_aload_n hx hb ldL_law_1007 rfl (lv_at hl 3 rfl) ?_
  refine lv_iload_n hx hb ldL_law_1008 rfl (lv_at hl 0 rfl) ?_
  refine lv_iconst (v := zI 1) hx hb ldL_law_1009 rfl ?_
  refine z_iadd (z := (i : Int) + 1) hx hb ldL_law_1010 (by omega) ?_
  refine va_sld hx hb hX hbl hbA w.2.2.1 (vpi hix1.1 (by rw [hix1.2]; omega)) ldL_law_1011 ?_
  refine r_val ((congrArg xs hix1.2).trans ex1) ?_
  refine k_Vi F w (As := [.int (zI x1)]) (rest := []) (a := 146) (kd_lt (a := 146) (show kd 146 = (12, 0, 0) from rfl) (by decide)) (sh_12 rfl _ _) rfl (q_X12_sources (x := x1) ⟨by omega, by omega⟩ hJ4.1.2.1) lgv_L_130 lhv_X12_sources ⟨(Nat.le_of_ble_eq_true rfl), (Nat.le_of_ble_eq_true rfl)⟩ hl.1 rfl (Nat.le_of_ble_eq_true rfl) ⟨(Nat.le_of_ble_eq_true rfl), (Nat.le_of_ble_eq_true rfl)⟩ ldL_law_1012 (fun r5 N6 H locs hp w => ?_)
  obtain ⟨z7, rfl, bz7, hIN6, hFN6⟩ := hp
  have hJ8 := Jg.r hJ4 hIN6 hFN6 (fun b9 k9 h => by (try dsimp only at h); rcases h with ⟨rfl, rfl⟩ | ⟨rfl, rfl⟩ | ⟨rfl, rfl⟩ | rfl | rfl <;> first | decide | omega) (isTr.F hJ4.1.2.2.2.1 hFN6 (by first | decide | (dsimp only; first | done | decide | omega) | omega) (fun k9 => by first | decide | (dsimp only; first | done | decide | omega) | omega)) (hJ4.1.2.2.2.2.2) (hJ4.2.2.F hFN6 (fun k9 => by first | decide | (dsimp only; first | done | decide | omega) | omega) (fun k9 => by first | decide | (dsimp only; first | done | decide | omega) | omega) (fun k9 => by first | decide | (dsimp only; first | done | decide | omega) | omega) (by first | decide | (dsimp only; first | done | decide | omega) | omega) (by first | decide | (dsimp only; first | done | decide | omega) | omega))
  refine lv_pop hx hb ldL_law_1015 rfl ?_
  refine lv_goto (tgt := 1065) hx hb ldL_law_1016 (by decide) ?_
  exact kk _ _ _ (Jx.of hJ8 rfl (by omega) rfl rfl rfl (alF.e hb1 hb2) hHG) w
theorem ldL_law_1019 : decode cL_law 1019 = .ok (.aload_n 1, 1) := dq0 kk_43 (by decide +kernel)
theorem ldL_law_1020 : decode cL_law 1020 = .ok (.aload_n 0, 1) := dq0 kk_42 (by decide +kernel)
theorem ldL_law_1021 : decode cL_law 1021 = .ok (.iload_n 3, 1) := dq0 kk_29 (by decide +kernel)
theorem ldL_law_1022 : decode cL_law 1022 = .ok (.iconst 1, 1) := dq0 kk_4 (by decide +kernel)
theorem ldL_law_1023 : decode cL_law 1023 = .ok (.iadd, 1) := dq0 kk_96 (by decide +kernel)
theorem ldL_law_1024 : decode cL_law 1024 = .ok (.iaload, 1) := dq0 kk_46 (by decide +kernel)
theorem ldL_law_1025 : decode cL_law 1025 = .ok (.invokevirtual 131, 3) := dqV kk_182 (by decide +kernel)
theorem ltk_X11_source : Cond.code yX11_source cX11_source 2 (some .int) ∈ TB := tbm (tc5 (List.mem_of_getElem? (i := 42) rfl)) rfl
theorem lgc_X11_source : GoodIn TB (cw yX11_source cX11_source 2 (some .int)) := goodIn_c2 ltk_X11_source
theorem ltb_164 : Cond.methodLink "ToneLinesLaw" 131 yX11_source ∈ TB := tbm (tc5 (List.mem_of_getElem? (i := 39) rfl)) rfl
theorem ltb_165 : Cond.instanceMethod yX11_source ∈ TB := tbm (tc5 (List.mem_of_getElem? (i := 40) rfl)) rfl
theorem ltb_166 : Cond.selects "ToneLines" yX11_source yX11_source ∈ TB := tbm (tc5 (List.mem_of_getElem? (i := 41) rfl)) rfl
theorem lgv_L_131 : GoodIn TB (wsV RL 131 RX11 yX11_source (cw yX11_source cX11_source 2 (some .int))) := goodIn_4 ltb_164 ltb_165 ltb_166 ltb_3 lgc_X11_source
theorem lhv_X11_source : yX11_source.cls = RX11 ∧ yX11_source.cls ≠ "java/lang/invoke/MethodHandle" ∧ yX11_source.cls ≠ "java/lang/invoke/VarHandle" ∧ (parseMethodDescriptor yX11_source.desc).map (fun d => d.parameters.length) = some 1 := by decide +kernel
theorem ldL_law_1028 : decode cL_law 1028 = .ok (.pop, 1) := dq0 kk_87 (by decide +kernel)
theorem ldL_law_1029 : decode cL_law 1029 = .ok (.aload_n 2, 1) := dq0 kk_44 (by decide +kernel)
theorem ldL_law_1030 : decode cL_law 1030 = .ok (.aload_n 0, 1) := dq0 kk_42 (by decide +kernel)
theorem ldL_law_1031 : decode cL_law 1031 = .ok (.iload_n 3, 1) := dq0 kk_29 (by decide +kernel)
theorem ldL_law_1032 : decode cL_law 1032 = .ok (.iconst 1, 1) := dq0 kk_4 (by decide +kernel)
theorem ldL_law_1033 : decode cL_law 1033 = .ok (.iadd, 1) := dq0 kk_96 (by decide +kernel)
theorem ldL_law_1034 : decode cL_law 1034 = .ok (.iaload, 1) := dq0 kk_46 (by decide +kernel)
theorem ldL_law_1035 : decode cL_law 1035 = .ok (.invokevirtual 134, 3) := dqV kk_182 (by decide +kernel)
theorem ltk_X12_source : Cond.code yX12_source cX12_source 2 (some .int) ∈ TB := tbm (tc7 (List.mem_of_getElem? (i := 32) rfl)) rfl
theorem lgc_X12_source : GoodIn TB (cw yX12_source cX12_source 2 (some .int)) := goodIn_c2 ltk_X12_source
theorem ltb_167 : Cond.methodLink "ToneLinesLaw" 134 yX12_source ∈ TB := tbm (tc7 (List.mem_of_getElem? (i := 29) rfl)) rfl
theorem ltb_168 : Cond.instanceMethod yX12_source ∈ TB := tbm (tc7 (List.mem_of_getElem? (i := 30) rfl)) rfl
theorem ltb_169 : Cond.selects "ToneLinesModel" yX12_source yX12_source ∈ TB := tbm (tc7 (List.mem_of_getElem? (i := 31) rfl)) rfl
theorem lgv_L_134 : GoodIn TB (wsV RL 134 RX12 yX12_source (cw yX12_source cX12_source 2 (some .int))) := goodIn_4 ltb_167 ltb_168 ltb_169 ltb_7 lgc_X12_source
theorem lhv_X12_source : yX12_source.cls = RX12 ∧ yX12_source.cls ≠ "java/lang/invoke/MethodHandle" ∧ yX12_source.cls ≠ "java/lang/invoke/VarHandle" ∧ (parseMethodDescriptor yX12_source.desc).map (fun d => d.parameters.length) = some 1 := by decide +kernel
theorem ldL_law_1038 : decode cL_law 1038 = .ok (.pop, 1) := dq0 kk_87 (by decide +kernel)
theorem ldL_law_1039 : decode cL_law 1039 = .ok (.goto 26, 3) := dqT kk_167 (by decide +kernel)
set_option maxRecDepth 8000 in
set_option maxHeartbeats 1000000 in
theorem lc_27 {p : Program} {l : Launch} {e : Env} {s : State} {m : MethodId} {below : List Frame} {meth : Method} {c : Code} {D : va_G} {B b L : Nat} {cy : Nat → ClassId} {H : Heap} {locs : List Loc} {ls : Array Slot} {xs : Nat → Int32} {M : Mem} {Q : State → Prop} {i : Nat} (F : CallFix p m c code 4 s #[Value.ref b] TB RL) (hX : va_X b L xs s s.heap) (hbl : b < s.heap.size) (hbA : ¬ B ≤ b) (hi : i + 6 ≤ L) (hL : L ≤ 3072) (hJx : Jx M) (w : Wd D B cy s s.heap M H locs) (hl : lv_has ls 4 [(3, .int (zI (i : Int))), (2, .ref (B + 146)), (1, .ref (B + 0)), (0, .ref b)]) (kk : ∀ (M1 : Mem) (H1 : Heap) (locs1 : List Loc), Jx M1 → Wd D B cy s s.heap M1 H1 locs1 → W p l e room_1 s m #[Value.ref b] below meth c H1 locs1 159 13107 Q (F0 m 1065 ls [])) : W p l e room_1 s m #[Value.ref b] below meth c H locs 159 13107 Q (F0 m 1019 ls []) := by
  have hx := F.1
  have hb := F.2.1
  obtain ⟨T, tn, Ps, mr, xw, Hs, kw, yw, Gs, hJ, hxy, hHG⟩ := hJx
  obtain ⟨qw, hv, ed, hv2, ed2, o, rfl, rfl, hb1, hb2⟩ := hxy.i
  have hta := hJ.1.2.2.2.2.1.1
  have hix1 := ix_z (z := (i : Int) + 1) (by omega) (by omega)
  obtain ⟨x1, bx1, ex1⟩ := rg_ex (xs ((i : Int) + 1).toNat)
  refine lv_aload_n hx hb ldL_law_1019 rfl (lv_at hl 2 rfl) ?_
  refine lv_aload_n hx hb ldL_law_1020 rfl (lv_at hl 3 rfl) ?_
  refine lv_iload_n hx hb ldL_law_1021 rfl (lv_at hl 0 rfl) ?_
  refine lv_iconst (v := zI 1) hx hb ldL_law_1022 rfl ?_
  refine z_iadd (z := (i : Int) + 1) hx hb ldL_law_1023 (by omega) ?_
  refine va_sld hx hb hX hbl hbA w.2.2.1 (vpi hix1.1 (by rw [hix1.2]; omega)) ldL_law_1024 ?_
  refine r_val ((congrArg xs hix1.2).trans ex1) ?_
  refine k_Vi F w (As := [.int (zI x1)]) (rest := []) (a := 0) (kd_lt (a := 0) (show kd 0 = (11, 0, 0) from rfl) (by decide)) (sh_11 rfl _ _) rfl (gq_X11_source (x := x1) ⟨by omega, by omega⟩ ⟨hJ.1.1, hJ.2.1⟩) lgv_L_131 lhv_X11_source ⟨(Nat.le_of_ble_eq_true rfl), (Nat.le_of_ble_eq_true rfl)⟩ hl.1 rfl (Nat.le_of_ble_eq_true rfl) ⟨(Nat.le_of_ble_eq_true rfl), (Nat.le_of_ble_eq_true rfl)⟩ ldL_law_1025 (fun r1 N2 H locs hp w => ?_)
  obtain ⟨z3, rfl, bz3, hIN2, hFN2⟩ := hp
  have hJ4 := Jg.c hJ hIN2.1 hFN2 (fun b9 k9 h => by (try dsimp only at h); rcases h with ⟨rfl, rfl⟩ | ⟨rfl, rfl⟩ | rfl | rfl | rfl | rfl | rfl | rfl | rfl | rfl | ⟨q1, q2⟩ <;> first | decide | omega) (isTc.F hJ.1.2.2.1 hFN2 (by first | decide | (dsimp only; first | done | decide | omega) | omega) (fun k9 => by first | decide | (dsimp only; first | done | decide | omega) | omega)) (hJ.1.2.2.2.2.1) (hIN2.2)
  refine lv_pop hx hb ldL_law_1028 rfl ?_
  refine lv_aload_n hx hb ldL_law_1029 rfl (lv_at hl 1 rfl) ?_
  refine lv_aload_n hx hb ldL_law_1030 rfl (lv_at hl 3 rfl) ?_
  refine lv_iload_n hx hb ldL_law_1031 rfl (lv_at hl 0 rfl) ?_
  refine lv_iconst (v := zI 1) hx hb ldL_law_1032 rfl ?_
  refine z_iadd (z := (i : Int) + 1) hx hb ldL_law_1033 (by omega) ?_
  refine va_sld hx hb hX hbl hbA w.2.2.1 (vpi hix1.1 (by rw [hix1.2]; omega)) ldL_law_1034 ?_
  refine r_val ((congrArg xs hix1.2).trans ex1) ?_
  refine k_Vi F w (As := [.int (zI x1)]) (rest := []) (a := 146) (kd_lt (a := 146) (show kd 146 = (12, 0, 0) from rfl) (by decide)) (sh_12 rfl _ _) rfl (q_X12_source (x := x1) ⟨by omega, by omega⟩ hJ4.1.2.1) lgv_L_134 lhv_X12_source ⟨(Nat.le_of_ble_eq_true rfl), (Nat.le_of_ble_eq_true rfl)⟩ hl.1 rfl (Nat.le_of_ble_eq_true rfl) ⟨(Nat.le_of_ble_eq_true rfl), (Nat.le_of_ble_eq_true rfl)⟩ ldL_law_1035 (fun r5 N6 H locs hp w => ?_)
  obtain ⟨z7, rfl, bz7, hIN6, hFN6⟩ := hp
  have hJ8 := Jg.r hJ4 hIN6 hFN6 (fun b9 k9 h => by (try dsimp only at h); rcases h with ⟨rfl, rfl⟩ | ⟨rfl, rfl⟩ | ⟨rfl, rfl⟩ | rfl | rfl <;> first | decide | omega) (isTr.F hJ4.1.2.2.2.1 hFN6 (by first | decide | (dsimp only; first | done | decide | omega) | omega) (fun k9 => by first | decide | (dsimp only; first | done | decide | omega) | omega)) (hJ4.1.2.2.2.2.2) (hJ4.2.2.F hFN6 (fun k9 => by first | decide | (dsimp only; first | done | decide | omega) | omega) (fun k9 => by first | decide | (dsimp only; first | done | decide | omega) | omega) (fun k9 => by first | decide | (dsimp only; first | done | decide | omega) | omega) (by first | decide | (dsimp only; first | done | decide | omega) | omega) (by first | decide | (dsimp only; first | done | decide | omega) | omega))
  refine lv_pop hx hb ldL_law_1038 rfl ?_
  refine lv_goto (tgt := 1065) hx hb ldL_law_1039 (by decide) ?_
  exact kk _ _ _ (Jx.of hJ8 rfl (by omega) rfl rfl rfl (alF.e hb1 hb2) hHG) w
theorem ldL_law_1042 : decode cL_law 1042 = .ok (.aload_n 1, 1) := dq0 kk_43 (by decide +kernel)
theorem ldL_law_1043 : decode cL_law 1043 = .ok (.aload_n 0, 1) := dq0 kk_42 (by decide +kernel)
theorem ldL_law_1044 : decode cL_law 1044 = .ok (.iload_n 3, 1) := dq0 kk_29 (by decide +kernel)
theorem ldL_law_1045 : decode cL_law 1045 = .ok (.iconst 1, 1) := dq0 kk_4 (by decide +kernel)
theorem ldL_law_1046 : decode cL_law 1046 = .ok (.iadd, 1) := dq0 kk_96 (by decide +kernel)
theorem ldL_law_1047 : decode cL_law 1047 = .ok (.iaload, 1) := dq0 kk_46 (by decide +kernel)
theorem ldL_law_1048 : decode cL_law 1048 = .ok (.invokevirtual 135, 3) := dqV kk_182 (by decide +kernel)
theorem ltk_X11_count : Cond.code yX11_count cX11_count 2 (some .int) ∈ TB := tbm (tc5 (List.mem_of_getElem? (i := 46) rfl)) rfl
theorem lgc_X11_count : GoodIn TB (cw yX11_count cX11_count 2 (some .int)) := goodIn_c2 ltk_X11_count
theorem ltb_170 : Cond.methodLink "ToneLinesLaw" 135 yX11_count ∈ TB := tbm (tc5 (List.mem_of_getElem? (i := 43) rfl)) rfl
theorem ltb_171 : Cond.instanceMethod yX11_count ∈ TB := tbm (tc5 (List.mem_of_getElem? (i := 44) rfl)) rfl
theorem ltb_172 : Cond.selects "ToneLines" yX11_count yX11_count ∈ TB := tbm (tc5 (List.mem_of_getElem? (i := 45) rfl)) rfl
theorem lgv_L_135 : GoodIn TB (wsV RL 135 RX11 yX11_count (cw yX11_count cX11_count 2 (some .int))) := goodIn_4 ltb_170 ltb_171 ltb_172 ltb_3 lgc_X11_count
theorem lhv_X11_count : yX11_count.cls = RX11 ∧ yX11_count.cls ≠ "java/lang/invoke/MethodHandle" ∧ yX11_count.cls ≠ "java/lang/invoke/VarHandle" ∧ (parseMethodDescriptor yX11_count.desc).map (fun d => d.parameters.length) = some 1 := by decide +kernel
theorem ldL_law_1051 : decode cL_law 1051 = .ok (.aload_n 2, 1) := dq0 kk_44 (by decide +kernel)
theorem ldL_law_1052 : decode cL_law 1052 = .ok (.aload_n 0, 1) := dq0 kk_42 (by decide +kernel)
theorem ldL_law_1053 : decode cL_law 1053 = .ok (.iload_n 3, 1) := dq0 kk_29 (by decide +kernel)
theorem ldL_law_1054 : decode cL_law 1054 = .ok (.iconst 1, 1) := dq0 kk_4 (by decide +kernel)
theorem ldL_law_1055 : decode cL_law 1055 = .ok (.iadd, 1) := dq0 kk_96 (by decide +kernel)
theorem ldL_law_1056 : decode cL_law 1056 = .ok (.iaload, 1) := dq0 kk_46 (by decide +kernel)
theorem ldL_law_1057 : decode cL_law 1057 = .ok (.invokevirtual 138, 3) := dqV kk_182 (by decide +kernel)
theorem ltk_X12_count : Cond.code yX12_count cX12_count 2 (some .int) ∈ TB := tbm (tc7 (List.mem_of_getElem? (i := 36) rfl)) rfl
theorem lgc_X12_count : GoodIn TB (cw yX12_count cX12_count 2 (some .int)) := goodIn_c2 ltk_X12_count
theorem ltb_173 : Cond.methodLink "ToneLinesLaw" 138 yX12_count ∈ TB := tbm (tc7 (List.mem_of_getElem? (i := 33) rfl)) rfl
theorem ltb_174 : Cond.instanceMethod yX12_count ∈ TB := tbm (tc7 (List.mem_of_getElem? (i := 34) rfl)) rfl
theorem ltb_175 : Cond.selects "ToneLinesModel" yX12_count yX12_count ∈ TB := tbm (tc7 (List.mem_of_getElem? (i := 35) rfl)) rfl
theorem lgv_L_138 : GoodIn TB (wsV RL 138 RX12 yX12_count (cw yX12_count cX12_count 2 (some .int))) := goodIn_4 ltb_173 ltb_174 ltb_175 ltb_7 lgc_X12_count
theorem lhv_X12_count : yX12_count.cls = RX12 ∧ yX12_count.cls ≠ "java/lang/invoke/MethodHandle" ∧ yX12_count.cls ≠ "java/lang/invoke/VarHandle" ∧ (parseMethodDescriptor yX12_count.desc).map (fun d => d.parameters.length) = some 1 := by decide +kernel
theorem ldL_law_1060 : decode cL_law 1060 = .ok (.if_icmp .eq 5, 3) := dqT kk_159 (by decide +kernel)
set_option maxRecDepth 8000 in
set_option maxHeartbeats 1000000 in
theorem lc_28 {p : Program} {l : Launch} {e : Env} {s : State} {m : MethodId} {below : List Frame} {meth : Method} {c : Code} {D : va_G} {B b L : Nat} {cy : Nat → ClassId} {H : Heap} {locs : List Loc} {ls : Array Slot} {xs : Nat → Int32} {M : Mem} {Q : State → Prop} {i : Nat} (F : CallFix p m c code 4 s #[Value.ref b] TB RL) (hX : va_X b L xs s s.heap) (hbl : b < s.heap.size) (hbA : ¬ B ≤ b) (hi : i + 6 ≤ L) (hL : L ≤ 3072) (hJx : Jx M) (w : Wd D B cy s s.heap M H locs) (hl : lv_has ls 4 [(3, .int (zI (i : Int))), (2, .ref (B + 146)), (1, .ref (B + 0)), (0, .ref b)]) (kk : ∀ (M1 : Mem) (H1 : Heap) (locs1 : List Loc), Jx M1 → Wd D B cy s s.heap M1 H1 locs1 → W p l e room_1 s m #[Value.ref b] below meth c H1 locs1 159 13107 Q (F0 m 1065 ls [])) : W p l e room_1 s m #[Value.ref b] below meth c H locs 159 13107 Q (F0 m 1042 ls []) := by
  have hx := F.1
  have hb := F.2.1
  obtain ⟨T, tn, Ps, mr, xw, Hs, kw, yw, Gs, hJ, hxy, hHG⟩ := hJx
  obtain ⟨qw, hv, ed, hv2, ed2, o, rfl, rfl, hb1, hb2⟩ := hxy.i
  have hta := hJ.1.2.2.2.2.1.1
  have hG9 : ∀ j, j < mr → okG (Ps j) := fun j hj => (hJ.2.2.1.2 j hj).2
  have hok9 : okW qw o := hJ.2.2.2.2.1.2.1
  have hix1 := ix_z (z := (i : Int) + 1) (by omega) (by omega)
  obtain ⟨x1, bx1, ex1⟩ := rg_ex (xs ((i : Int) + 1).toNat)
  refine lv_aload_n hx hb ldL_law_1042 rfl (lv_at hl 2 rfl) ?_
  refine lv_aload_n hx hb ldL_law_1043 rfl (lv_at hl 3 rfl) ?_
  refine lv_iload_n hx hb ldL_law_1044 rfl (lv_at hl 0 rfl) ?_
  refine lv_iconst (v := zI 1) hx hb ldL_law_1045 rfl ?_
  refine z_iadd (z := (i : Int) + 1) hx hb ldL_law_1046 (by omega) ?_
  refine va_sld hx hb hX hbl hbA w.2.2.1 (vpi hix1.1 (by rw [hix1.2]; omega)) ldL_law_1047 ?_
  refine r_val ((congrArg xs hix1.2).trans ex1) ?_
  obtain ⟨rd9, hC9⟩ := hJ.2.1
  refine k_Vi F w (As := [.int (zI x1)]) (rest := []) (a := 0) (kd_lt (a := 0) (show kd 0 = (11, 0, 0) from rfl) (by decide)) (sh_11 rfl _ _) rfl (Ci_and2 (gq_X11_count (x := x1) ⟨by omega, by omega⟩ ⟨hJ.1.1, hJ.2.1⟩) (h_count hC9 (tn := tn) hJ.1.2.2.1.1 (by have h9 := hJ.1.2.2.2.2.1.1; omega) (w9 := x1) (by constructor <;> omega)) (by decide) (by decide)) lgv_L_135 lhv_X11_count ⟨(Nat.le_of_ble_eq_true rfl), (Nat.le_of_ble_eq_true rfl)⟩ hl.1 rfl (Nat.le_of_ble_eq_true rfl) ⟨(Nat.le_of_ble_eq_true rfl), (Nat.le_of_ble_eq_true rfl)⟩ ldL_law_1048 (fun r1 N2 H locs hp w => ?_)
  obtain ⟨hp, M2N2, hAN2, hqN2⟩ := hp
  obtain ⟨z3, erz3, bz3, hIN2, hFN2⟩ := hp
  subst erz3
  have hJ4 := Jg.c hJ hIN2.1 hFN2 (fun b9 k9 h => by (try dsimp only at h); rcases h with ⟨rfl, rfl⟩ | ⟨rfl, rfl⟩ | rfl | rfl | ⟨q1, q2⟩ <;> first | decide | omega) (isTc.F hJ.1.2.2.1 hFN2 (by first | decide | (dsimp only; first | done | decide | omega) | omega) (fun k9 => by first | decide | (dsimp only; first | done | decide | omega) | omega)) (hJ.1.2.2.2.2.1) (hIN2.2)
  refine lv_aload_n hx hb ldL_law_1051 rfl (lv_at hl 1 rfl) ?_
  refine lv_aload_n hx hb ldL_law_1052 rfl (lv_at hl 3 rfl) ?_
  refine lv_iload_n hx hb ldL_law_1053 rfl (lv_at hl 0 rfl) ?_
  refine lv_iconst (v := zI 1) hx hb ldL_law_1054 rfl ?_
  refine z_iadd (z := (i : Int) + 1) hx hb ldL_law_1055 (by omega) ?_
  refine va_sld hx hb hX hbl hbA w.2.2.1 (vpi hix1.1 (by rw [hix1.2]; omega)) ldL_law_1056 ?_
  refine r_val ((congrArg xs hix1.2).trans ex1) ?_
  refine k_Vi F w (As := [.int (zI x1)]) (rest := [.int (zI z3)]) (a := 146) (kd_lt (a := 146) (show kd 146 = (12, 0, 0) from rfl) (by decide)) (sh_12 rfl _ _) rfl (Ci_and2 (q_X12_count (x := x1) ⟨by omega, by omega⟩ hJ4.1.2.1) (k_count hJ4.2.2 (tn := tn) hJ4.1.2.2.2.1.1 (by have h9 := hJ4.1.2.2.2.2.2.1; omega) (w9 := x1) (by constructor <;> omega)) (by decide) (by decide)) lgv_L_138 lhv_X12_count ⟨(Nat.le_of_ble_eq_true rfl), (Nat.le_of_ble_eq_true rfl)⟩ hl.1 rfl (Nat.le_of_ble_eq_true rfl) ⟨(Nat.le_of_ble_eq_true rfl), (Nat.le_of_ble_eq_true rfl)⟩ ldL_law_1057 (fun r5 N6 H locs hp w => ?_)
  obtain ⟨hp, M2N6, hAN6, hqN6⟩ := hp
  obtain ⟨z7, erz7, bz7, hIN6, hFN6⟩ := hp
  subst erz7
  have hJ8 := Jg.r hJ4 hIN6 hFN6 (fun b9 k9 h => by (try dsimp only at h); rcases h with ⟨rfl, rfl⟩ | ⟨rfl, rfl⟩ | rfl <;> first | decide | omega) (isTr.F hJ4.1.2.2.2.1 hFN6 (by first | decide | (dsimp only; first | done | decide | omega) | omega) (fun k9 => by first | decide | (dsimp only; first | done | decide | omega) | omega)) (hJ4.1.2.2.2.2.2) (hJ4.2.2.F hFN6 (fun k9 => by first | decide | (dsimp only; first | done | decide | omega) | omega) (fun k9 => by first | decide | (dsimp only; first | done | decide | omega) | omega) (fun k9 => by first | decide | (dsimp only; first | done | decide | omega) | omega) (by first | decide | (dsimp only; first | done | decide | omega) | omega) (by first | decide | (dsimp only; first | done | decide | omega) | omega))
  refine z_icmp_eq (tgt := 1065) hx hb (by omega) (by omega) ldL_law_1060 (by decide) (fun _ => ?_) (fun c => False.elim (c (zI_in (by omega) (by omega) (hqN2.trans ((congrArg zI (al_count hG9 hok9 hb1 hb2)).trans hqN6.symm)))))
  exact kk _ _ _ (Jx.of hJ8 rfl (by omega) rfl rfl rfl (alF.e hb1 hb2) hHG) w
