theorem dL_law_164 : decode cL_law 164 = .ok (.aload_n 1, 1) := by decide +kernel
theorem dL_law_165 : decode cL_law 165 = .ok (.aload_n 0, 1) := by decide +kernel
theorem dL_law_166 : decode cL_law 166 = .ok (.iload_n 3, 1) := by decide +kernel
theorem dL_law_167 : decode cL_law 167 = .ok (.iconst 1, 1) := by decide +kernel
theorem dL_law_168 : decode cL_law 168 = .ok (.iadd, 1) := by decide +kernel
theorem dL_law_169 : decode cL_law 169 = .ok (.iaload, 1) := by decide +kernel
theorem dL_law_170 : decode cL_law 170 = .ok (.aload_n 0, 1) := by decide +kernel
theorem dL_law_171 : decode cL_law 171 = .ok (.iload_n 3, 1) := by decide +kernel
theorem dL_law_172 : decode cL_law 172 = .ok (.iconst 2, 1) := by decide +kernel
theorem dL_law_173 : decode cL_law 173 = .ok (.iadd, 1) := by decide +kernel
theorem dL_law_174 : decode cL_law 174 = .ok (.iaload, 1) := by decide +kernel
theorem dL_law_175 : decode cL_law 175 = .ok (.aload_n 0, 1) := by decide +kernel
theorem dL_law_176 : decode cL_law 176 = .ok (.iload_n 3, 1) := by decide +kernel
theorem dL_law_177 : decode cL_law 177 = .ok (.iconst 3, 1) := by decide +kernel
theorem dL_law_178 : decode cL_law 178 = .ok (.iadd, 1) := by decide +kernel
theorem dL_law_179 : decode cL_law 179 = .ok (.iaload, 1) := by decide +kernel
theorem dL_law_180 : decode cL_law 180 = .ok (.aload_n 0, 1) := by decide +kernel
theorem dL_law_181 : decode cL_law 181 = .ok (.iload_n 3, 1) := by decide +kernel
theorem dL_law_182 : decode cL_law 182 = .ok (.iconst 4, 1) := by decide +kernel
theorem dL_law_183 : decode cL_law 183 = .ok (.iadd, 1) := by decide +kernel
theorem dL_law_184 : decode cL_law 184 = .ok (.iaload, 1) := by decide +kernel
theorem dL_law_185 : decode cL_law 185 = .ok (.aload_n 0, 1) := by decide +kernel
theorem dL_law_186 : decode cL_law 186 = .ok (.iload_n 3, 1) := by decide +kernel
theorem dL_law_187 : decode cL_law 187 = .ok (.iconst 5, 1) := by decide +kernel
theorem dL_law_188 : decode cL_law 188 = .ok (.iadd, 1) := by decide +kernel
theorem dL_law_189 : decode cL_law 189 = .ok (.iaload, 1) := by decide +kernel
theorem dL_law_190 : decode cL_law 190 = .ok (.invokevirtual 13, 3) := by decide +kernel
theorem dX11_feed_0 : decode cX11_feed 0 = .ok (.aload_n 0, 1) := by decide +kernel
theorem dX11_feed_1 : decode cX11_feed 1 = .ok (.getfield 12, 3) := by decide +kernel
theorem dX11_feed_4 : decode cX11_feed 4 = .ok (.getfield 78, 3) := by decide +kernel
theorem tb_138 : Cond.fieldLink "ToneLines" 78 "ToneLines$Tape" "size" "I" ∈ TB := tbm (tc1 (List.mem_of_getElem? (i := 39) rfl)) rfl
theorem dX11_feed_7 : decode cX11_feed 7 = .ok (.bipush 20, 2) := by decide +kernel
theorem dX11_feed_9 : decode cX11_feed 9 = .ok (.iadd, 1) := by decide +kernel
theorem dX11_feed_10 : decode cX11_feed 10 = .ok (.sipush 300, 3) := by decide +kernel
theorem dX11_feed_13 : decode cX11_feed 13 = .ok (.if_icmp .le 5, 3) := by decide +kernel
theorem dX11_feed_18 : decode cX11_feed 18 = .ok (.aload_n 0, 1) := by decide +kernel
theorem dX11_feed_19 : decode cX11_feed 19 = .ok (.getfield 12, 3) := by decide +kernel
theorem dX11_feed_22 : decode cX11_feed 22 = .ok (.iload_n 1, 1) := by decide +kernel
theorem dX11_feed_23 : decode cX11_feed 23 = .ok (.invokevirtual 82, 3) := by decide +kernel
theorem dX8_append_0 : decode cX8_append 0 = .ok (.bipush 24, 2) := by decide +kernel
theorem dX8_append_2 : decode cX8_append 2 = .ok (.istore_n 2, 1) := by decide +kernel
theorem dX8_append_3 : decode cX8_append 3 = .ok (.iload_n 2, 1) := by decide +kernel
theorem dX8_append_4 : decode cX8_append 4 = .ok (.ifCond .lt 42, 3) := by decide +kernel
theorem dX8_append_7 : decode cX8_append 7 = .ok (.aload_n 0, 1) := by decide +kernel
theorem dX8_append_8 : decode cX8_append 8 = .ok (.getfield 15, 3) := by decide +kernel
theorem dX8_append_11 : decode cX8_append 11 = .ok (.sipush 300, 3) := by decide +kernel
theorem dX8_append_14 : decode cX8_append 14 = .ok (.if_icmp .ge 32, 3) := by decide +kernel
theorem dX8_append_17 : decode cX8_append 17 = .ok (.aload_n 0, 1) := by decide +kernel
theorem dX8_append_18 : decode cX8_append 18 = .ok (.getfield 9, 3) := by decide +kernel
theorem dX8_append_21 : decode cX8_append 21 = .ok (.aload_n 0, 1) := by decide +kernel
theorem dX8_append_22 : decode cX8_append 22 = .ok (.getfield 15, 3) := by decide +kernel
theorem dX8_append_25 : decode cX8_append 25 = .ok (.iload_n 1, 1) := by decide +kernel
theorem dX8_append_26 : decode cX8_append 26 = .ok (.iload_n 2, 1) := by decide +kernel
theorem dX8_append_27 : decode cX8_append 27 = .ok (.ishr, 1) := by decide +kernel
theorem dX8_append_28 : decode cX8_append 28 = .ok (.i2b, 1) := by decide +kernel
theorem dX8_append_29 : decode cX8_append 29 = .ok (.bastore, 1) := by decide +kernel
theorem dX8_append_30 : decode cX8_append 30 = .ok (.aload_n 0, 1) := by decide +kernel
theorem dX8_append_31 : decode cX8_append 31 = .ok (.dup, 1) := by decide +kernel
theorem dX8_append_32 : decode cX8_append 32 = .ok (.getfield 15, 3) := by decide +kernel
theorem dX8_append_35 : decode cX8_append 35 = .ok (.iconst 1, 1) := by decide +kernel
theorem dX8_append_36 : decode cX8_append 36 = .ok (.iadd, 1) := by decide +kernel
theorem dX8_append_37 : decode cX8_append 37 = .ok (.putfield 15, 3) := by decide +kernel
theorem dX8_append_40 : decode cX8_append 40 = .ok (.iinc 2 (-8), 3) := by decide +kernel
theorem dX8_append_43 : decode cX8_append 43 = .ok (.goto (-40), 3) := by decide +kernel
theorem dX8_append_46 : decode cX8_append 46 = .ok (.return_, 1) := by decide +kernel
set_option maxRecDepth 4000 in
theorem c_X8_append_58 {l : Launch} {D : va_G} {B : Nat} {cy : Nat → ClassId} {M : Mem} {p1 : Int32} (h0 : M.1 1 1 = 0) : Cv l D B cy yX8_append cX8_append 3 0 0 [.ref (B + 1), .int p1] M (fun M1 => M1 = (st (st (st (st (st (st (st (st M 2 0 ((vp_nar .byte ((p1 >>> (24 &&& 31)).toInt8.toInt32)))) 1 1 1) 2 1 ((vp_nar .byte ((p1 >>> (16 &&& 31)).toInt8.toInt32)))) 1 1 2) 2 2 ((vp_nar .byte ((p1 >>> (8 &&& 31)).toInt8.toInt32)))) 1 1 3) 2 3 ((vp_nar .byte ((p1 >>> (0 &&& 31)).toInt8.toInt32)))) 1 1 4)) := by
  refine s_any (by decide) (Nat.le_of_ble_eq_true rfl) ?_
  intro p e s m below meth c ls F hr hlocks w hl
  have F : CallFix p m c cX8_append 3 s _ TB RX8 := F
  have hx := F.1
  have hb := F.2.1
  have hl : lv_has ls 3 [(0, .ref (B + 1)), (1, .int p1)] := hl
  refine lv_bipush (v := 24) hx hb dX8_append_0 (by decide) ?_
  refine lv_istore_n (lv' := [(2, .int 24), (0, .ref (B + 1)), (1, .int p1)]) hx hb dX8_append_2 rfl hl (by decide) rfl (fun ls hl => ?_)
  refine lv_iload_n hx hb dX8_append_3 rfl (lv_at hl 0 rfl) ?_
  refine lv_if_lt (tgt := 46) hx hb dX8_append_4 (by decide) (fun c1 => absurd c1 (by decide)) (fun _ => ?_)
  refine lv_aload_n hx hb dX8_append_7 rfl (lv_at hl 1 rfl) ?_
  refine f_8_1 F w (a := 1) rfl tb_9 dX8_append_8 ?_
  refine r_val (v := 0) (h0) ?_
  refine lv_sipush (v := 300) hx hb dX8_append_11 (by decide) ?_
  refine lv_icmp_ge (tgt := 46) hx hb dX8_append_14 (by decide) (fun c1 => absurd c1 (by decide)) (fun _ => ?_)
  refine lv_aload_n hx hb dX8_append_17 rfl (lv_at hl 1 rfl) ?_
  refine f_8_0 F w (a := 1) rfl tb_8 dX8_append_18 ?_
  refine lv_aload_n hx hb dX8_append_21 rfl (lv_at hl 1 rfl) ?_
  refine f_8_1 F w (a := 1) rfl tb_9 dX8_append_22 ?_
  refine r_val (v := 0) (h0) ?_
  refine lv_iload_n hx hb dX8_append_25 rfl (lv_at hl 2 rfl) ?_
  refine lv_iload_n hx hb dX8_append_26 rfl (lv_at hl 0 rfl) ?_
  refine lv_ishr hx hb dX8_append_27 ?_
  refine lv_i2b (v := ((p1 >>> (24 &&& 31)).toInt8.toInt32)) hx hb dX8_append_28 rfl ?_
  refine g_bast F w (a := 2) rfl (j := 0) ⟨by decide, by decide⟩ (by decide) dX8_append_29 (fun H locs w => ?_)
  refine lv_aload_n hx hb dX8_append_30 rfl (lv_at hl 1 rfl) ?_
  refine lv_dup hx hb dX8_append_31 rfl ?_
  refine f_8_1 F w (a := 1) rfl tb_9 dX8_append_32 ?_
  refine r_val (v := 0) ((st_ne (by decide)).trans h0) ?_
  refine lv_iconst (v := 1) hx hb dX8_append_35 (by decide) ?_
  refine lv_iadd hx hb dX8_append_36 ?_
  refine r_val (v := 1) (by decide) ?_
  refine u_8_1 F w (a := 1) rfl tb_9 dX8_append_37 (fun H locs w => ?_)
  refine lv_iinc (v := 16) (lv' := [(2, .int 16), (0, .ref (B + 1)), (1, .int p1)]) hx hb dX8_append_40 hl (k := 0) rfl (by decide) (by decide) rfl (fun ls hl => ?_)
  refine lv_goto (tgt := 3) hx hb dX8_append_43 (by decide) ?_
  refine lv_iload_n hx hb dX8_append_3 rfl (lv_at hl 0 rfl) ?_
  refine lv_if_lt (tgt := 46) hx hb dX8_append_4 (by decide) (fun c1 => absurd c1 (by decide)) (fun _ => ?_)
  refine lv_aload_n hx hb dX8_append_7 rfl (lv_at hl 1 rfl) ?_
  refine f_8_1 F w (a := 1) rfl tb_9 dX8_append_8 ?_
  refine r_val (v := 1) (st_at) ?_
  refine lv_sipush (v := 300) hx hb dX8_append_11 (by decide) ?_
  refine lv_icmp_ge (tgt := 46) hx hb dX8_append_14 (by decide) (fun c1 => absurd c1 (by decide)) (fun _ => ?_)
  refine lv_aload_n hx hb dX8_append_17 rfl (lv_at hl 1 rfl) ?_
  refine f_8_0 F w (a := 1) rfl tb_8 dX8_append_18 ?_
  refine lv_aload_n hx hb dX8_append_21 rfl (lv_at hl 1 rfl) ?_
  refine f_8_1 F w (a := 1) rfl tb_9 dX8_append_22 ?_
  refine r_val (v := 1) (st_at) ?_
  refine lv_iload_n hx hb dX8_append_25 rfl (lv_at hl 2 rfl) ?_
  refine lv_iload_n hx hb dX8_append_26 rfl (lv_at hl 0 rfl) ?_
  refine lv_ishr hx hb dX8_append_27 ?_
  refine lv_i2b (v := ((p1 >>> (16 &&& 31)).toInt8.toInt32)) hx hb dX8_append_28 rfl ?_
  refine g_bast F w (a := 2) rfl (j := 1) ⟨by decide, by decide⟩ (by decide) dX8_append_29 (fun H locs w => ?_)
  refine lv_aload_n hx hb dX8_append_30 rfl (lv_at hl 1 rfl) ?_
  refine lv_dup hx hb dX8_append_31 rfl ?_
  refine f_8_1 F w (a := 1) rfl tb_9 dX8_append_32 ?_
  refine r_val (v := 1) ((st_ne (by decide)).trans st_at) ?_
  refine lv_iconst (v := 1) hx hb dX8_append_35 (by decide) ?_
  refine lv_iadd hx hb dX8_append_36 ?_
  refine r_val (v := 2) (by decide) ?_
  refine u_8_1 F w (a := 1) rfl tb_9 dX8_append_37 (fun H locs w => ?_)
  refine lv_iinc (v := 8) (lv' := [(2, .int 8), (0, .ref (B + 1)), (1, .int p1)]) hx hb dX8_append_40 hl (k := 0) rfl (by decide) (by decide) rfl (fun ls hl => ?_)
  refine lv_goto (tgt := 3) hx hb dX8_append_43 (by decide) ?_
  refine lv_iload_n hx hb dX8_append_3 rfl (lv_at hl 0 rfl) ?_
  refine lv_if_lt (tgt := 46) hx hb dX8_append_4 (by decide) (fun c1 => absurd c1 (by decide)) (fun _ => ?_)
  refine lv_aload_n hx hb dX8_append_7 rfl (lv_at hl 1 rfl) ?_
  refine f_8_1 F w (a := 1) rfl tb_9 dX8_append_8 ?_
  refine r_val (v := 2) (st_at) ?_
  refine lv_sipush (v := 300) hx hb dX8_append_11 (by decide) ?_
  refine lv_icmp_ge (tgt := 46) hx hb dX8_append_14 (by decide) (fun c1 => absurd c1 (by decide)) (fun _ => ?_)
  refine lv_aload_n hx hb dX8_append_17 rfl (lv_at hl 1 rfl) ?_
  refine f_8_0 F w (a := 1) rfl tb_8 dX8_append_18 ?_
  refine lv_aload_n hx hb dX8_append_21 rfl (lv_at hl 1 rfl) ?_
  refine f_8_1 F w (a := 1) rfl tb_9 dX8_append_22 ?_
  refine r_val (v := 2) (st_at) ?_
  refine lv_iload_n hx hb dX8_append_25 rfl (lv_at hl 2 rfl) ?_
  refine lv_iload_n hx hb dX8_append_26 rfl (lv_at hl 0 rfl) ?_
  refine lv_ishr hx hb dX8_append_27 ?_
  refine lv_i2b (v := ((p1 >>> (8 &&& 31)).toInt8.toInt32)) hx hb dX8_append_28 rfl ?_
  refine g_bast F w (a := 2) rfl (j := 2) ⟨by decide, by decide⟩ (by decide) dX8_append_29 (fun H locs w => ?_)
  refine lv_aload_n hx hb dX8_append_30 rfl (lv_at hl 1 rfl) ?_
  refine lv_dup hx hb dX8_append_31 rfl ?_
  refine f_8_1 F w (a := 1) rfl tb_9 dX8_append_32 ?_
  refine r_val (v := 2) ((st_ne (by decide)).trans st_at) ?_
  refine lv_iconst (v := 1) hx hb dX8_append_35 (by decide) ?_
  refine lv_iadd hx hb dX8_append_36 ?_
  refine r_val (v := 3) (by decide) ?_
  refine u_8_1 F w (a := 1) rfl tb_9 dX8_append_37 (fun H locs w => ?_)
  refine lv_iinc (v := 0) (lv' := [(2, .int 0), (0, .ref (B + 1)), (1, .int p1)]) hx hb dX8_append_40 hl (k := 0) rfl (by decide) (by decide) rfl (fun ls hl => ?_)
  refine lv_goto (tgt := 3) hx hb dX8_append_43 (by decide) ?_
  refine lv_iload_n hx hb dX8_append_3 rfl (lv_at hl 0 rfl) ?_
  refine lv_if_lt (tgt := 46) hx hb dX8_append_4 (by decide) (fun c1 => absurd c1 (by decide)) (fun _ => ?_)
  refine lv_aload_n hx hb dX8_append_7 rfl (lv_at hl 1 rfl) ?_
  refine f_8_1 F w (a := 1) rfl tb_9 dX8_append_8 ?_
  refine r_val (v := 3) (st_at) ?_
  refine lv_sipush (v := 300) hx hb dX8_append_11 (by decide) ?_
  refine lv_icmp_ge (tgt := 46) hx hb dX8_append_14 (by decide) (fun c1 => absurd c1 (by decide)) (fun _ => ?_)
  refine lv_aload_n hx hb dX8_append_17 rfl (lv_at hl 1 rfl) ?_
  refine f_8_0 F w (a := 1) rfl tb_8 dX8_append_18 ?_
  refine lv_aload_n hx hb dX8_append_21 rfl (lv_at hl 1 rfl) ?_
  refine f_8_1 F w (a := 1) rfl tb_9 dX8_append_22 ?_
  refine r_val (v := 3) (st_at) ?_
  refine lv_iload_n hx hb dX8_append_25 rfl (lv_at hl 2 rfl) ?_
  refine lv_iload_n hx hb dX8_append_26 rfl (lv_at hl 0 rfl) ?_
  refine lv_ishr hx hb dX8_append_27 ?_
  refine lv_i2b (v := ((p1 >>> (0 &&& 31)).toInt8.toInt32)) hx hb dX8_append_28 rfl ?_
  refine g_bast F w (a := 2) rfl (j := 3) ⟨by decide, by decide⟩ (by decide) dX8_append_29 (fun H locs w => ?_)
  refine lv_aload_n hx hb dX8_append_30 rfl (lv_at hl 1 rfl) ?_
  refine lv_dup hx hb dX8_append_31 rfl ?_
  refine f_8_1 F w (a := 1) rfl tb_9 dX8_append_32 ?_
  refine r_val (v := 3) ((st_ne (by decide)).trans st_at) ?_
  refine lv_iconst (v := 1) hx hb dX8_append_35 (by decide) ?_
  refine lv_iadd hx hb dX8_append_36 ?_
  refine r_val (v := 4) (by decide) ?_
  refine u_8_1 F w (a := 1) rfl tb_9 dX8_append_37 (fun H locs w => ?_)
  refine lv_iinc (v := (-8)) (lv' := [(2, .int (-8)), (0, .ref (B + 1)), (1, .int p1)]) hx hb dX8_append_40 hl (k := 0) rfl (by decide) (by decide) rfl (fun ls hl => ?_)
  refine lv_goto (tgt := 3) hx hb dX8_append_43 (by decide) ?_
  refine lv_iload_n hx hb dX8_append_3 rfl (lv_at hl 0 rfl) ?_
  refine lv_if_lt (tgt := 46) hx hb dX8_append_4 (by decide) (fun _ => ?_) (fun c1 => absurd c1 (by decide))
  exact e_v F w hr hlocks rfl dX8_append_46
theorem tk_X8_append : Cond.code yX8_append cX8_append 3 none ∈ TB := tbm (tc2 (List.mem_of_getElem? (i := 95) rfl)) rfl
theorem gc_X8_append : GoodIn TB (cw yX8_append cX8_append 3 none) := goodIn_c2 tk_X8_append
theorem tb_139 : Cond.methodLink "ToneLines" 82 yX8_append ∈ TB := tbm (tc2 (List.mem_of_getElem? (i := 92) rfl)) rfl
theorem tb_140 : Cond.instanceMethod yX8_append ∈ TB := tbm (tc2 (List.mem_of_getElem? (i := 93) rfl)) rfl
theorem tb_141 : Cond.selects "ToneLines$Tape" yX8_append yX8_append ∈ TB := tbm (tc2 (List.mem_of_getElem? (i := 94) rfl)) rfl
theorem gv_X11_82 : GoodIn TB (wsV RX11 82 RX8 yX8_append (cw yX8_append cX8_append 3 none)) := goodIn_4 tb_139 tb_140 tb_141 tb_5 gc_X8_append
theorem hv_X8_append : yX8_append.cls = RX8 ∧ yX8_append.cls ≠ "java/lang/invoke/MethodHandle" ∧ yX8_append.cls ≠ "java/lang/invoke/VarHandle" ∧ (parseMethodDescriptor yX8_append.desc).map (fun d => d.parameters.length) = some 1 := by decide +kernel
theorem dX11_feed_26 : decode cX11_feed 26 = .ok (.aload_n 0, 1) := by decide +kernel
theorem dX11_feed_27 : decode cX11_feed 27 = .ok (.getfield 12, 3) := by decide +kernel
theorem dX11_feed_30 : decode cX11_feed 30 = .ok (.iload_n 2, 1) := by decide +kernel
theorem dX11_feed_31 : decode cX11_feed 31 = .ok (.invokevirtual 82, 3) := by decide +kernel
set_option maxRecDepth 4000 in
theorem c_X8_append_59 {l : Launch} {D : va_G} {B : Nat} {cy : Nat → ClassId} {M : Mem} {p1 : Int32} (h0 : M.1 1 1 = 4) : Cv l D B cy yX8_append cX8_append 3 0 0 [.ref (B + 1), .int p1] M (fun M1 => M1 = (st (st (st (st (st (st (st (st M 2 4 ((vp_nar .byte ((p1 >>> (24 &&& 31)).toInt8.toInt32)))) 1 1 5) 2 5 ((vp_nar .byte ((p1 >>> (16 &&& 31)).toInt8.toInt32)))) 1 1 6) 2 6 ((vp_nar .byte ((p1 >>> (8 &&& 31)).toInt8.toInt32)))) 1 1 7) 2 7 ((vp_nar .byte ((p1 >>> (0 &&& 31)).toInt8.toInt32)))) 1 1 8)) := by
  refine s_any (by decide) (Nat.le_of_ble_eq_true rfl) ?_
  intro p e s m below meth c ls F hr hlocks w hl
  have F : CallFix p m c cX8_append 3 s _ TB RX8 := F
  have hx := F.1
  have hb := F.2.1
  have hl : lv_has ls 3 [(0, .ref (B + 1)), (1, .int p1)] := hl
  refine lv_bipush (v := 24) hx hb dX8_append_0 (by decide) ?_
  refine lv_istore_n (lv' := [(2, .int 24), (0, .ref (B + 1)), (1, .int p1)]) hx hb dX8_append_2 rfl hl (by decide) rfl (fun ls hl => ?_)
  refine lv_iload_n hx hb dX8_append_3 rfl (lv_at hl 0 rfl) ?_
  refine lv_if_lt (tgt := 46) hx hb dX8_append_4 (by decide) (fun c1 => absurd c1 (by decide)) (fun _ => ?_)
  refine lv_aload_n hx hb dX8_append_7 rfl (lv_at hl 1 rfl) ?_
  refine f_8_1 F w (a := 1) rfl tb_9 dX8_append_8 ?_
  refine r_val (v := 4) (h0) ?_
  refine lv_sipush (v := 300) hx hb dX8_append_11 (by decide) ?_
  refine lv_icmp_ge (tgt := 46) hx hb dX8_append_14 (by decide) (fun c1 => absurd c1 (by decide)) (fun _ => ?_)
  refine lv_aload_n hx hb dX8_append_17 rfl (lv_at hl 1 rfl) ?_
  refine f_8_0 F w (a := 1) rfl tb_8 dX8_append_18 ?_
  refine lv_aload_n hx hb dX8_append_21 rfl (lv_at hl 1 rfl) ?_
  refine f_8_1 F w (a := 1) rfl tb_9 dX8_append_22 ?_
  refine r_val (v := 4) (h0) ?_
  refine lv_iload_n hx hb dX8_append_25 rfl (lv_at hl 2 rfl) ?_
  refine lv_iload_n hx hb dX8_append_26 rfl (lv_at hl 0 rfl) ?_
  refine lv_ishr hx hb dX8_append_27 ?_
  refine lv_i2b (v := ((p1 >>> (24 &&& 31)).toInt8.toInt32)) hx hb dX8_append_28 rfl ?_
  refine g_bast F w (a := 2) rfl (j := 4) ⟨by decide, by decide⟩ (by decide) dX8_append_29 (fun H locs w => ?_)
  refine lv_aload_n hx hb dX8_append_30 rfl (lv_at hl 1 rfl) ?_
  refine lv_dup hx hb dX8_append_31 rfl ?_
  refine f_8_1 F w (a := 1) rfl tb_9 dX8_append_32 ?_
  refine r_val (v := 4) ((st_ne (by decide)).trans h0) ?_
  refine lv_iconst (v := 1) hx hb dX8_append_35 (by decide) ?_
  refine lv_iadd hx hb dX8_append_36 ?_
  refine r_val (v := 5) (by decide) ?_
  refine u_8_1 F w (a := 1) rfl tb_9 dX8_append_37 (fun H locs w => ?_)
  refine lv_iinc (v := 16) (lv' := [(2, .int 16), (0, .ref (B + 1)), (1, .int p1)]) hx hb dX8_append_40 hl (k := 0) rfl (by decide) (by decide) rfl (fun ls hl => ?_)
  refine lv_goto (tgt := 3) hx hb dX8_append_43 (by decide) ?_
  refine lv_iload_n hx hb dX8_append_3 rfl (lv_at hl 0 rfl) ?_
  refine lv_if_lt (tgt := 46) hx hb dX8_append_4 (by decide) (fun c1 => absurd c1 (by decide)) (fun _ => ?_)
  refine lv_aload_n hx hb dX8_append_7 rfl (lv_at hl 1 rfl) ?_
  refine f_8_1 F w (a := 1) rfl tb_9 dX8_append_8 ?_
  refine r_val (v := 5) (st_at) ?_
  refine lv_sipush (v := 300) hx hb dX8_append_11 (by decide) ?_
  refine lv_icmp_ge (tgt := 46) hx hb dX8_append_14 (by decide) (fun c1 => absurd c1 (by decide)) (fun _ => ?_)
  refine lv_aload_n hx hb dX8_append_17 rfl (lv_at hl 1 rfl) ?_
  refine f_8_0 F w (a := 1) rfl tb_8 dX8_append_18 ?_
  refine lv_aload_n hx hb dX8_append_21 rfl (lv_at hl 1 rfl) ?_
  refine f_8_1 F w (a := 1) rfl tb_9 dX8_append_22 ?_
  refine r_val (v := 5) (st_at) ?_
  refine lv_iload_n hx hb dX8_append_25 rfl (lv_at hl 2 rfl) ?_
  refine lv_iload_n hx hb dX8_append_26 rfl (lv_at hl 0 rfl) ?_
  refine lv_ishr hx hb dX8_append_27 ?_
  refine lv_i2b (v := ((p1 >>> (16 &&& 31)).toInt8.toInt32)) hx hb dX8_append_28 rfl ?_
  refine g_bast F w (a := 2) rfl (j := 5) ⟨by decide, by decide⟩ (by decide) dX8_append_29 (fun H locs w => ?_)
  refine lv_aload_n hx hb dX8_append_30 rfl (lv_at hl 1 rfl) ?_
  refine lv_dup hx hb dX8_append_31 rfl ?_
  refine f_8_1 F w (a := 1) rfl tb_9 dX8_append_32 ?_
  refine r_val (v := 5) ((st_ne (by decide)).trans st_at) ?_
  refine lv_iconst (v := 1) hx hb dX8_append_35 (by decide) ?_
  refine lv_iadd hx hb dX8_append_36 ?_
  refine r_val (v := 6) (by decide) ?_
  refine u_8_1 F w (a := 1) rfl tb_9 dX8_append_37 (fun H locs w => ?_)
  refine lv_iinc (v := 8) (lv' := [(2, .int 8), (0, .ref (B + 1)), (1, .int p1)]) hx hb dX8_append_40 hl (k := 0) rfl (by decide) (by decide) rfl (fun ls hl => ?_)
  refine lv_goto (tgt := 3) hx hb dX8_append_43 (by decide) ?_
  refine lv_iload_n hx hb dX8_append_3 rfl (lv_at hl 0 rfl) ?_
  refine lv_if_lt (tgt := 46) hx hb dX8_append_4 (by decide) (fun c1 => absurd c1 (by decide)) (fun _ => ?_)
  refine lv_aload_n hx hb dX8_append_7 rfl (lv_at hl 1 rfl) ?_
  refine f_8_1 F w (a := 1) rfl tb_9 dX8_append_8 ?_
  refine r_val (v := 6) (st_at) ?_
  refine lv_sipush (v := 300) hx hb dX8_append_11 (by decide) ?_
  refine lv_icmp_ge (tgt := 46) hx hb dX8_append_14 (by decide) (fun c1 => absurd c1 (by decide)) (fun _ => ?_)
  refine lv_aload_n hx hb dX8_append_17 rfl (lv_at hl 1 rfl) ?_
  refine f_8_0 F w (a := 1) rfl tb_8 dX8_append_18 ?_
  refine lv_aload_n hx hb dX8_append_21 rfl (lv_at hl 1 rfl) ?_
  refine f_8_1 F w (a := 1) rfl tb_9 dX8_append_22 ?_
  refine r_val (v := 6) (st_at) ?_
  refine lv_iload_n hx hb dX8_append_25 rfl (lv_at hl 2 rfl) ?_
  refine lv_iload_n hx hb dX8_append_26 rfl (lv_at hl 0 rfl) ?_
  refine lv_ishr hx hb dX8_append_27 ?_
  refine lv_i2b (v := ((p1 >>> (8 &&& 31)).toInt8.toInt32)) hx hb dX8_append_28 rfl ?_
  refine g_bast F w (a := 2) rfl (j := 6) ⟨by decide, by decide⟩ (by decide) dX8_append_29 (fun H locs w => ?_)
  refine lv_aload_n hx hb dX8_append_30 rfl (lv_at hl 1 rfl) ?_
  refine lv_dup hx hb dX8_append_31 rfl ?_
  refine f_8_1 F w (a := 1) rfl tb_9 dX8_append_32 ?_
  refine r_val (v := 6) ((st_ne (by decide)).trans st_at) ?_
  refine lv_iconst (v := 1) hx hb dX8_append_35 (by decide) ?_
  refine lv_iadd hx hb dX8_append_36 ?_
  refine r_val (v := 7) (by decide) ?_
  refine u_8_1 F w (a := 1) rfl tb_9 dX8_append_37 (fun H locs w => ?_)
  refine lv_iinc (v := 0) (lv' := [(2, .int 0), (0, .ref (B + 1)), (1, .int p1)]) hx hb dX8_append_40 hl (k := 0) rfl (by decide) (by decide) rfl (fun ls hl => ?_)
  refine lv_goto (tgt := 3) hx hb dX8_append_43 (by decide) ?_
  refine lv_iload_n hx hb dX8_append_3 rfl (lv_at hl 0 rfl) ?_
  refine lv_if_lt (tgt := 46) hx hb dX8_append_4 (by decide) (fun c1 => absurd c1 (by decide)) (fun _ => ?_)
  refine lv_aload_n hx hb dX8_append_7 rfl (lv_at hl 1 rfl) ?_
  refine f_8_1 F w (a := 1) rfl tb_9 dX8_append_8 ?_
  refine r_val (v := 7) (st_at) ?_
  refine lv_sipush (v := 300) hx hb dX8_append_11 (by decide) ?_
  refine lv_icmp_ge (tgt := 46) hx hb dX8_append_14 (by decide) (fun c1 => absurd c1 (by decide)) (fun _ => ?_)
  refine lv_aload_n hx hb dX8_append_17 rfl (lv_at hl 1 rfl) ?_
  refine f_8_0 F w (a := 1) rfl tb_8 dX8_append_18 ?_
  refine lv_aload_n hx hb dX8_append_21 rfl (lv_at hl 1 rfl) ?_
  refine f_8_1 F w (a := 1) rfl tb_9 dX8_append_22 ?_
  refine r_val (v := 7) (st_at) ?_
  refine lv_iload_n hx hb dX8_append_25 rfl (lv_at hl 2 rfl) ?_
  refine lv_iload_n hx hb dX8_append_26 rfl (lv_at hl 0 rfl) ?_
  refine lv_ishr hx hb dX8_append_27 ?_
  refine lv_i2b (v := ((p1 >>> (0 &&& 31)).toInt8.toInt32)) hx hb dX8_append_28 rfl ?_
  refine g_bast F w (a := 2) rfl (j := 7) ⟨by decide, by decide⟩ (by decide) dX8_append_29 (fun H locs w => ?_)
  refine lv_aload_n hx hb dX8_append_30 rfl (lv_at hl 1 rfl) ?_
  refine lv_dup hx hb dX8_append_31 rfl ?_
  refine f_8_1 F w (a := 1) rfl tb_9 dX8_append_32 ?_
  refine r_val (v := 7) ((st_ne (by decide)).trans st_at) ?_
  refine lv_iconst (v := 1) hx hb dX8_append_35 (by decide) ?_
  refine lv_iadd hx hb dX8_append_36 ?_
  refine r_val (v := 8) (by decide) ?_
  refine u_8_1 F w (a := 1) rfl tb_9 dX8_append_37 (fun H locs w => ?_)
  refine lv_iinc (v := (-8)) (lv' := [(2, .int (-8)), (0, .ref (B + 1)), (1, .int p1)]) hx hb dX8_append_40 hl (k := 0) rfl (by decide) (by decide) rfl (fun ls hl => ?_)
  refine lv_goto (tgt := 3) hx hb dX8_append_43 (by decide) ?_
  refine lv_iload_n hx hb dX8_append_3 rfl (lv_at hl 0 rfl) ?_
  refine lv_if_lt (tgt := 46) hx hb dX8_append_4 (by decide) (fun _ => ?_) (fun c1 => absurd c1 (by decide))
  exact e_v F w hr hlocks rfl dX8_append_46
theorem dX11_feed_34 : decode cX11_feed 34 = .ok (.aload_n 0, 1) := by decide +kernel
theorem dX11_feed_35 : decode cX11_feed 35 = .ok (.getfield 12, 3) := by decide +kernel
theorem dX11_feed_38 : decode cX11_feed 38 = .ok (.iload_n 3, 1) := by decide +kernel
theorem dX11_feed_39 : decode cX11_feed 39 = .ok (.invokevirtual 82, 3) := by decide +kernel
set_option maxRecDepth 4000 in
theorem c_X8_append_60 {l : Launch} {D : va_G} {B : Nat} {cy : Nat → ClassId} {M : Mem} {p1 : Int32} (h0 : M.1 1 1 = 8) : Cv l D B cy yX8_append cX8_append 3 0 0 [.ref (B + 1), .int p1] M (fun M1 => M1 = (st (st (st (st (st (st (st (st M 2 8 ((vp_nar .byte ((p1 >>> (24 &&& 31)).toInt8.toInt32)))) 1 1 9) 2 9 ((vp_nar .byte ((p1 >>> (16 &&& 31)).toInt8.toInt32)))) 1 1 10) 2 10 ((vp_nar .byte ((p1 >>> (8 &&& 31)).toInt8.toInt32)))) 1 1 11) 2 11 ((vp_nar .byte ((p1 >>> (0 &&& 31)).toInt8.toInt32)))) 1 1 12)) := by
  refine s_any (by decide) (Nat.le_of_ble_eq_true rfl) ?_
  intro p e s m below meth c ls F hr hlocks w hl
  have F : CallFix p m c cX8_append 3 s _ TB RX8 := F
  have hx := F.1
  have hb := F.2.1
  have hl : lv_has ls 3 [(0, .ref (B + 1)), (1, .int p1)] := hl
  refine lv_bipush (v := 24) hx hb dX8_append_0 (by decide) ?_
  refine lv_istore_n (lv' := [(2, .int 24), (0, .ref (B + 1)), (1, .int p1)]) hx hb dX8_append_2 rfl hl (by decide) rfl (fun ls hl => ?_)
  refine lv_iload_n hx hb dX8_append_3 rfl (lv_at hl 0 rfl) ?_
  refine lv_if_lt (tgt := 46) hx hb dX8_append_4 (by decide) (fun c1 => absurd c1 (by decide)) (fun _ => ?_)
  refine lv_aload_n hx hb dX8_append_7 rfl (lv_at hl 1 rfl) ?_
  refine f_8_1 F w (a := 1) rfl tb_9 dX8_append_8 ?_
  refine r_val (v := 8) (h0) ?_
  refine lv_sipush (v := 300) hx hb dX8_append_11 (by decide) ?_
  refine lv_icmp_ge (tgt := 46) hx hb dX8_append_14 (by decide) (fun c1 => absurd c1 (by decide)) (fun _ => ?_)
  refine lv_aload_n hx hb dX8_append_17 rfl (lv_at hl 1 rfl) ?_
  refine f_8_0 F w (a := 1) rfl tb_8 dX8_append_18 ?_
  refine lv_aload_n hx hb dX8_append_21 rfl (lv_at hl 1 rfl) ?_
  refine f_8_1 F w (a := 1) rfl tb_9 dX8_append_22 ?_
  refine r_val (v := 8) (h0) ?_
  refine lv_iload_n hx hb dX8_append_25 rfl (lv_at hl 2 rfl) ?_
  refine lv_iload_n hx hb dX8_append_26 rfl (lv_at hl 0 rfl) ?_
  refine lv_ishr hx hb dX8_append_27 ?_
  refine lv_i2b (v := ((p1 >>> (24 &&& 31)).toInt8.toInt32)) hx hb dX8_append_28 rfl ?_
  refine g_bast F w (a := 2) rfl (j := 8) ⟨by decide, by decide⟩ (by decide) dX8_append_29 (fun H locs w => ?_)
  refine lv_aload_n hx hb dX8_append_30 rfl (lv_at hl 1 rfl) ?_
  refine lv_dup hx hb dX8_append_31 rfl ?_
  refine f_8_1 F w (a := 1) rfl tb_9 dX8_append_32 ?_
  refine r_val (v := 8) ((st_ne (by decide)).trans h0) ?_
  refine lv_iconst (v := 1) hx hb dX8_append_35 (by decide) ?_
  refine lv_iadd hx hb dX8_append_36 ?_
  refine r_val (v := 9) (by decide) ?_
  refine u_8_1 F w (a := 1) rfl tb_9 dX8_append_37 (fun H locs w => ?_)
  refine lv_iinc (v := 16) (lv' := [(2, .int 16), (0, .ref (B + 1)), (1, .int p1)]) hx hb dX8_append_40 hl (k := 0) rfl (by decide) (by decide) rfl (fun ls hl => ?_)
  refine lv_goto (tgt := 3) hx hb dX8_append_43 (by decide) ?_
  refine lv_iload_n hx hb dX8_append_3 rfl (lv_at hl 0 rfl) ?_
  refine lv_if_lt (tgt := 46) hx hb dX8_append_4 (by decide) (fun c1 => absurd c1 (by decide)) (fun _ => ?_)
  refine lv_aload_n hx hb dX8_append_7 rfl (lv_at hl 1 rfl) ?_
  refine f_8_1 F w (a := 1) rfl tb_9 dX8_append_8 ?_
  refine r_val (v := 9) (st_at) ?_
  refine lv_sipush (v := 300) hx hb dX8_append_11 (by decide) ?_
  refine lv_icmp_ge (tgt := 46) hx hb dX8_append_14 (by decide) (fun c1 => absurd c1 (by decide)) (fun _ => ?_)
  refine lv_aload_n hx hb dX8_append_17 rfl (lv_at hl 1 rfl) ?_
  refine f_8_0 F w (a := 1) rfl tb_8 dX8_append_18 ?_
  refine lv_aload_n hx hb dX8_append_21 rfl (lv_at hl 1 rfl) ?_
  refine f_8_1 F w (a := 1) rfl tb_9 dX8_append_22 ?_
  refine r_val (v := 9) (st_at) ?_
  refine lv_iload_n hx hb dX8_append_25 rfl (lv_at hl 2 rfl) ?_
  refine lv_iload_n hx hb dX8_append_26 rfl (lv_at hl 0 rfl) ?_
  refine lv_ishr hx hb dX8_append_27 ?_
  refine lv_i2b (v := ((p1 >>> (16 &&& 31)).toInt8.toInt32)) hx hb dX8_append_28 rfl ?_
  refine g_bast F w (a := 2) rfl (j := 9) ⟨by decide, by decide⟩ (by decide) dX8_append_29 (fun H locs w => ?_)
  refine lv_aload_n hx hb dX8_append_30 rfl (lv_at hl 1 rfl) ?_
  refine lv_dup hx hb dX8_append_31 rfl ?_
  refine f_8_1 F w (a := 1) rfl tb_9 dX8_append_32 ?_
  refine r_val (v := 9) ((st_ne (by decide)).trans st_at) ?_
  refine lv_iconst (v := 1) hx hb dX8_append_35 (by decide) ?_
  refine lv_iadd hx hb dX8_append_36 ?_
  refine r_val (v := 10) (by decide) ?_
  refine u_8_1 F w (a := 1) rfl tb_9 dX8_append_37 (fun H locs w => ?_)
  refine lv_iinc (v := 8) (lv' := [(2, .int 8), (0, .ref (B + 1)), (1, .int p1)]) hx hb dX8_append_40 hl (k := 0) rfl (by decide) (by decide) rfl (fun ls hl => ?_)
  refine lv_goto (tgt := 3) hx hb dX8_append_43 (by decide) ?_
  refine lv_iload_n hx hb dX8_append_3 rfl (lv_at hl 0 rfl) ?_
  refine lv_if_lt (tgt := 46) hx hb dX8_append_4 (by decide) (fun c1 => absurd c1 (by decide)) (fun _ => ?_)
  refine lv_aload_n hx hb dX8_append_7 rfl (lv_at hl 1 rfl) ?_
  refine f_8_1 F w (a := 1) rfl tb_9 dX8_append_8 ?_
  refine r_val (v := 10) (st_at) ?_
  refine lv_sipush (v := 300) hx hb dX8_append_11 (by decide) ?_
  refine lv_icmp_ge (tgt := 46) hx hb dX8_append_14 (by decide) (fun c1 => absurd c1 (by decide)) (fun _ => ?_)
  refine lv_aload_n hx hb dX8_append_17 rfl (lv_at hl 1 rfl) ?_
  refine f_8_0 F w (a := 1) rfl tb_8 dX8_append_18 ?_
  refine lv_aload_n hx hb dX8_append_21 rfl (lv_at hl 1 rfl) ?_
  refine f_8_1 F w (a := 1) rfl tb_9 dX8_append_22 ?_
  refine r_val (v := 10) (st_at) ?_
  refine lv_iload_n hx hb dX8_append_25 rfl (lv_at hl 2 rfl) ?_
  refine lv_iload_n hx hb dX8_append_26 rfl (lv_at hl 0 rfl) ?_
  refine lv_ishr hx hb dX8_append_27 ?_
  refine lv_i2b (v := ((p1 >>> (8 &&& 31)).toInt8.toInt32)) hx hb dX8_append_28 rfl ?_
  refine g_bast F w (a := 2) rfl (j := 10) ⟨by decide, by decide⟩ (by decide) dX8_append_29 (fun H locs w => ?_)
  refine lv_aload_n hx hb dX8_append_30 rfl (lv_at hl 1 rfl) ?_
  refine lv_dup hx hb dX8_append_31 rfl ?_
  refine f_8_1 F w (a := 1) rfl tb_9 dX8_append_32 ?_
  refine r_val (v := 10) ((st_ne (by decide)).trans st_at) ?_
  refine lv_iconst (v := 1) hx hb dX8_append_35 (by decide) ?_
  refine lv_iadd hx hb dX8_append_36 ?_
  refine r_val (v := 11) (by decide) ?_
  refine u_8_1 F w (a := 1) rfl tb_9 dX8_append_37 (fun H locs w => ?_)
  refine lv_iinc (v := 0) (lv' := [(2, .int 0), (0, .ref (B + 1)), (1, .int p1)]) hx hb dX8_append_40 hl (k := 0) rfl (by decide) (by decide) rfl (fun ls hl => ?_)
  refine lv_goto (tgt := 3) hx hb dX8_append_43 (by decide) ?_
  refine lv_iload_n hx hb dX8_append_3 rfl (lv_at hl 0 rfl) ?_
  refine lv_if_lt (tgt := 46) hx hb dX8_append_4 (by decide) (fun c1 => absurd c1 (by decide)) (fun _ => ?_)
  refine lv_aload_n hx hb dX8_append_7 rfl (lv_at hl 1 rfl) ?_
  refine f_8_1 F w (a := 1) rfl tb_9 dX8_append_8 ?_
  refine r_val (v := 11) (st_at) ?_
  refine lv_sipush (v := 300) hx hb dX8_append_11 (by decide) ?_
  refine lv_icmp_ge (tgt := 46) hx hb dX8_append_14 (by decide) (fun c1 => absurd c1 (by decide)) (fun _ => ?_)
  refine lv_aload_n hx hb dX8_append_17 rfl (lv_at hl 1 rfl) ?_
  refine f_8_0 F w (a := 1) rfl tb_8 dX8_append_18 ?_
  refine lv_aload_n hx hb dX8_append_21 rfl (lv_at hl 1 rfl) ?_
  refine f_8_1 F w (a := 1) rfl tb_9 dX8_append_22 ?_
  refine r_val (v := 11) (st_at) ?_
  refine lv_iload_n hx hb dX8_append_25 rfl (lv_at hl 2 rfl) ?_
  refine lv_iload_n hx hb dX8_append_26 rfl (lv_at hl 0 rfl) ?_
  refine lv_ishr hx hb dX8_append_27 ?_
  refine lv_i2b (v := ((p1 >>> (0 &&& 31)).toInt8.toInt32)) hx hb dX8_append_28 rfl ?_
  refine g_bast F w (a := 2) rfl (j := 11) ⟨by decide, by decide⟩ (by decide) dX8_append_29 (fun H locs w => ?_)
  refine lv_aload_n hx hb dX8_append_30 rfl (lv_at hl 1 rfl) ?_
  refine lv_dup hx hb dX8_append_31 rfl ?_
  refine f_8_1 F w (a := 1) rfl tb_9 dX8_append_32 ?_
  refine r_val (v := 11) ((st_ne (by decide)).trans st_at) ?_
  refine lv_iconst (v := 1) hx hb dX8_append_35 (by decide) ?_
  refine lv_iadd hx hb dX8_append_36 ?_
  refine r_val (v := 12) (by decide) ?_
  refine u_8_1 F w (a := 1) rfl tb_9 dX8_append_37 (fun H locs w => ?_)
  refine lv_iinc (v := (-8)) (lv' := [(2, .int (-8)), (0, .ref (B + 1)), (1, .int p1)]) hx hb dX8_append_40 hl (k := 0) rfl (by decide) (by decide) rfl (fun ls hl => ?_)
  refine lv_goto (tgt := 3) hx hb dX8_append_43 (by decide) ?_
  refine lv_iload_n hx hb dX8_append_3 rfl (lv_at hl 0 rfl) ?_
  refine lv_if_lt (tgt := 46) hx hb dX8_append_4 (by decide) (fun _ => ?_) (fun c1 => absurd c1 (by decide))
  exact e_v F w hr hlocks rfl dX8_append_46
theorem dX11_feed_42 : decode cX11_feed 42 = .ok (.aload_n 0, 1) := by decide +kernel
theorem dX11_feed_43 : decode cX11_feed 43 = .ok (.getfield 12, 3) := by decide +kernel
theorem dX11_feed_46 : decode cX11_feed 46 = .ok (.iload 4, 2) := by decide +kernel
theorem dX11_feed_48 : decode cX11_feed 48 = .ok (.invokevirtual 82, 3) := by decide +kernel
set_option maxRecDepth 4000 in
theorem c_X8_append_61 {l : Launch} {D : va_G} {B : Nat} {cy : Nat → ClassId} {M : Mem} {p1 : Int32} (h0 : M.1 1 1 = 12) : Cv l D B cy yX8_append cX8_append 3 0 0 [.ref (B + 1), .int p1] M (fun M1 => M1 = (st (st (st (st (st (st (st (st M 2 12 ((vp_nar .byte ((p1 >>> (24 &&& 31)).toInt8.toInt32)))) 1 1 13) 2 13 ((vp_nar .byte ((p1 >>> (16 &&& 31)).toInt8.toInt32)))) 1 1 14) 2 14 ((vp_nar .byte ((p1 >>> (8 &&& 31)).toInt8.toInt32)))) 1 1 15) 2 15 ((vp_nar .byte ((p1 >>> (0 &&& 31)).toInt8.toInt32)))) 1 1 16)) := by
  refine s_any (by decide) (Nat.le_of_ble_eq_true rfl) ?_
  intro p e s m below meth c ls F hr hlocks w hl
  have F : CallFix p m c cX8_append 3 s _ TB RX8 := F
  have hx := F.1
  have hb := F.2.1
  have hl : lv_has ls 3 [(0, .ref (B + 1)), (1, .int p1)] := hl
  refine lv_bipush (v := 24) hx hb dX8_append_0 (by decide) ?_
  refine lv_istore_n (lv' := [(2, .int 24), (0, .ref (B + 1)), (1, .int p1)]) hx hb dX8_append_2 rfl hl (by decide) rfl (fun ls hl => ?_)
  refine lv_iload_n hx hb dX8_append_3 rfl (lv_at hl 0 rfl) ?_
  refine lv_if_lt (tgt := 46) hx hb dX8_append_4 (by decide) (fun c1 => absurd c1 (by decide)) (fun _ => ?_)
  refine lv_aload_n hx hb dX8_append_7 rfl (lv_at hl 1 rfl) ?_
  refine f_8_1 F w (a := 1) rfl tb_9 dX8_append_8 ?_
  refine r_val (v := 12) (h0) ?_
  refine lv_sipush (v := 300) hx hb dX8_append_11 (by decide) ?_
  refine lv_icmp_ge (tgt := 46) hx hb dX8_append_14 (by decide) (fun c1 => absurd c1 (by decide)) (fun _ => ?_)
  refine lv_aload_n hx hb dX8_append_17 rfl (lv_at hl 1 rfl) ?_
  refine f_8_0 F w (a := 1) rfl tb_8 dX8_append_18 ?_
  refine lv_aload_n hx hb dX8_append_21 rfl (lv_at hl 1 rfl) ?_
  refine f_8_1 F w (a := 1) rfl tb_9 dX8_append_22 ?_
  refine r_val (v := 12) (h0) ?_
  refine lv_iload_n hx hb dX8_append_25 rfl (lv_at hl 2 rfl) ?_
  refine lv_iload_n hx hb dX8_append_26 rfl (lv_at hl 0 rfl) ?_
  refine lv_ishr hx hb dX8_append_27 ?_
  refine lv_i2b (v := ((p1 >>> (24 &&& 31)).toInt8.toInt32)) hx hb dX8_append_28 rfl ?_
  refine g_bast F w (a := 2) rfl (j := 12) ⟨by decide, by decide⟩ (by decide) dX8_append_29 (fun H locs w => ?_)
  refine lv_aload_n hx hb dX8_append_30 rfl (lv_at hl 1 rfl) ?_
  refine lv_dup hx hb dX8_append_31 rfl ?_
  refine f_8_1 F w (a := 1) rfl tb_9 dX8_append_32 ?_
  refine r_val (v := 12) ((st_ne (by decide)).trans h0) ?_
  refine lv_iconst (v := 1) hx hb dX8_append_35 (by decide) ?_
  refine lv_iadd hx hb dX8_append_36 ?_
  refine r_val (v := 13) (by decide) ?_
  refine u_8_1 F w (a := 1) rfl tb_9 dX8_append_37 (fun H locs w => ?_)
  refine lv_iinc (v := 16) (lv' := [(2, .int 16), (0, .ref (B + 1)), (1, .int p1)]) hx hb dX8_append_40 hl (k := 0) rfl (by decide) (by decide) rfl (fun ls hl => ?_)
  refine lv_goto (tgt := 3) hx hb dX8_append_43 (by decide) ?_
  refine lv_iload_n hx hb dX8_append_3 rfl (lv_at hl 0 rfl) ?_
  refine lv_if_lt (tgt := 46) hx hb dX8_append_4 (by decide) (fun c1 => absurd c1 (by decide)) (fun _ => ?_)
  refine lv_aload_n hx hb dX8_append_7 rfl (lv_at hl 1 rfl) ?_
  refine f_8_1 F w (a := 1) rfl tb_9 dX8_append_8 ?_
  refine r_val (v := 13) (st_at) ?_
  refine lv_sipush (v := 300) hx hb dX8_append_11 (by decide) ?_
  refine lv_icmp_ge (tgt := 46) hx hb dX8_append_14 (by decide) (fun c1 => absurd c1 (by decide)) (fun _ => ?_)
  refine lv_aload_n hx hb dX8_append_17 rfl (lv_at hl 1 rfl) ?_
  refine f_8_0 F w (a := 1) rfl tb_8 dX8_append_18 ?_
  refine lv_aload_n hx hb dX8_append_21 rfl (lv_at hl 1 rfl) ?_
  refine f_8_1 F w (a := 1) rfl tb_9 dX8_append_22 ?_
  refine r_val (v := 13) (st_at) ?_
  refine lv_iload_n hx hb dX8_append_25 rfl (lv_at hl 2 rfl) ?_
  refine lv_iload_n hx hb dX8_append_26 rfl (lv_at hl 0 rfl) ?_
  refine lv_ishr hx hb dX8_append_27 ?_
  refine lv_i2b (v := ((p1 >>> (16 &&& 31)).toInt8.toInt32)) hx hb dX8_append_28 rfl ?_
  refine g_bast F w (a := 2) rfl (j := 13) ⟨by decide, by decide⟩ (by decide) dX8_append_29 (fun H locs w => ?_)
  refine lv_aload_n hx hb dX8_append_30 rfl (lv_at hl 1 rfl) ?_
  refine lv_dup hx hb dX8_append_31 rfl ?_
  refine f_8_1 F w (a := 1) rfl tb_9 dX8_append_32 ?_
  refine r_val (v := 13) ((st_ne (by decide)).trans st_at) ?_
  refine lv_iconst (v := 1) hx hb dX8_append_35 (by decide) ?_
  refine lv_iadd hx hb dX8_append_36 ?_
  refine r_val (v := 14) (by decide) ?_
  refine u_8_1 F w (a := 1) rfl tb_9 dX8_append_37 (fun H locs w => ?_)
  refine lv_iinc (v := 8) (lv' := [(2, .int 8), (0, .ref (B + 1)), (1, .int p1)]) hx hb dX8_append_40 hl (k := 0) rfl (by decide) (by decide) rfl (fun ls hl => ?_)
  refine lv_goto (tgt := 3) hx hb dX8_append_43 (by decide) ?_
  refine lv_iload_n hx hb dX8_append_3 rfl (lv_at hl 0 rfl) ?_
  refine lv_if_lt (tgt := 46) hx hb dX8_append_4 (by decide) (fun c1 => absurd c1 (by decide)) (fun _ => ?_)
  refine lv_aload_n hx hb dX8_append_7 rfl (lv_at hl 1 rfl) ?_
  refine f_8_1 F w (a := 1) rfl tb_9 dX8_append_8 ?_
  refine r_val (v := 14) (st_at) ?_
  refine lv_sipush (v := 300) hx hb dX8_append_11 (by decide) ?_
  refine lv_icmp_ge (tgt := 46) hx hb dX8_append_14 (by decide) (fun c1 => absurd c1 (by decide)) (fun _ => ?_)
  refine lv_aload_n hx hb dX8_append_17 rfl (lv_at hl 1 rfl) ?_
  refine f_8_0 F w (a := 1) rfl tb_8 dX8_append_18 ?_
  refine lv_aload_n hx hb dX8_append_21 rfl (lv_at hl 1 rfl) ?_
  refine f_8_1 F w (a := 1) rfl tb_9 dX8_append_22 ?_
  refine r_val (v := 14) (st_at) ?_
  refine lv_iload_n hx hb dX8_append_25 rfl (lv_at hl 2 rfl) ?_
  refine lv_iload_n hx hb dX8_append_26 rfl (lv_at hl 0 rfl) ?_
  refine lv_ishr hx hb dX8_append_27 ?_
  refine lv_i2b (v := ((p1 >>> (8 &&& 31)).toInt8.toInt32)) hx hb dX8_append_28 rfl ?_
  refine g_bast F w (a := 2) rfl (j := 14) ⟨by decide, by decide⟩ (by decide) dX8_append_29 (fun H locs w => ?_)
  refine lv_aload_n hx hb dX8_append_30 rfl (lv_at hl 1 rfl) ?_
  refine lv_dup hx hb dX8_append_31 rfl ?_
  refine f_8_1 F w (a := 1) rfl tb_9 dX8_append_32 ?_
  refine r_val (v := 14) ((st_ne (by decide)).trans st_at) ?_
  refine lv_iconst (v := 1) hx hb dX8_append_35 (by decide) ?_
  refine lv_iadd hx hb dX8_append_36 ?_
  refine r_val (v := 15) (by decide) ?_
  refine u_8_1 F w (a := 1) rfl tb_9 dX8_append_37 (fun H locs w => ?_)
  refine lv_iinc (v := 0) (lv' := [(2, .int 0), (0, .ref (B + 1)), (1, .int p1)]) hx hb dX8_append_40 hl (k := 0) rfl (by decide) (by decide) rfl (fun ls hl => ?_)
  refine lv_goto (tgt := 3) hx hb dX8_append_43 (by decide) ?_
  refine lv_iload_n hx hb dX8_append_3 rfl (lv_at hl 0 rfl) ?_
  refine lv_if_lt (tgt := 46) hx hb dX8_append_4 (by decide) (fun c1 => absurd c1 (by decide)) (fun _ => ?_)
  refine lv_aload_n hx hb dX8_append_7 rfl (lv_at hl 1 rfl) ?_
  refine f_8_1 F w (a := 1) rfl tb_9 dX8_append_8 ?_
  refine r_val (v := 15) (st_at) ?_
  refine lv_sipush (v := 300) hx hb dX8_append_11 (by decide) ?_
  refine lv_icmp_ge (tgt := 46) hx hb dX8_append_14 (by decide) (fun c1 => absurd c1 (by decide)) (fun _ => ?_)
  refine lv_aload_n hx hb dX8_append_17 rfl (lv_at hl 1 rfl) ?_
  refine f_8_0 F w (a := 1) rfl tb_8 dX8_append_18 ?_
  refine lv_aload_n hx hb dX8_append_21 rfl (lv_at hl 1 rfl) ?_
  refine f_8_1 F w (a := 1) rfl tb_9 dX8_append_22 ?_
  refine r_val (v := 15) (st_at) ?_
  refine lv_iload_n hx hb dX8_append_25 rfl (lv_at hl 2 rfl) ?_
  refine lv_iload_n hx hb dX8_append_26 rfl (lv_at hl 0 rfl) ?_
  refine lv_ishr hx hb dX8_append_27 ?_
  refine lv_i2b (v := ((p1 >>> (0 &&& 31)).toInt8.toInt32)) hx hb dX8_append_28 rfl ?_
  refine g_bast F w (a := 2) rfl (j := 15) ⟨by decide, by decide⟩ (by decide) dX8_append_29 (fun H locs w => ?_)
  refine lv_aload_n hx hb dX8_append_30 rfl (lv_at hl 1 rfl) ?_
  refine lv_dup hx hb dX8_append_31 rfl ?_
  refine f_8_1 F w (a := 1) rfl tb_9 dX8_append_32 ?_
  refine r_val (v := 15) ((st_ne (by decide)).trans st_at) ?_
  refine lv_iconst (v := 1) hx hb dX8_append_35 (by decide) ?_
  refine lv_iadd hx hb dX8_append_36 ?_
  refine r_val (v := 16) (by decide) ?_
  refine u_8_1 F w (a := 1) rfl tb_9 dX8_append_37 (fun H locs w => ?_)
  refine lv_iinc (v := (-8)) (lv' := [(2, .int (-8)), (0, .ref (B + 1)), (1, .int p1)]) hx hb dX8_append_40 hl (k := 0) rfl (by decide) (by decide) rfl (fun ls hl => ?_)
  refine lv_goto (tgt := 3) hx hb dX8_append_43 (by decide) ?_
  refine lv_iload_n hx hb dX8_append_3 rfl (lv_at hl 0 rfl) ?_
  refine lv_if_lt (tgt := 46) hx hb dX8_append_4 (by decide) (fun _ => ?_) (fun c1 => absurd c1 (by decide))
  exact e_v F w hr hlocks rfl dX8_append_46
theorem dX11_feed_51 : decode cX11_feed 51 = .ok (.aload_n 0, 1) := by decide +kernel
theorem dX11_feed_52 : decode cX11_feed 52 = .ok (.getfield 12, 3) := by decide +kernel
theorem dX11_feed_55 : decode cX11_feed 55 = .ok (.iload 5, 2) := by decide +kernel
theorem dX11_feed_57 : decode cX11_feed 57 = .ok (.invokevirtual 82, 3) := by decide +kernel
set_option maxRecDepth 4000 in
theorem c_X8_append_62 {l : Launch} {D : va_G} {B : Nat} {cy : Nat → ClassId} {M : Mem} {p1 : Int32} (h0 : M.1 1 1 = 16) : Cv l D B cy yX8_append cX8_append 3 0 0 [.ref (B + 1), .int p1] M (fun M1 => M1 = (st (st (st (st (st (st (st (st M 2 16 ((vp_nar .byte ((p1 >>> (24 &&& 31)).toInt8.toInt32)))) 1 1 17) 2 17 ((vp_nar .byte ((p1 >>> (16 &&& 31)).toInt8.toInt32)))) 1 1 18) 2 18 ((vp_nar .byte ((p1 >>> (8 &&& 31)).toInt8.toInt32)))) 1 1 19) 2 19 ((vp_nar .byte ((p1 >>> (0 &&& 31)).toInt8.toInt32)))) 1 1 20)) := by
  refine s_any (by decide) (Nat.le_of_ble_eq_true rfl) ?_
  intro p e s m below meth c ls F hr hlocks w hl
  have F : CallFix p m c cX8_append 3 s _ TB RX8 := F
  have hx := F.1
  have hb := F.2.1
  have hl : lv_has ls 3 [(0, .ref (B + 1)), (1, .int p1)] := hl
  refine lv_bipush (v := 24) hx hb dX8_append_0 (by decide) ?_
  refine lv_istore_n (lv' := [(2, .int 24), (0, .ref (B + 1)), (1, .int p1)]) hx hb dX8_append_2 rfl hl (by decide) rfl (fun ls hl => ?_)
  refine lv_iload_n hx hb dX8_append_3 rfl (lv_at hl 0 rfl) ?_
  refine lv_if_lt (tgt := 46) hx hb dX8_append_4 (by decide) (fun c1 => absurd c1 (by decide)) (fun _ => ?_)
  refine lv_aload_n hx hb dX8_append_7 rfl (lv_at hl 1 rfl) ?_
  refine f_8_1 F w (a := 1) rfl tb_9 dX8_append_8 ?_
  refine r_val (v := 16) (h0) ?_
  refine lv_sipush (v := 300) hx hb dX8_append_11 (by decide) ?_
  refine lv_icmp_ge (tgt := 46) hx hb dX8_append_14 (by decide) (fun c1 => absurd c1 (by decide)) (fun _ => ?_)
  refine lv_aload_n hx hb dX8_append_17 rfl (lv_at hl 1 rfl) ?_
  refine f_8_0 F w (a := 1) rfl tb_8 dX8_append_18 ?_
  refine lv_aload_n hx hb dX8_append_21 rfl (lv_at hl 1 rfl) ?_
  refine f_8_1 F w (a := 1) rfl tb_9 dX8_append_22 ?_
  refine r_val (v := 16) (h0) ?_
  refine lv_iload_n hx hb dX8_append_25 rfl (lv_at hl 2 rfl) ?_
  refine lv_iload_n hx hb dX8_append_26 rfl (lv_at hl 0 rfl) ?_
  refine lv_ishr hx hb dX8_append_27 ?_
  refine lv_i2b (v := ((p1 >>> (24 &&& 31)).toInt8.toInt32)) hx hb dX8_append_28 rfl ?_
  refine g_bast F w (a := 2) rfl (j := 16) ⟨by decide, by decide⟩ (by decide) dX8_append_29 (fun H locs w => ?_)
  refine lv_aload_n hx hb dX8_append_30 rfl (lv_at hl 1 rfl) ?_
  refine lv_dup hx hb dX8_append_31 rfl ?_
  refine f_8_1 F w (a := 1) rfl tb_9 dX8_append_32 ?_
  refine r_val (v := 16) ((st_ne (by decide)).trans h0) ?_
  refine lv_iconst (v := 1) hx hb dX8_append_35 (by decide) ?_
  refine lv_iadd hx hb dX8_append_36 ?_
  refine r_val (v := 17) (by decide) ?_
  refine u_8_1 F w (a := 1) rfl tb_9 dX8_append_37 (fun H locs w => ?_)
  refine lv_iinc (v := 16) (lv' := [(2, .int 16), (0, .ref (B + 1)), (1, .int p1)]) hx hb dX8_append_40 hl (k := 0) rfl (by decide) (by decide) rfl (fun ls hl => ?_)
  refine lv_goto (tgt := 3) hx hb dX8_append_43 (by decide) ?_
  refine lv_iload_n hx hb dX8_append_3 rfl (lv_at hl 0 rfl) ?_
  refine lv_if_lt (tgt := 46) hx hb dX8_append_4 (by decide) (fun c1 => absurd c1 (by decide)) (fun _ => ?_)
  refine lv_aload_n hx hb dX8_append_7 rfl (lv_at hl 1 rfl) ?_
  refine f_8_1 F w (a := 1) rfl tb_9 dX8_append_8 ?_
  refine r_val (v := 17) (st_at) ?_
  refine lv_sipush (v := 300) hx hb dX8_append_11 (by decide) ?_
  refine lv_icmp_ge (tgt := 46) hx hb dX8_append_14 (by decide) (fun c1 => absurd c1 (by decide)) (fun _ => ?_)
  refine lv_aload_n hx hb dX8_append_17 rfl (lv_at hl 1 rfl) ?_
  refine f_8_0 F w (a := 1) rfl tb_8 dX8_append_18 ?_
  refine lv_aload_n hx hb dX8_append_21 rfl (lv_at hl 1 rfl) ?_
  refine f_8_1 F w (a := 1) rfl tb_9 dX8_append_22 ?_
  refine r_val (v := 17) (st_at) ?_
  refine lv_iload_n hx hb dX8_append_25 rfl (lv_at hl 2 rfl) ?_
  refine lv_iload_n hx hb dX8_append_26 rfl (lv_at hl 0 rfl) ?_
  refine lv_ishr hx hb dX8_append_27 ?_
  refine lv_i2b (v := ((p1 >>> (16 &&& 31)).toInt8.toInt32)) hx hb dX8_append_28 rfl ?_
  refine g_bast F w (a := 2) rfl (j := 17) ⟨by decide, by decide⟩ (by decide) dX8_append_29 (fun H locs w => ?_)
  refine lv_aload_n hx hb dX8_append_30 rfl (lv_at hl 1 rfl) ?_
  refine lv_dup hx hb dX8_append_31 rfl ?_
  refine f_8_1 F w (a := 1) rfl tb_9 dX8_append_32 ?_
  refine r_val (v := 17) ((st_ne (by decide)).trans st_at) ?_
  refine lv_iconst (v := 1) hx hb dX8_append_35 (by decide) ?_
  refine lv_iadd hx hb dX8_append_36 ?_
  refine r_val (v := 18) (by decide) ?_
  refine u_8_1 F w (a := 1) rfl tb_9 dX8_append_37 (fun H locs w => ?_)
  refine lv_iinc (v := 8) (lv' := [(2, .int 8), (0, .ref (B + 1)), (1, .int p1)]) hx hb dX8_append_40 hl (k := 0) rfl (by decide) (by decide) rfl (fun ls hl => ?_)
  refine lv_goto (tgt := 3) hx hb dX8_append_43 (by decide) ?_
  refine lv_iload_n hx hb dX8_append_3 rfl (lv_at hl 0 rfl) ?_
  refine lv_if_lt (tgt := 46) hx hb dX8_append_4 (by decide) (fun c1 => absurd c1 (by decide)) (fun _ => ?_)
  refine lv_aload_n hx hb dX8_append_7 rfl (lv_at hl 1 rfl) ?_
  refine f_8_1 F w (a := 1) rfl tb_9 dX8_append_8 ?_
  refine r_val (v := 18) (st_at) ?_
  refine lv_sipush (v := 300) hx hb dX8_append_11 (by decide) ?_
  refine lv_icmp_ge (tgt := 46) hx hb dX8_append_14 (by decide) (fun c1 => absurd c1 (by decide)) (fun _ => ?_)
  refine lv_aload_n hx hb dX8_append_17 rfl (lv_at hl 1 rfl) ?_
  refine f_8_0 F w (a := 1) rfl tb_8 dX8_append_18 ?_
  refine lv_aload_n hx hb dX8_append_21 rfl (lv_at hl 1 rfl) ?_
  refine f_8_1 F w (a := 1) rfl tb_9 dX8_append_22 ?_
  refine r_val (v := 18) (st_at) ?_
  refine lv_iload_n hx hb dX8_append_25 rfl (lv_at hl 2 rfl) ?_
  refine lv_iload_n hx hb dX8_append_26 rfl (lv_at hl 0 rfl) ?_
  refine lv_ishr hx hb dX8_append_27 ?_
  refine lv_i2b (v := ((p1 >>> (8 &&& 31)).toInt8.toInt32)) hx hb dX8_append_28 rfl ?_
  refine g_bast F w (a := 2) rfl (j := 18) ⟨by decide, by decide⟩ (by decide) dX8_append_29 (fun H locs w => ?_)
  refine lv_aload_n hx hb dX8_append_30 rfl (lv_at hl 1 rfl) ?_
  refine lv_dup hx hb dX8_append_31 rfl ?_
  refine f_8_1 F w (a := 1) rfl tb_9 dX8_append_32 ?_
  refine r_val (v := 18) ((st_ne (by decide)).trans st_at) ?_
  refine lv_iconst (v := 1) hx hb dX8_append_35 (by decide) ?_
  refine lv_iadd hx hb dX8_append_36 ?_
  refine r_val (v := 19) (by decide) ?_
  refine u_8_1 F w (a := 1) rfl tb_9 dX8_append_37 (fun H locs w => ?_)
  refine lv_iinc (v := 0) (lv' := [(2, .int 0), (0, .ref (B + 1)), (1, .int p1)]) hx hb dX8_append_40 hl (k := 0) rfl (by decide) (by decide) rfl (fun ls hl => ?_)
  refine lv_goto (tgt := 3) hx hb dX8_append_43 (by decide) ?_
  refine lv_iload_n hx hb dX8_append_3 rfl (lv_at hl 0 rfl) ?_
  refine lv_if_lt (tgt := 46) hx hb dX8_append_4 (by decide) (fun c1 => absurd c1 (by decide)) (fun _ => ?_)
  refine lv_aload_n hx hb dX8_append_7 rfl (lv_at hl 1 rfl) ?_
  refine f_8_1 F w (a := 1) rfl tb_9 dX8_append_8 ?_
  refine r_val (v := 19) (st_at) ?_
  refine lv_sipush (v := 300) hx hb dX8_append_11 (by decide) ?_
  refine lv_icmp_ge (tgt := 46) hx hb dX8_append_14 (by decide) (fun c1 => absurd c1 (by decide)) (fun _ => ?_)
  refine lv_aload_n hx hb dX8_append_17 rfl (lv_at hl 1 rfl) ?_
  refine f_8_0 F w (a := 1) rfl tb_8 dX8_append_18 ?_
  refine lv_aload_n hx hb dX8_append_21 rfl (lv_at hl 1 rfl) ?_
  refine f_8_1 F w (a := 1) rfl tb_9 dX8_append_22 ?_
  refine r_val (v := 19) (st_at) ?_
  refine lv_iload_n hx hb dX8_append_25 rfl (lv_at hl 2 rfl) ?_
  refine lv_iload_n hx hb dX8_append_26 rfl (lv_at hl 0 rfl) ?_
  refine lv_ishr hx hb dX8_append_27 ?_
  refine lv_i2b (v := ((p1 >>> (0 &&& 31)).toInt8.toInt32)) hx hb dX8_append_28 rfl ?_
  refine g_bast F w (a := 2) rfl (j := 19) ⟨by decide, by decide⟩ (by decide) dX8_append_29 (fun H locs w => ?_)
  refine lv_aload_n hx hb dX8_append_30 rfl (lv_at hl 1 rfl) ?_
  refine lv_dup hx hb dX8_append_31 rfl ?_
  refine f_8_1 F w (a := 1) rfl tb_9 dX8_append_32 ?_
  refine r_val (v := 19) ((st_ne (by decide)).trans st_at) ?_
  refine lv_iconst (v := 1) hx hb dX8_append_35 (by decide) ?_
  refine lv_iadd hx hb dX8_append_36 ?_
  refine r_val (v := 20) (by decide) ?_
  refine u_8_1 F w (a := 1) rfl tb_9 dX8_append_37 (fun H locs w => ?_)
  refine lv_iinc (v := (-8)) (lv' := [(2, .int (-8)), (0, .ref (B + 1)), (1, .int p1)]) hx hb dX8_append_40 hl (k := 0) rfl (by decide) (by decide) rfl (fun ls hl => ?_)
  refine lv_goto (tgt := 3) hx hb dX8_append_43 (by decide) ?_
  refine lv_iload_n hx hb dX8_append_3 rfl (lv_at hl 0 rfl) ?_
  refine lv_if_lt (tgt := 46) hx hb dX8_append_4 (by decide) (fun _ => ?_) (fun c1 => absurd c1 (by decide))
  exact e_v F w hr hlocks rfl dX8_append_46
theorem dX11_feed_60 : decode cX11_feed 60 = .ok (.aload_n 0, 1) := by decide +kernel
theorem dX11_feed_61 : decode cX11_feed 61 = .ok (.getfield 12, 3) := by decide +kernel
theorem dX11_feed_64 : decode cX11_feed 64 = .ok (.getfield 78, 3) := by decide +kernel
theorem dX11_feed_67 : decode cX11_feed 67 = .ok (.ireturn, 1) := by decide +kernel
set_option maxRecDepth 4000 in
theorem c_X11_feed_63 {l : Launch} {D : va_G} {B : Nat} {cy : Nat → ClassId} {M : Mem} {p1 : Int32} {p2 : Int32} {p3 : Int32} {p4 : Int32} {p5 : Int32} (h0 : M.1 1 1 = 0) : Ci l D B cy yX11_feed cX11_feed 6 (some .int) 1 22 [.ref (B + 0), .int p1, .int p2, .int p3, .int p4, .int p5] M (fun r M1 => r = 20 ∧ M1 = (st (st (st (st (st (st (st (st (st (st (st (st (st (st (st (st (st (st (st (st (st (st (st (st (st (st (st (st (st (st (st (st (st (st (st (st (st (st (st (st M 2 0 ((vp_nar .byte ((p1 >>> (24 &&& 31)).toInt8.toInt32)))) 1 1 1) 2 1 ((vp_nar .byte ((p1 >>> (16 &&& 31)).toInt8.toInt32)))) 1 1 2) 2 2 ((vp_nar .byte ((p1 >>> (8 &&& 31)).toInt8.toInt32)))) 1 1 3) 2 3 ((vp_nar .byte ((p1 >>> (0 &&& 31)).toInt8.toInt32)))) 1 1 4) 2 4 ((vp_nar .byte ((p2 >>> (24 &&& 31)).toInt8.toInt32)))) 1 1 5) 2 5 ((vp_nar .byte ((p2 >>> (16 &&& 31)).toInt8.toInt32)))) 1 1 6) 2 6 ((vp_nar .byte ((p2 >>> (8 &&& 31)).toInt8.toInt32)))) 1 1 7) 2 7 ((vp_nar .byte ((p2 >>> (0 &&& 31)).toInt8.toInt32)))) 1 1 8) 2 8 ((vp_nar .byte ((p3 >>> (24 &&& 31)).toInt8.toInt32)))) 1 1 9) 2 9 ((vp_nar .byte ((p3 >>> (16 &&& 31)).toInt8.toInt32)))) 1 1 10) 2 10 ((vp_nar .byte ((p3 >>> (8 &&& 31)).toInt8.toInt32)))) 1 1 11) 2 11 ((vp_nar .byte ((p3 >>> (0 &&& 31)).toInt8.toInt32)))) 1 1 12) 2 12 ((vp_nar .byte ((p4 >>> (24 &&& 31)).toInt8.toInt32)))) 1 1 13) 2 13 ((vp_nar .byte ((p4 >>> (16 &&& 31)).toInt8.toInt32)))) 1 1 14) 2 14 ((vp_nar .byte ((p4 >>> (8 &&& 31)).toInt8.toInt32)))) 1 1 15) 2 15 ((vp_nar .byte ((p4 >>> (0 &&& 31)).toInt8.toInt32)))) 1 1 16) 2 16 ((vp_nar .byte ((p5 >>> (24 &&& 31)).toInt8.toInt32)))) 1 1 17) 2 17 ((vp_nar .byte ((p5 >>> (16 &&& 31)).toInt8.toInt32)))) 1 1 18) 2 18 ((vp_nar .byte ((p5 >>> (8 &&& 31)).toInt8.toInt32)))) 1 1 19) 2 19 ((vp_nar .byte ((p5 >>> (0 &&& 31)).toInt8.toInt32)))) 1 1 20)) := by
  refine s_any (by decide) (Nat.le_of_ble_eq_true rfl) ?_
  intro p e s m below meth c ls F hr hlocks w hl
  have F : CallFix p m c cX11_feed 6 s _ TB RX11 := F
  have hx := F.1
  have hb := F.2.1
  have hl : lv_has ls 6 [(0, .ref (B + 0)), (1, .int p1), (2, .int p2), (3, .int p3), (4, .int p4), (5, .int p5)] := hl
  refine lv_aload_n hx hb dX11_feed_0 rfl (lv_at hl 0 rfl) ?_
  refine f_11_0 F w (a := 0) rfl tb_11 dX11_feed_1 ?_
  refine f_8_1 F w (a := 1) rfl tb_138 dX11_feed_4 ?_
  refine r_val (v := 0) (h0) ?_
  refine lv_bipush (v := 20) hx hb dX11_feed_7 (by decide) ?_
  refine lv_iadd hx hb dX11_feed_9 ?_
  refine r_val (v := 20) (by decide) ?_
  refine lv_sipush (v := 300) hx hb dX11_feed_10 (by decide) ?_
  refine lv_icmp_le (tgt := 18) hx hb dX11_feed_13 (by decide) (fun _ => ?_) (fun c1 => absurd c1 (by decide))
  refine lv_aload_n hx hb dX11_feed_18 rfl (lv_at hl 0 rfl) ?_
  refine f_11_0 F w (a := 0) rfl tb_11 dX11_feed_19 ?_
  refine lv_iload_n hx hb dX11_feed_22 rfl (lv_at hl 1 rfl) ?_
  refine x_Vv F w (As := [.int p1]) (rest := []) (a := 1) (by decide) (sh_8 rfl _ _) rfl (c_X8_append_58 (h0)) gv_X11_82 hv_X8_append ⟨Nat.le_of_ble_eq_true rfl, Nat.le_of_ble_eq_true rfl⟩ hl.1 rfl (Nat.le_of_ble_eq_true rfl) ⟨Nat.zero_le _, Nat.zero_le _⟩ dX11_feed_23 (fun H locs w => ?_)
  refine lv_aload_n hx hb dX11_feed_26 rfl (lv_at hl 0 rfl) ?_
  refine f_11_0 F w (a := 0) rfl tb_11 dX11_feed_27 ?_
  refine lv_iload_n hx hb dX11_feed_30 rfl (lv_at hl 2 rfl) ?_
  refine x_Vv F w (As := [.int p2]) (rest := []) (a := 1) (by decide) (sh_8 rfl _ _) rfl (c_X8_append_59 (st_at)) gv_X11_82 hv_X8_append ⟨Nat.le_of_ble_eq_true rfl, Nat.le_of_ble_eq_true rfl⟩ hl.1 rfl (Nat.le_of_ble_eq_true rfl) ⟨Nat.zero_le _, Nat.zero_le _⟩ dX11_feed_31 (fun H locs w => ?_)
  refine lv_aload_n hx hb dX11_feed_34 rfl (lv_at hl 0 rfl) ?_
  refine f_11_0 F w (a := 0) rfl tb_11 dX11_feed_35 ?_
  refine lv_iload_n hx hb dX11_feed_38 rfl (lv_at hl 3 rfl) ?_
  refine x_Vv F w (As := [.int p3]) (rest := []) (a := 1) (by decide) (sh_8 rfl _ _) rfl (c_X8_append_60 (st_at)) gv_X11_82 hv_X8_append ⟨Nat.le_of_ble_eq_true rfl, Nat.le_of_ble_eq_true rfl⟩ hl.1 rfl (Nat.le_of_ble_eq_true rfl) ⟨Nat.zero_le _, Nat.zero_le _⟩ dX11_feed_39 (fun H locs w => ?_)
  refine lv_aload_n hx hb dX11_feed_42 rfl (lv_at hl 0 rfl) ?_
  refine f_11_0 F w (a := 0) rfl tb_11 dX11_feed_43 ?_
  refine lv_iload hx hb dX11_feed_46 (lv_at hl 4 rfl) ?_
  refine x_Vv F w (As := [.int p4]) (rest := []) (a := 1) (by decide) (sh_8 rfl _ _) rfl (c_X8_append_61 (st_at)) gv_X11_82 hv_X8_append ⟨Nat.le_of_ble_eq_true rfl, Nat.le_of_ble_eq_true rfl⟩ hl.1 rfl (Nat.le_of_ble_eq_true rfl) ⟨Nat.zero_le _, Nat.zero_le _⟩ dX11_feed_48 (fun H locs w => ?_)
  refine lv_aload_n hx hb dX11_feed_51 rfl (lv_at hl 0 rfl) ?_
  refine f_11_0 F w (a := 0) rfl tb_11 dX11_feed_52 ?_
  refine lv_iload hx hb dX11_feed_55 (lv_at hl 5 rfl) ?_
  refine x_Vv F w (As := [.int p5]) (rest := []) (a := 1) (by decide) (sh_8 rfl _ _) rfl (c_X8_append_62 (st_at)) gv_X11_82 hv_X8_append ⟨Nat.le_of_ble_eq_true rfl, Nat.le_of_ble_eq_true rfl⟩ hl.1 rfl (Nat.le_of_ble_eq_true rfl) ⟨Nat.zero_le _, Nat.zero_le _⟩ dX11_feed_57 (fun H locs w => ?_)
  refine lv_aload_n hx hb dX11_feed_60 rfl (lv_at hl 0 rfl) ?_
  refine f_11_0 F w (a := 0) rfl tb_11 dX11_feed_61 ?_
  refine f_8_1 F w (a := 1) rfl tb_138 dX11_feed_64 ?_
  refine r_val (v := 20) (st_at) ?_
  exact e_i F w hr hlocks ⟨rfl, rfl⟩ dX11_feed_67
theorem tk_X11_feed : Cond.code yX11_feed cX11_feed 6 (some .int) ∈ TB := tbm (tc2 (List.mem_of_getElem? (i := 91) rfl)) rfl
theorem gc_X11_feed : GoodIn TB (cw yX11_feed cX11_feed 6 (some .int)) := goodIn_c2 tk_X11_feed
theorem tb_142 : Cond.methodLink "ToneLinesLaw" 13 yX11_feed ∈ TB := tbm (tc2 (List.mem_of_getElem? (i := 88) rfl)) rfl
theorem tb_143 : Cond.instanceMethod yX11_feed ∈ TB := tbm (tc2 (List.mem_of_getElem? (i := 89) rfl)) rfl
theorem tb_144 : Cond.selects "ToneLines" yX11_feed yX11_feed ∈ TB := tbm (tc2 (List.mem_of_getElem? (i := 90) rfl)) rfl
theorem tb_145 : Cond.initialized "ToneLines" ∈ TB := tbm (tc1 (List.mem_of_getElem? (i := 1) rfl)) rfl
theorem gv_L_13 : GoodIn TB (wsV RL 13 RX11 yX11_feed (cw yX11_feed cX11_feed 6 (some .int))) := goodIn_4 tb_142 tb_143 tb_144 tb_145 gc_X11_feed
theorem hv_X11_feed : yX11_feed.cls = RX11 ∧ yX11_feed.cls ≠ "java/lang/invoke/MethodHandle" ∧ yX11_feed.cls ≠ "java/lang/invoke/VarHandle" ∧ (parseMethodDescriptor yX11_feed.desc).map (fun d => d.parameters.length) = some 5 := by decide +kernel
theorem dL_law_193 : decode cL_law 193 = .ok (.aload_n 2, 1) := by decide +kernel
theorem dL_law_194 : decode cL_law 194 = .ok (.aload_n 0, 1) := by decide +kernel
theorem dL_law_195 : decode cL_law 195 = .ok (.iload_n 3, 1) := by decide +kernel
theorem dL_law_196 : decode cL_law 196 = .ok (.iconst 1, 1) := by decide +kernel
theorem dL_law_197 : decode cL_law 197 = .ok (.iadd, 1) := by decide +kernel
theorem dL_law_198 : decode cL_law 198 = .ok (.iaload, 1) := by decide +kernel
theorem dL_law_199 : decode cL_law 199 = .ok (.aload_n 0, 1) := by decide +kernel
theorem dL_law_200 : decode cL_law 200 = .ok (.iload_n 3, 1) := by decide +kernel
theorem dL_law_201 : decode cL_law 201 = .ok (.iconst 2, 1) := by decide +kernel
theorem dL_law_202 : decode cL_law 202 = .ok (.iadd, 1) := by decide +kernel
theorem dL_law_203 : decode cL_law 203 = .ok (.iaload, 1) := by decide +kernel
theorem dL_law_204 : decode cL_law 204 = .ok (.aload_n 0, 1) := by decide +kernel
theorem dL_law_205 : decode cL_law 205 = .ok (.iload_n 3, 1) := by decide +kernel
theorem dL_law_206 : decode cL_law 206 = .ok (.iconst 3, 1) := by decide +kernel
theorem dL_law_207 : decode cL_law 207 = .ok (.iadd, 1) := by decide +kernel
theorem dL_law_208 : decode cL_law 208 = .ok (.iaload, 1) := by decide +kernel
theorem dL_law_209 : decode cL_law 209 = .ok (.aload_n 0, 1) := by decide +kernel
theorem dL_law_210 : decode cL_law 210 = .ok (.iload_n 3, 1) := by decide +kernel
theorem dL_law_211 : decode cL_law 211 = .ok (.iconst 4, 1) := by decide +kernel
theorem dL_law_212 : decode cL_law 212 = .ok (.iadd, 1) := by decide +kernel
theorem dL_law_213 : decode cL_law 213 = .ok (.iaload, 1) := by decide +kernel
theorem dL_law_214 : decode cL_law 214 = .ok (.aload_n 0, 1) := by decide +kernel
theorem dL_law_215 : decode cL_law 215 = .ok (.iload_n 3, 1) := by decide +kernel
theorem dL_law_216 : decode cL_law 216 = .ok (.iconst 5, 1) := by decide +kernel
theorem dL_law_217 : decode cL_law 217 = .ok (.iadd, 1) := by decide +kernel
theorem dL_law_218 : decode cL_law 218 = .ok (.iaload, 1) := by decide +kernel
theorem dL_law_219 : decode cL_law 219 = .ok (.invokevirtual 17, 3) := by decide +kernel
theorem dX12_feed_0 : decode cX12_feed 0 = .ok (.aload_n 0, 1) := by decide +kernel
theorem dX12_feed_1 : decode cX12_feed 1 = .ok (.getfield 169, 3) := by decide +kernel
theorem tb_146 : Cond.fieldLink "ToneLinesModel" 169 "ToneLinesModel" "taped" "I" ∈ TB := tbm (tc5 (List.mem_of_getElem? (i := 64) rfl)) rfl
theorem dX12_feed_4 : decode cX12_feed 4 = .ok (.bipush 20, 2) := by decide +kernel
theorem dX12_feed_6 : decode cX12_feed 6 = .ok (.iadd, 1) := by decide +kernel
theorem dX12_feed_7 : decode cX12_feed 7 = .ok (.sipush 300, 3) := by decide +kernel
theorem dX12_feed_10 : decode cX12_feed 10 = .ok (.if_icmp .le 5, 3) := by decide +kernel
theorem dX12_feed_15 : decode cX12_feed 15 = .ok (.iconst 0, 1) := by decide +kernel
theorem dX12_feed_16 : decode cX12_feed 16 = .ok (.istore 6, 2) := by decide +kernel
theorem dX12_feed_18 : decode cX12_feed 18 = .ok (.iload 6, 2) := by decide +kernel
theorem dX12_feed_20 : decode cX12_feed 20 = .ok (.bipush 20, 2) := by decide +kernel
theorem dX12_feed_22 : decode cX12_feed 22 = .ok (.if_icmp .ge 93, 3) := by decide +kernel
theorem dX12_feed_25 : decode cX12_feed 25 = .ok (.iload 6, 2) := by decide +kernel
theorem dX12_feed_27 : decode cX12_feed 27 = .ok (.iconst 4, 1) := by decide +kernel
theorem dX12_feed_28 : decode cX12_feed 28 = .ok (.if_icmp .ge 7, 3) := by decide +kernel
theorem dX12_feed_31 : decode cX12_feed 31 = .ok (.iload_n 1, 1) := by decide +kernel
theorem dX12_feed_32 : decode cX12_feed 32 = .ok (.goto 39, 3) := by decide +kernel
theorem dX12_feed_71 : decode cX12_feed 71 = .ok (.istore 7, 2) := by decide +kernel
theorem dX12_feed_73 : decode cX12_feed 73 = .ok (.aload_n 0, 1) := by decide +kernel
theorem dX12_feed_74 : decode cX12_feed 74 = .ok (.getfield 23, 3) := by decide +kernel
theorem dX12_feed_77 : decode cX12_feed 77 = .ok (.aload_n 0, 1) := by decide +kernel
theorem dX12_feed_78 : decode cX12_feed 78 = .ok (.getfield 169, 3) := by decide +kernel
theorem dX12_feed_81 : decode cX12_feed 81 = .ok (.iload 7, 2) := by decide +kernel
theorem dX12_feed_83 : decode cX12_feed 83 = .ok (.bipush 24, 2) := by decide +kernel
theorem dX12_feed_85 : decode cX12_feed 85 = .ok (.bipush 8, 2) := by decide +kernel
theorem dX12_feed_87 : decode cX12_feed 87 = .ok (.iload 6, 2) := by decide +kernel
theorem dX12_feed_89 : decode cX12_feed 89 = .ok (.iconst 4, 1) := by decide +kernel
theorem dX12_feed_90 : decode cX12_feed 90 = .ok (.irem, 1) := by decide +kernel
theorem dX12_feed_91 : decode cX12_feed 91 = .ok (.imul, 1) := by decide +kernel
theorem dX12_feed_92 : decode cX12_feed 92 = .ok (.isub, 1) := by decide +kernel
theorem dX12_feed_93 : decode cX12_feed 93 = .ok (.ishr, 1) := by decide +kernel
theorem dX12_feed_94 : decode cX12_feed 94 = .ok (.sipush 255, 3) := by decide +kernel
theorem dX12_feed_97 : decode cX12_feed 97 = .ok (.iand, 1) := by decide +kernel
theorem dX12_feed_98 : decode cX12_feed 98 = .ok (.iastore, 1) := by decide +kernel
theorem dX12_feed_99 : decode cX12_feed 99 = .ok (.aload_n 0, 1) := by decide +kernel
theorem dX12_feed_100 : decode cX12_feed 100 = .ok (.dup, 1) := by decide +kernel
theorem dX12_feed_101 : decode cX12_feed 101 = .ok (.getfield 169, 3) := by decide +kernel
theorem dX12_feed_104 : decode cX12_feed 104 = .ok (.iconst 1, 1) := by decide +kernel
theorem dX12_feed_105 : decode cX12_feed 105 = .ok (.iadd, 1) := by decide +kernel
theorem dX12_feed_106 : decode cX12_feed 106 = .ok (.putfield 169, 3) := by decide +kernel
theorem dX12_feed_109 : decode cX12_feed 109 = .ok (.iinc 6 1, 3) := by decide +kernel
theorem dX12_feed_112 : decode cX12_feed 112 = .ok (.goto (-94), 3) := by decide +kernel
theorem dX12_feed_35 : decode cX12_feed 35 = .ok (.iload 6, 2) := by decide +kernel
theorem dX12_feed_37 : decode cX12_feed 37 = .ok (.bipush 8, 2) := by decide +kernel
theorem dX12_feed_39 : decode cX12_feed 39 = .ok (.if_icmp .ge 7, 3) := by decide +kernel
theorem dX12_feed_42 : decode cX12_feed 42 = .ok (.iload_n 2, 1) := by decide +kernel
theorem dX12_feed_43 : decode cX12_feed 43 = .ok (.goto 28, 3) := by decide +kernel
theorem dX12_feed_46 : decode cX12_feed 46 = .ok (.iload 6, 2) := by decide +kernel
theorem dX12_feed_48 : decode cX12_feed 48 = .ok (.bipush 12, 2) := by decide +kernel
theorem dX12_feed_50 : decode cX12_feed 50 = .ok (.if_icmp .ge 7, 3) := by decide +kernel
theorem dX12_feed_53 : decode cX12_feed 53 = .ok (.iload_n 3, 1) := by decide +kernel
theorem dX12_feed_54 : decode cX12_feed 54 = .ok (.goto 17, 3) := by decide +kernel
theorem dX12_feed_57 : decode cX12_feed 57 = .ok (.iload 6, 2) := by decide +kernel
theorem dX12_feed_59 : decode cX12_feed 59 = .ok (.bipush 16, 2) := by decide +kernel
theorem dX12_feed_61 : decode cX12_feed 61 = .ok (.if_icmp .ge 8, 3) := by decide +kernel
theorem dX12_feed_64 : decode cX12_feed 64 = .ok (.iload 4, 2) := by decide +kernel
theorem dX12_feed_66 : decode cX12_feed 66 = .ok (.goto 5, 3) := by decide +kernel
theorem dX12_feed_69 : decode cX12_feed 69 = .ok (.iload 5, 2) := by decide +kernel
theorem dX12_feed_115 : decode cX12_feed 115 = .ok (.aload_n 0, 1) := by decide +kernel
theorem dX12_feed_116 : decode cX12_feed 116 = .ok (.getfield 169, 3) := by decide +kernel
theorem dX12_feed_119 : decode cX12_feed 119 = .ok (.ireturn, 1) := by decide +kernel
set_option maxRecDepth 4000 in
theorem c_X12_feed_64 {l : Launch} {D : va_G} {B : Nat} {cy : Nat → ClassId} {M : Mem} {p1 : Int32} {p2 : Int32} {p3 : Int32} {p4 : Int32} {p5 : Int32} (h0 : M.1 146 8 = 0) : Ci l D B cy yX12_feed cX12_feed 8 (some .int) 0 0 [.ref (B + 146), .int p1, .int p2, .int p3, .int p4, .int p5] M (fun r M1 => r = 20 ∧ M1 = (st (st (st (st (st (st (st (st (st (st (st (st (st (st (st (st (st (st (st (st (st (st (st (st (st (st (st (st (st (st (st (st (st (st (st (st (st (st (st (st M 150 0 (((p1 >>> (24 &&& 31)) &&& 255))) 146 8 1) 150 1 (((p1 >>> (16 &&& 31)) &&& 255))) 146 8 2) 150 2 (((p1 >>> (8 &&& 31)) &&& 255))) 146 8 3) 150 3 (((p1 >>> (0 &&& 31)) &&& 255))) 146 8 4) 150 4 (((p2 >>> (24 &&& 31)) &&& 255))) 146 8 5) 150 5 (((p2 >>> (16 &&& 31)) &&& 255))) 146 8 6) 150 6 (((p2 >>> (8 &&& 31)) &&& 255))) 146 8 7) 150 7 (((p2 >>> (0 &&& 31)) &&& 255))) 146 8 8) 150 8 (((p3 >>> (24 &&& 31)) &&& 255))) 146 8 9) 150 9 (((p3 >>> (16 &&& 31)) &&& 255))) 146 8 10) 150 10 (((p3 >>> (8 &&& 31)) &&& 255))) 146 8 11) 150 11 (((p3 >>> (0 &&& 31)) &&& 255))) 146 8 12) 150 12 (((p4 >>> (24 &&& 31)) &&& 255))) 146 8 13) 150 13 (((p4 >>> (16 &&& 31)) &&& 255))) 146 8 14) 150 14 (((p4 >>> (8 &&& 31)) &&& 255))) 146 8 15) 150 15 (((p4 >>> (0 &&& 31)) &&& 255))) 146 8 16) 150 16 (((p5 >>> (24 &&& 31)) &&& 255))) 146 8 17) 150 17 (((p5 >>> (16 &&& 31)) &&& 255))) 146 8 18) 150 18 (((p5 >>> (8 &&& 31)) &&& 255))) 146 8 19) 150 19 (((p5 >>> (0 &&& 31)) &&& 255))) 146 8 20)) := by
  refine s_any (by decide) (Nat.le_of_ble_eq_true rfl) ?_
  intro p e s m below meth c ls F hr hlocks w hl
  have F : CallFix p m c cX12_feed 8 s _ TB RX12 := F
  have hx := F.1
  have hb := F.2.1
  have hl : lv_has ls 8 [(0, .ref (B + 146)), (1, .int p1), (2, .int p2), (3, .int p3), (4, .int p4), (5, .int p5)] := hl
  refine lv_aload_n hx hb dX12_feed_0 rfl (lv_at hl 0 rfl) ?_
  refine f_12_8 F w (a := 146) rfl tb_146 dX12_feed_1 ?_
  refine r_val (v := 0) (h0) ?_
  refine lv_bipush (v := 20) hx hb dX12_feed_4 (by decide) ?_
  refine lv_iadd hx hb dX12_feed_6 ?_
  refine r_val (v := 20) (by decide) ?_
  refine lv_sipush (v := 300) hx hb dX12_feed_7 (by decide) ?_
  refine lv_icmp_le (tgt := 15) hx hb dX12_feed_10 (by decide) (fun _ => ?_) (fun c1 => absurd c1 (by decide))
  refine lv_iconst (v := 0) hx hb dX12_feed_15 (by decide) ?_
  refine lv_istore (lv' := [(6, .int 0), (0, .ref (B + 146)), (1, .int p1), (2, .int p2), (3, .int p3), (4, .int p4), (5, .int p5)]) hx hb dX12_feed_16 hl (by decide) rfl (fun ls hl => ?_)
  refine lv_iload hx hb dX12_feed_18 (lv_at hl 0 rfl) ?_
  refine lv_bipush (v := 20) hx hb dX12_feed_20 (by decide) ?_
  refine lv_icmp_ge (tgt := 115) hx hb dX12_feed_22 (by decide) (fun c1 => absurd c1 (by decide)) (fun _ => ?_)
  refine lv_iload hx hb dX12_feed_25 (lv_at hl 0 rfl) ?_
  refine lv_iconst (v := 4) hx hb dX12_feed_27 (by decide) ?_
  refine lv_icmp_ge (tgt := 35) hx hb dX12_feed_28 (by decide) (fun c1 => absurd c1 (by decide)) (fun _ => ?_)
  refine lv_iload_n hx hb dX12_feed_31 rfl (lv_at hl 2 rfl) ?_
  refine lv_goto (tgt := 71) hx hb dX12_feed_32 (by decide) ?_
  refine lv_istore (lv' := [(7, .int p1), (6, .int 0), (0, .ref (B + 146)), (1, .int p1), (2, .int p2), (3, .int p3), (4, .int p4), (5, .int p5)]) hx hb dX12_feed_71 hl (by decide) rfl (fun ls hl => ?_)
  refine lv_aload_n hx hb dX12_feed_73 rfl (lv_at hl 2 rfl) ?_
  refine f_12_7 F w (a := 146) rfl tb_129 dX12_feed_74 ?_
  refine lv_aload_n hx hb dX12_feed_77 rfl (lv_at hl 2 rfl) ?_
  refine f_12_8 F w (a := 146) rfl tb_146 dX12_feed_78 ?_
  refine r_val (v := 0) (h0) ?_
  refine lv_iload hx hb dX12_feed_81 (lv_at hl 0 rfl) ?_
  refine lv_bipush (v := 24) hx hb dX12_feed_83 (by decide) ?_
  refine lv_bipush (v := 8) hx hb dX12_feed_85 (by decide) ?_
  refine lv_iload hx hb dX12_feed_87 (lv_at hl 1 rfl) ?_
  refine lv_iconst (v := 4) hx hb dX12_feed_89 (by decide) ?_
  refine lv_irem hx hb dX12_feed_90 (by decide) ?_
  refine r_val (v := 0) (by decide) ?_
  refine lv_imul hx hb dX12_feed_91 ?_
  refine r_val (v := 0) (by decide) ?_
  refine lv_isub hx hb dX12_feed_92 ?_
  refine r_val (v := 24) (by decide) ?_
  refine lv_ishr hx hb dX12_feed_93 ?_
  refine lv_sipush (v := 255) hx hb dX12_feed_94 (by decide) ?_
  refine lv_iand hx hb dX12_feed_97 ?_
  refine g_iast F w (a := 150) rfl (j := 0) ⟨by decide, by decide⟩ (by decide) dX12_feed_98 (fun H locs w => ?_)
  refine lv_aload_n hx hb dX12_feed_99 rfl (lv_at hl 2 rfl) ?_
  refine lv_dup hx hb dX12_feed_100 rfl ?_
  refine f_12_8 F w (a := 146) rfl tb_146 dX12_feed_101 ?_
  refine r_val (v := 0) ((st_ne (by decide)).trans h0) ?_
  refine lv_iconst (v := 1) hx hb dX12_feed_104 (by decide) ?_
  refine lv_iadd hx hb dX12_feed_105 ?_
  refine r_val (v := 1) (by decide) ?_
  refine u_12_8 F w (a := 146) rfl tb_146 dX12_feed_106 (fun H locs w => ?_)
  refine lv_iinc (v := 1) (lv' := [(6, .int 1), (7, .int p1), (0, .ref (B + 146)), (1, .int p1), (2, .int p2), (3, .int p3), (4, .int p4), (5, .int p5)]) hx hb dX12_feed_109 hl (k := 1) rfl (by decide) (by decide) rfl (fun ls hl => ?_)
  refine lv_goto (tgt := 18) hx hb dX12_feed_112 (by decide) ?_
  refine lv_iload hx hb dX12_feed_18 (lv_at hl 0 rfl) ?_
  refine lv_bipush (v := 20) hx hb dX12_feed_20 (by decide) ?_
  refine lv_icmp_ge (tgt := 115) hx hb dX12_feed_22 (by decide) (fun c1 => absurd c1 (by decide)) (fun _ => ?_)
  refine lv_iload hx hb dX12_feed_25 (lv_at hl 0 rfl) ?_
  refine lv_iconst (v := 4) hx hb dX12_feed_27 (by decide) ?_
  refine lv_icmp_ge (tgt := 35) hx hb dX12_feed_28 (by decide) (fun c1 => absurd c1 (by decide)) (fun _ => ?_)
  refine lv_iload_n hx hb dX12_feed_31 rfl (lv_at hl 3 rfl) ?_
  refine lv_goto (tgt := 71) hx hb dX12_feed_32 (by decide) ?_
  refine lv_istore (lv' := [(7, .int p1), (6, .int 1), (0, .ref (B + 146)), (1, .int p1), (2, .int p2), (3, .int p3), (4, .int p4), (5, .int p5)]) hx hb dX12_feed_71 hl (by decide) rfl (fun ls hl => ?_)
  refine lv_aload_n hx hb dX12_feed_73 rfl (lv_at hl 2 rfl) ?_
  refine f_12_7 F w (a := 146) rfl tb_129 dX12_feed_74 ?_
  refine lv_aload_n hx hb dX12_feed_77 rfl (lv_at hl 2 rfl) ?_
  refine f_12_8 F w (a := 146) rfl tb_146 dX12_feed_78 ?_
  refine r_val (v := 1) (st_at) ?_
  refine lv_iload hx hb dX12_feed_81 (lv_at hl 0 rfl) ?_
  refine lv_bipush (v := 24) hx hb dX12_feed_83 (by decide) ?_
  refine lv_bipush (v := 8) hx hb dX12_feed_85 (by decide) ?_
  refine lv_iload hx hb dX12_feed_87 (lv_at hl 1 rfl) ?_
  refine lv_iconst (v := 4) hx hb dX12_feed_89 (by decide) ?_
  refine lv_irem hx hb dX12_feed_90 (by decide) ?_
  refine r_val (v := 1) (by decide) ?_
  refine lv_imul hx hb dX12_feed_91 ?_
  refine r_val (v := 8) (by decide) ?_
  refine lv_isub hx hb dX12_feed_92 ?_
  refine r_val (v := 16) (by decide) ?_
  refine lv_ishr hx hb dX12_feed_93 ?_
  refine lv_sipush (v := 255) hx hb dX12_feed_94 (by decide) ?_
  refine lv_iand hx hb dX12_feed_97 ?_
  refine g_iast F w (a := 150) rfl (j := 1) ⟨by decide, by decide⟩ (by decide) dX12_feed_98 (fun H locs w => ?_)
  refine lv_aload_n hx hb dX12_feed_99 rfl (lv_at hl 2 rfl) ?_
  refine lv_dup hx hb dX12_feed_100 rfl ?_
  refine f_12_8 F w (a := 146) rfl tb_146 dX12_feed_101 ?_
  refine r_val (v := 1) ((st_ne (by decide)).trans st_at) ?_
  refine lv_iconst (v := 1) hx hb dX12_feed_104 (by decide) ?_
  refine lv_iadd hx hb dX12_feed_105 ?_
  refine r_val (v := 2) (by decide) ?_
  refine u_12_8 F w (a := 146) rfl tb_146 dX12_feed_106 (fun H locs w => ?_)
  refine lv_iinc (v := 2) (lv' := [(6, .int 2), (7, .int p1), (0, .ref (B + 146)), (1, .int p1), (2, .int p2), (3, .int p3), (4, .int p4), (5, .int p5)]) hx hb dX12_feed_109 hl (k := 1) rfl (by decide) (by decide) rfl (fun ls hl => ?_)
  refine lv_goto (tgt := 18) hx hb dX12_feed_112 (by decide) ?_
  refine lv_iload hx hb dX12_feed_18 (lv_at hl 0 rfl) ?_
  refine lv_bipush (v := 20) hx hb dX12_feed_20 (by decide) ?_
  refine lv_icmp_ge (tgt := 115) hx hb dX12_feed_22 (by decide) (fun c1 => absurd c1 (by decide)) (fun _ => ?_)
  refine lv_iload hx hb dX12_feed_25 (lv_at hl 0 rfl) ?_
  refine lv_iconst (v := 4) hx hb dX12_feed_27 (by decide) ?_
  refine lv_icmp_ge (tgt := 35) hx hb dX12_feed_28 (by decide) (fun c1 => absurd c1 (by decide)) (fun _ => ?_)
  refine lv_iload_n hx hb dX12_feed_31 rfl (lv_at hl 3 rfl) ?_
  refine lv_goto (tgt := 71) hx hb dX12_feed_32 (by decide) ?_
  refine lv_istore (lv' := [(7, .int p1), (6, .int 2), (0, .ref (B + 146)), (1, .int p1), (2, .int p2), (3, .int p3), (4, .int p4), (5, .int p5)]) hx hb dX12_feed_71 hl (by decide) rfl (fun ls hl => ?_)
  refine lv_aload_n hx hb dX12_feed_73 rfl (lv_at hl 2 rfl) ?_
  refine f_12_7 F w (a := 146) rfl tb_129 dX12_feed_74 ?_
  refine lv_aload_n hx hb dX12_feed_77 rfl (lv_at hl 2 rfl) ?_
  refine f_12_8 F w (a := 146) rfl tb_146 dX12_feed_78 ?_
  refine r_val (v := 2) (st_at) ?_
  refine lv_iload hx hb dX12_feed_81 (lv_at hl 0 rfl) ?_
  refine lv_bipush (v := 24) hx hb dX12_feed_83 (by decide) ?_
  refine lv_bipush (v := 8) hx hb dX12_feed_85 (by decide) ?_
  refine lv_iload hx hb dX12_feed_87 (lv_at hl 1 rfl) ?_
  refine lv_iconst (v := 4) hx hb dX12_feed_89 (by decide) ?_
  refine lv_irem hx hb dX12_feed_90 (by decide) ?_
  refine r_val (v := 2) (by decide) ?_
  refine lv_imul hx hb dX12_feed_91 ?_
  refine r_val (v := 16) (by decide) ?_
  refine lv_isub hx hb dX12_feed_92 ?_
  refine r_val (v := 8) (by decide) ?_
  refine lv_ishr hx hb dX12_feed_93 ?_
  refine lv_sipush (v := 255) hx hb dX12_feed_94 (by decide) ?_
  refine lv_iand hx hb dX12_feed_97 ?_
  refine g_iast F w (a := 150) rfl (j := 2) ⟨by decide, by decide⟩ (by decide) dX12_feed_98 (fun H locs w => ?_)
  refine lv_aload_n hx hb dX12_feed_99 rfl (lv_at hl 2 rfl) ?_
  refine lv_dup hx hb dX12_feed_100 rfl ?_
  refine f_12_8 F w (a := 146) rfl tb_146 dX12_feed_101 ?_
  refine r_val (v := 2) ((st_ne (by decide)).trans st_at) ?_
  refine lv_iconst (v := 1) hx hb dX12_feed_104 (by decide) ?_
  refine lv_iadd hx hb dX12_feed_105 ?_
  refine r_val (v := 3) (by decide) ?_
  refine u_12_8 F w (a := 146) rfl tb_146 dX12_feed_106 (fun H locs w => ?_)
  refine lv_iinc (v := 3) (lv' := [(6, .int 3), (7, .int p1), (0, .ref (B + 146)), (1, .int p1), (2, .int p2), (3, .int p3), (4, .int p4), (5, .int p5)]) hx hb dX12_feed_109 hl (k := 1) rfl (by decide) (by decide) rfl (fun ls hl => ?_)
  refine lv_goto (tgt := 18) hx hb dX12_feed_112 (by decide) ?_
  refine lv_iload hx hb dX12_feed_18 (lv_at hl 0 rfl) ?_
  refine lv_bipush (v := 20) hx hb dX12_feed_20 (by decide) ?_
  refine lv_icmp_ge (tgt := 115) hx hb dX12_feed_22 (by decide) (fun c1 => absurd c1 (by decide)) (fun _ => ?_)
  refine lv_iload hx hb dX12_feed_25 (lv_at hl 0 rfl) ?_
  refine lv_iconst (v := 4) hx hb dX12_feed_27 (by decide) ?_
  refine lv_icmp_ge (tgt := 35) hx hb dX12_feed_28 (by decide) (fun c1 => absurd c1 (by decide)) (fun _ => ?_)
  refine lv_iload_n hx hb dX12_feed_31 rfl (lv_at hl 3 rfl) ?_
  refine lv_goto (tgt := 71) hx hb dX12_feed_32 (by decide) ?_
  refine lv_istore (lv' := [(7, .int p1), (6, .int 3), (0, .ref (B + 146)), (1, .int p1), (2, .int p2), (3, .int p3), (4, .int p4), (5, .int p5)]) hx hb dX12_feed_71 hl (by decide) rfl (fun ls hl => ?_)
  refine lv_aload_n hx hb dX12_feed_73 rfl (lv_at hl 2 rfl) ?_
  refine f_12_7 F w (a := 146) rfl tb_129 dX12_feed_74 ?_
  refine lv_aload_n hx hb dX12_feed_77 rfl (lv_at hl 2 rfl) ?_
  refine f_12_8 F w (a := 146) rfl tb_146 dX12_feed_78 ?_
  refine r_val (v := 3) (st_at) ?_
  refine lv_iload hx hb dX12_feed_81 (lv_at hl 0 rfl) ?_
  refine lv_bipush (v := 24) hx hb dX12_feed_83 (by decide) ?_
  refine lv_bipush (v := 8) hx hb dX12_feed_85 (by decide) ?_
  refine lv_iload hx hb dX12_feed_87 (lv_at hl 1 rfl) ?_
  refine lv_iconst (v := 4) hx hb dX12_feed_89 (by decide) ?_
  refine lv_irem hx hb dX12_feed_90 (by decide) ?_
  refine r_val (v := 3) (by decide) ?_
  refine lv_imul hx hb dX12_feed_91 ?_
  refine r_val (v := 24) (by decide) ?_
  refine lv_isub hx hb dX12_feed_92 ?_
  refine r_val (v := 0) (by decide) ?_
  refine lv_ishr hx hb dX12_feed_93 ?_
  refine lv_sipush (v := 255) hx hb dX12_feed_94 (by decide) ?_
  refine lv_iand hx hb dX12_feed_97 ?_
  refine g_iast F w (a := 150) rfl (j := 3) ⟨by decide, by decide⟩ (by decide) dX12_feed_98 (fun H locs w => ?_)
  refine lv_aload_n hx hb dX12_feed_99 rfl (lv_at hl 2 rfl) ?_
  refine lv_dup hx hb dX12_feed_100 rfl ?_
  refine f_12_8 F w (a := 146) rfl tb_146 dX12_feed_101 ?_
  refine r_val (v := 3) ((st_ne (by decide)).trans st_at) ?_
  refine lv_iconst (v := 1) hx hb dX12_feed_104 (by decide) ?_
  refine lv_iadd hx hb dX12_feed_105 ?_
  refine r_val (v := 4) (by decide) ?_
  refine u_12_8 F w (a := 146) rfl tb_146 dX12_feed_106 (fun H locs w => ?_)
  refine lv_iinc (v := 4) (lv' := [(6, .int 4), (7, .int p1), (0, .ref (B + 146)), (1, .int p1), (2, .int p2), (3, .int p3), (4, .int p4), (5, .int p5)]) hx hb dX12_feed_109 hl (k := 1) rfl (by decide) (by decide) rfl (fun ls hl => ?_)
  refine lv_goto (tgt := 18) hx hb dX12_feed_112 (by decide) ?_
  refine lv_iload hx hb dX12_feed_18 (lv_at hl 0 rfl) ?_
  refine lv_bipush (v := 20) hx hb dX12_feed_20 (by decide) ?_
  refine lv_icmp_ge (tgt := 115) hx hb dX12_feed_22 (by decide) (fun c1 => absurd c1 (by decide)) (fun _ => ?_)
  refine lv_iload hx hb dX12_feed_25 (lv_at hl 0 rfl) ?_
  refine lv_iconst (v := 4) hx hb dX12_feed_27 (by decide) ?_
  refine lv_icmp_ge (tgt := 35) hx hb dX12_feed_28 (by decide) (fun _ => ?_) (fun c1 => absurd c1 (by decide))
  refine lv_iload hx hb dX12_feed_35 (lv_at hl 0 rfl) ?_
  refine lv_bipush (v := 8) hx hb dX12_feed_37 (by decide) ?_
  refine lv_icmp_ge (tgt := 46) hx hb dX12_feed_39 (by decide) (fun c1 => absurd c1 (by decide)) (fun _ => ?_)
  refine lv_iload_n hx hb dX12_feed_42 rfl (lv_at hl 4 rfl) ?_
  refine lv_goto (tgt := 71) hx hb dX12_feed_43 (by decide) ?_
  refine lv_istore (lv' := [(7, .int p2), (6, .int 4), (0, .ref (B + 146)), (1, .int p1), (2, .int p2), (3, .int p3), (4, .int p4), (5, .int p5)]) hx hb dX12_feed_71 hl (by decide) rfl (fun ls hl => ?_)
  refine lv_aload_n hx hb dX12_feed_73 rfl (lv_at hl 2 rfl) ?_
  refine f_12_7 F w (a := 146) rfl tb_129 dX12_feed_74 ?_
  refine lv_aload_n hx hb dX12_feed_77 rfl (lv_at hl 2 rfl) ?_
  refine f_12_8 F w (a := 146) rfl tb_146 dX12_feed_78 ?_
  refine r_val (v := 4) (st_at) ?_
  refine lv_iload hx hb dX12_feed_81 (lv_at hl 0 rfl) ?_
  refine lv_bipush (v := 24) hx hb dX12_feed_83 (by decide) ?_
  refine lv_bipush (v := 8) hx hb dX12_feed_85 (by decide) ?_
  refine lv_iload hx hb dX12_feed_87 (lv_at hl 1 rfl) ?_
  refine lv_iconst (v := 4) hx hb dX12_feed_89 (by decide) ?_
  refine lv_irem hx hb dX12_feed_90 (by decide) ?_
  refine r_val (v := 0) (by decide) ?_
  refine lv_imul hx hb dX12_feed_91 ?_
  refine r_val (v := 0) (by decide) ?_
  refine lv_isub hx hb dX12_feed_92 ?_
  refine r_val (v := 24) (by decide) ?_
  refine lv_ishr hx hb dX12_feed_93 ?_
  refine lv_sipush (v := 255) hx hb dX12_feed_94 (by decide) ?_
  refine lv_iand hx hb dX12_feed_97 ?_
  refine g_iast F w (a := 150) rfl (j := 4) ⟨by decide, by decide⟩ (by decide) dX12_feed_98 (fun H locs w => ?_)
  refine lv_aload_n hx hb dX12_feed_99 rfl (lv_at hl 2 rfl) ?_
  refine lv_dup hx hb dX12_feed_100 rfl ?_
  refine f_12_8 F w (a := 146) rfl tb_146 dX12_feed_101 ?_
  refine r_val (v := 4) ((st_ne (by decide)).trans st_at) ?_
  refine lv_iconst (v := 1) hx hb dX12_feed_104 (by decide) ?_
  refine lv_iadd hx hb dX12_feed_105 ?_
  refine r_val (v := 5) (by decide) ?_
  refine u_12_8 F w (a := 146) rfl tb_146 dX12_feed_106 (fun H locs w => ?_)
  refine lv_iinc (v := 5) (lv' := [(6, .int 5), (7, .int p2), (0, .ref (B + 146)), (1, .int p1), (2, .int p2), (3, .int p3), (4, .int p4), (5, .int p5)]) hx hb dX12_feed_109 hl (k := 1) rfl (by decide) (by decide) rfl (fun ls hl => ?_)
  refine lv_goto (tgt := 18) hx hb dX12_feed_112 (by decide) ?_
  refine lv_iload hx hb dX12_feed_18 (lv_at hl 0 rfl) ?_
  refine lv_bipush (v := 20) hx hb dX12_feed_20 (by decide) ?_
  refine lv_icmp_ge (tgt := 115) hx hb dX12_feed_22 (by decide) (fun c1 => absurd c1 (by decide)) (fun _ => ?_)
  refine lv_iload hx hb dX12_feed_25 (lv_at hl 0 rfl) ?_
  refine lv_iconst (v := 4) hx hb dX12_feed_27 (by decide) ?_
  refine lv_icmp_ge (tgt := 35) hx hb dX12_feed_28 (by decide) (fun _ => ?_) (fun c1 => absurd c1 (by decide))
  refine lv_iload hx hb dX12_feed_35 (lv_at hl 0 rfl) ?_
  refine lv_bipush (v := 8) hx hb dX12_feed_37 (by decide) ?_
  refine lv_icmp_ge (tgt := 46) hx hb dX12_feed_39 (by decide) (fun c1 => absurd c1 (by decide)) (fun _ => ?_)
  refine lv_iload_n hx hb dX12_feed_42 rfl (lv_at hl 4 rfl) ?_
  refine lv_goto (tgt := 71) hx hb dX12_feed_43 (by decide) ?_
  refine lv_istore (lv' := [(7, .int p2), (6, .int 5), (0, .ref (B + 146)), (1, .int p1), (2, .int p2), (3, .int p3), (4, .int p4), (5, .int p5)]) hx hb dX12_feed_71 hl (by decide) rfl (fun ls hl => ?_)
  refine lv_aload_n hx hb dX12_feed_73 rfl (lv_at hl 2 rfl) ?_
  refine f_12_7 F w (a := 146) rfl tb_129 dX12_feed_74 ?_
  refine lv_aload_n hx hb dX12_feed_77 rfl (lv_at hl 2 rfl) ?_
  refine f_12_8 F w (a := 146) rfl tb_146 dX12_feed_78 ?_
  refine r_val (v := 5) (st_at) ?_
  refine lv_iload hx hb dX12_feed_81 (lv_at hl 0 rfl) ?_
  refine lv_bipush (v := 24) hx hb dX12_feed_83 (by decide) ?_
  refine lv_bipush (v := 8) hx hb dX12_feed_85 (by decide) ?_
  refine lv_iload hx hb dX12_feed_87 (lv_at hl 1 rfl) ?_
  refine lv_iconst (v := 4) hx hb dX12_feed_89 (by decide) ?_
  refine lv_irem hx hb dX12_feed_90 (by decide) ?_
  refine r_val (v := 1) (by decide) ?_
  refine lv_imul hx hb dX12_feed_91 ?_
  refine r_val (v := 8) (by decide) ?_
  refine lv_isub hx hb dX12_feed_92 ?_
  refine r_val (v := 16) (by decide) ?_
  refine lv_ishr hx hb dX12_feed_93 ?_
  refine lv_sipush (v := 255) hx hb dX12_feed_94 (by decide) ?_
  refine lv_iand hx hb dX12_feed_97 ?_
  refine g_iast F w (a := 150) rfl (j := 5) ⟨by decide, by decide⟩ (by decide) dX12_feed_98 (fun H locs w => ?_)
  refine lv_aload_n hx hb dX12_feed_99 rfl (lv_at hl 2 rfl) ?_
  refine lv_dup hx hb dX12_feed_100 rfl ?_
  refine f_12_8 F w (a := 146) rfl tb_146 dX12_feed_101 ?_
  refine r_val (v := 5) ((st_ne (by decide)).trans st_at) ?_
  refine lv_iconst (v := 1) hx hb dX12_feed_104 (by decide) ?_
  refine lv_iadd hx hb dX12_feed_105 ?_
  refine r_val (v := 6) (by decide) ?_
  refine u_12_8 F w (a := 146) rfl tb_146 dX12_feed_106 (fun H locs w => ?_)
  refine lv_iinc (v := 6) (lv' := [(6, .int 6), (7, .int p2), (0, .ref (B + 146)), (1, .int p1), (2, .int p2), (3, .int p3), (4, .int p4), (5, .int p5)]) hx hb dX12_feed_109 hl (k := 1) rfl (by decide) (by decide) rfl (fun ls hl => ?_)
  refine lv_goto (tgt := 18) hx hb dX12_feed_112 (by decide) ?_
  refine lv_iload hx hb dX12_feed_18 (lv_at hl 0 rfl) ?_
  refine lv_bipush (v := 20) hx hb dX12_feed_20 (by decide) ?_
  refine lv_icmp_ge (tgt := 115) hx hb dX12_feed_22 (by decide) (fun c1 => absurd c1 (by decide)) (fun _ => ?_)
  refine lv_iload hx hb dX12_feed_25 (lv_at hl 0 rfl) ?_
  refine lv_iconst (v := 4) hx hb dX12_feed_27 (by decide) ?_
  refine lv_icmp_ge (tgt := 35) hx hb dX12_feed_28 (by decide) (fun _ => ?_) (fun c1 => absurd c1 (by decide))
  refine lv_iload hx hb dX12_feed_35 (lv_at hl 0 rfl) ?_
  refine lv_bipush (v := 8) hx hb dX12_feed_37 (by decide) ?_
  refine lv_icmp_ge (tgt := 46) hx hb dX12_feed_39 (by decide) (fun c1 => absurd c1 (by decide)) (fun _ => ?_)
  refine lv_iload_n hx hb dX12_feed_42 rfl (lv_at hl 4 rfl) ?_
  refine lv_goto (tgt := 71) hx hb dX12_feed_43 (by decide) ?_
  refine lv_istore (lv' := [(7, .int p2), (6, .int 6), (0, .ref (B + 146)), (1, .int p1), (2, .int p2), (3, .int p3), (4, .int p4), (5, .int p5)]) hx hb dX12_feed_71 hl (by decide) rfl (fun ls hl => ?_)
  refine lv_aload_n hx hb dX12_feed_73 rfl (lv_at hl 2 rfl) ?_
  refine f_12_7 F w (a := 146) rfl tb_129 dX12_feed_74 ?_
  refine lv_aload_n hx hb dX12_feed_77 rfl (lv_at hl 2 rfl) ?_
  refine f_12_8 F w (a := 146) rfl tb_146 dX12_feed_78 ?_
  refine r_val (v := 6) (st_at) ?_
  refine lv_iload hx hb dX12_feed_81 (lv_at hl 0 rfl) ?_
  refine lv_bipush (v := 24) hx hb dX12_feed_83 (by decide) ?_
  refine lv_bipush (v := 8) hx hb dX12_feed_85 (by decide) ?_
  refine lv_iload hx hb dX12_feed_87 (lv_at hl 1 rfl) ?_
  refine lv_iconst (v := 4) hx hb dX12_feed_89 (by decide) ?_
  refine lv_irem hx hb dX12_feed_90 (by decide) ?_
  refine r_val (v := 2) (by decide) ?_
  refine lv_imul hx hb dX12_feed_91 ?_
  refine r_val (v := 16) (by decide) ?_
  refine lv_isub hx hb dX12_feed_92 ?_
  refine r_val (v := 8) (by decide) ?_
  refine lv_ishr hx hb dX12_feed_93 ?_
  refine lv_sipush (v := 255) hx hb dX12_feed_94 (by decide) ?_
  refine lv_iand hx hb dX12_feed_97 ?_
  refine g_iast F w (a := 150) rfl (j := 6) ⟨by decide, by decide⟩ (by decide) dX12_feed_98 (fun H locs w => ?_)
  refine lv_aload_n hx hb dX12_feed_99 rfl (lv_at hl 2 rfl) ?_
  refine lv_dup hx hb dX12_feed_100 rfl ?_
  refine f_12_8 F w (a := 146) rfl tb_146 dX12_feed_101 ?_
  refine r_val (v := 6) ((st_ne (by decide)).trans st_at) ?_
  refine lv_iconst (v := 1) hx hb dX12_feed_104 (by decide) ?_
  refine lv_iadd hx hb dX12_feed_105 ?_
  refine r_val (v := 7) (by decide) ?_
  refine u_12_8 F w (a := 146) rfl tb_146 dX12_feed_106 (fun H locs w => ?_)
  refine lv_iinc (v := 7) (lv' := [(6, .int 7), (7, .int p2), (0, .ref (B + 146)), (1, .int p1), (2, .int p2), (3, .int p3), (4, .int p4), (5, .int p5)]) hx hb dX12_feed_109 hl (k := 1) rfl (by decide) (by decide) rfl (fun ls hl => ?_)
  refine lv_goto (tgt := 18) hx hb dX12_feed_112 (by decide) ?_
  refine lv_iload hx hb dX12_feed_18 (lv_at hl 0 rfl) ?_
  refine lv_bipush (v := 20) hx hb dX12_feed_20 (by decide) ?_
  refine lv_icmp_ge (tgt := 115) hx hb dX12_feed_22 (by decide) (fun c1 => absurd c1 (by decide)) (fun _ => ?_)
  refine lv_iload hx hb dX12_feed_25 (lv_at hl 0 rfl) ?_
  refine lv_iconst (v := 4) hx hb dX12_feed_27 (by decide) ?_
  refine lv_icmp_ge (tgt := 35) hx hb dX12_feed_28 (by decide) (fun _ => ?_) (fun c1 => absurd c1 (by decide))
  refine lv_iload hx hb dX12_feed_35 (lv_at hl 0 rfl) ?_
  refine lv_bipush (v := 8) hx hb dX12_feed_37 (by decide) ?_
  refine lv_icmp_ge (tgt := 46) hx hb dX12_feed_39 (by decide) (fun c1 => absurd c1 (by decide)) (fun _ => ?_)
  refine lv_iload_n hx hb dX12_feed_42 rfl (lv_at hl 4 rfl) ?_
  refine lv_goto (tgt := 71) hx hb dX12_feed_43 (by decide) ?_
  refine lv_istore (lv' := [(7, .int p2), (6, .int 7), (0, .ref (B + 146)), (1, .int p1), (2, .int p2), (3, .int p3), (4, .int p4), (5, .int p5)]) hx hb dX12_feed_71 hl (by decide) rfl (fun ls hl => ?_)
  refine lv_aload_n hx hb dX12_feed_73 rfl (lv_at hl 2 rfl) ?_
  refine f_12_7 F w (a := 146) rfl tb_129 dX12_feed_74 ?_
  refine lv_aload_n hx hb dX12_feed_77 rfl (lv_at hl 2 rfl) ?_
  refine f_12_8 F w (a := 146) rfl tb_146 dX12_feed_78 ?_
  refine r_val (v := 7) (st_at) ?_
  refine lv_iload hx hb dX12_feed_81 (lv_at hl 0 rfl) ?_
  refine lv_bipush (v := 24) hx hb dX12_feed_83 (by decide) ?_
  refine lv_bipush (v := 8) hx hb dX12_feed_85 (by decide) ?_
  refine lv_iload hx hb dX12_feed_87 (lv_at hl 1 rfl) ?_
  refine lv_iconst (v := 4) hx hb dX12_feed_89 (by decide) ?_
  refine lv_irem hx hb dX12_feed_90 (by decide) ?_
  refine r_val (v := 3) (by decide) ?_
  refine lv_imul hx hb dX12_feed_91 ?_
  refine r_val (v := 24) (by decide) ?_
  refine lv_isub hx hb dX12_feed_92 ?_
  refine r_val (v := 0) (by decide) ?_
  refine lv_ishr hx hb dX12_feed_93 ?_
  refine lv_sipush (v := 255) hx hb dX12_feed_94 (by decide) ?_
  refine lv_iand hx hb dX12_feed_97 ?_
  refine g_iast F w (a := 150) rfl (j := 7) ⟨by decide, by decide⟩ (by decide) dX12_feed_98 (fun H locs w => ?_)
  refine lv_aload_n hx hb dX12_feed_99 rfl (lv_at hl 2 rfl) ?_
  refine lv_dup hx hb dX12_feed_100 rfl ?_
  refine f_12_8 F w (a := 146) rfl tb_146 dX12_feed_101 ?_
  refine r_val (v := 7) ((st_ne (by decide)).trans st_at) ?_
  refine lv_iconst (v := 1) hx hb dX12_feed_104 (by decide) ?_
  refine lv_iadd hx hb dX12_feed_105 ?_
  refine r_val (v := 8) (by decide) ?_
  refine u_12_8 F w (a := 146) rfl tb_146 dX12_feed_106 (fun H locs w => ?_)
  refine lv_iinc (v := 8) (lv' := [(6, .int 8), (7, .int p2), (0, .ref (B + 146)), (1, .int p1), (2, .int p2), (3, .int p3), (4, .int p4), (5, .int p5)]) hx hb dX12_feed_109 hl (k := 1) rfl (by decide) (by decide) rfl (fun ls hl => ?_)
  refine lv_goto (tgt := 18) hx hb dX12_feed_112 (by decide) ?_
  refine lv_iload hx hb dX12_feed_18 (lv_at hl 0 rfl) ?_
  refine lv_bipush (v := 20) hx hb dX12_feed_20 (by decide) ?_
  refine lv_icmp_ge (tgt := 115) hx hb dX12_feed_22 (by decide) (fun c1 => absurd c1 (by decide)) (fun _ => ?_)
  refine lv_iload hx hb dX12_feed_25 (lv_at hl 0 rfl) ?_
  refine lv_iconst (v := 4) hx hb dX12_feed_27 (by decide) ?_
  refine lv_icmp_ge (tgt := 35) hx hb dX12_feed_28 (by decide) (fun _ => ?_) (fun c1 => absurd c1 (by decide))
  refine lv_iload hx hb dX12_feed_35 (lv_at hl 0 rfl) ?_
  refine lv_bipush (v := 8) hx hb dX12_feed_37 (by decide) ?_
  refine lv_icmp_ge (tgt := 46) hx hb dX12_feed_39 (by decide) (fun _ => ?_) (fun c1 => absurd c1 (by decide))
  refine lv_iload hx hb dX12_feed_46 (lv_at hl 0 rfl) ?_
  refine lv_bipush (v := 12) hx hb dX12_feed_48 (by decide) ?_
  refine lv_icmp_ge (tgt := 57) hx hb dX12_feed_50 (by decide) (fun c1 => absurd c1 (by decide)) (fun _ => ?_)
  refine lv_iload_n hx hb dX12_feed_53 rfl (lv_at hl 5 rfl) ?_
  refine lv_goto (tgt := 71) hx hb dX12_feed_54 (by decide) ?_
  refine lv_istore (lv' := [(7, .int p3), (6, .int 8), (0, .ref (B + 146)), (1, .int p1), (2, .int p2), (3, .int p3), (4, .int p4), (5, .int p5)]) hx hb dX12_feed_71 hl (by decide) rfl (fun ls hl => ?_)
  refine lv_aload_n hx hb dX12_feed_73 rfl (lv_at hl 2 rfl) ?_
  refine f_12_7 F w (a := 146) rfl tb_129 dX12_feed_74 ?_
  refine lv_aload_n hx hb dX12_feed_77 rfl (lv_at hl 2 rfl) ?_
  refine f_12_8 F w (a := 146) rfl tb_146 dX12_feed_78 ?_
  refine r_val (v := 8) (st_at) ?_
  refine lv_iload hx hb dX12_feed_81 (lv_at hl 0 rfl) ?_
  refine lv_bipush (v := 24) hx hb dX12_feed_83 (by decide) ?_
  refine lv_bipush (v := 8) hx hb dX12_feed_85 (by decide) ?_
  refine lv_iload hx hb dX12_feed_87 (lv_at hl 1 rfl) ?_
  refine lv_iconst (v := 4) hx hb dX12_feed_89 (by decide) ?_
  refine lv_irem hx hb dX12_feed_90 (by decide) ?_
  refine r_val (v := 0) (by decide) ?_
  refine lv_imul hx hb dX12_feed_91 ?_
  refine r_val (v := 0) (by decide) ?_
  refine lv_isub hx hb dX12_feed_92 ?_
  refine r_val (v := 24) (by decide) ?_
  refine lv_ishr hx hb dX12_feed_93 ?_
  refine lv_sipush (v := 255) hx hb dX12_feed_94 (by decide) ?_
  refine lv_iand hx hb dX12_feed_97 ?_
  refine g_iast F w (a := 150) rfl (j := 8) ⟨by decide, by decide⟩ (by decide) dX12_feed_98 (fun H locs w => ?_)
  refine lv_aload_n hx hb dX12_feed_99 rfl (lv_at hl 2 rfl) ?_
  refine lv_dup hx hb dX12_feed_100 rfl ?_
  refine f_12_8 F w (a := 146) rfl tb_146 dX12_feed_101 ?_
  refine r_val (v := 8) ((st_ne (by decide)).trans st_at) ?_
  refine lv_iconst (v := 1) hx hb dX12_feed_104 (by decide) ?_
  refine lv_iadd hx hb dX12_feed_105 ?_
  refine r_val (v := 9) (by decide) ?_
  refine u_12_8 F w (a := 146) rfl tb_146 dX12_feed_106 (fun H locs w => ?_)
  refine lv_iinc (v := 9) (lv' := [(6, .int 9), (7, .int p3), (0, .ref (B + 146)), (1, .int p1), (2, .int p2), (3, .int p3), (4, .int p4), (5, .int p5)]) hx hb dX12_feed_109 hl (k := 1) rfl (by decide) (by decide) rfl (fun ls hl => ?_)
  refine lv_goto (tgt := 18) hx hb dX12_feed_112 (by decide) ?_
  refine lv_iload hx hb dX12_feed_18 (lv_at hl 0 rfl) ?_
  refine lv_bipush (v := 20) hx hb dX12_feed_20 (by decide) ?_
  refine lv_icmp_ge (tgt := 115) hx hb dX12_feed_22 (by decide) (fun c1 => absurd c1 (by decide)) (fun _ => ?_)
  refine lv_iload hx hb dX12_feed_25 (lv_at hl 0 rfl) ?_
  refine lv_iconst (v := 4) hx hb dX12_feed_27 (by decide) ?_
  refine lv_icmp_ge (tgt := 35) hx hb dX12_feed_28 (by decide) (fun _ => ?_) (fun c1 => absurd c1 (by decide))
  refine lv_iload hx hb dX12_feed_35 (lv_at hl 0 rfl) ?_
  refine lv_bipush (v := 8) hx hb dX12_feed_37 (by decide) ?_
  refine lv_icmp_ge (tgt := 46) hx hb dX12_feed_39 (by decide) (fun _ => ?_) (fun c1 => absurd c1 (by decide))
  refine lv_iload hx hb dX12_feed_46 (lv_at hl 0 rfl) ?_
  refine lv_bipush (v := 12) hx hb dX12_feed_48 (by decide) ?_
  refine lv_icmp_ge (tgt := 57) hx hb dX12_feed_50 (by decide) (fun c1 => absurd c1 (by decide)) (fun _ => ?_)
  refine lv_iload_n hx hb dX12_feed_53 rfl (lv_at hl 5 rfl) ?_
  refine lv_goto (tgt := 71) hx hb dX12_feed_54 (by decide) ?_
  refine lv_istore (lv' := [(7, .int p3), (6, .int 9), (0, .ref (B + 146)), (1, .int p1), (2, .int p2), (3, .int p3), (4, .int p4), (5, .int p5)]) hx hb dX12_feed_71 hl (by decide) rfl (fun ls hl => ?_)
  refine lv_aload_n hx hb dX12_feed_73 rfl (lv_at hl 2 rfl) ?_
  refine f_12_7 F w (a := 146) rfl tb_129 dX12_feed_74 ?_
  refine lv_aload_n hx hb dX12_feed_77 rfl (lv_at hl 2 rfl) ?_
  refine f_12_8 F w (a := 146) rfl tb_146 dX12_feed_78 ?_
  refine r_val (v := 9) (st_at) ?_
  refine lv_iload hx hb dX12_feed_81 (lv_at hl 0 rfl) ?_
  refine lv_bipush (v := 24) hx hb dX12_feed_83 (by decide) ?_
  refine lv_bipush (v := 8) hx hb dX12_feed_85 (by decide) ?_
  refine lv_iload hx hb dX12_feed_87 (lv_at hl 1 rfl) ?_
  refine lv_iconst (v := 4) hx hb dX12_feed_89 (by decide) ?_
  refine lv_irem hx hb dX12_feed_90 (by decide) ?_
  refine r_val (v := 1) (by decide) ?_
  refine lv_imul hx hb dX12_feed_91 ?_
  refine r_val (v := 8) (by decide) ?_
  refine lv_isub hx hb dX12_feed_92 ?_
  refine r_val (v := 16) (by decide) ?_
  refine lv_ishr hx hb dX12_feed_93 ?_
  refine lv_sipush (v := 255) hx hb dX12_feed_94 (by decide) ?_
  refine lv_iand hx hb dX12_feed_97 ?_
  refine g_iast F w (a := 150) rfl (j := 9) ⟨by decide, by decide⟩ (by decide) dX12_feed_98 (fun H locs w => ?_)
  refine lv_aload_n hx hb dX12_feed_99 rfl (lv_at hl 2 rfl) ?_
  refine lv_dup hx hb dX12_feed_100 rfl ?_
  refine f_12_8 F w (a := 146) rfl tb_146 dX12_feed_101 ?_
  refine r_val (v := 9) ((st_ne (by decide)).trans st_at) ?_
  refine lv_iconst (v := 1) hx hb dX12_feed_104 (by decide) ?_
  refine lv_iadd hx hb dX12_feed_105 ?_
  refine r_val (v := 10) (by decide) ?_
  refine u_12_8 F w (a := 146) rfl tb_146 dX12_feed_106 (fun H locs w => ?_)
  refine lv_iinc (v := 10) (lv' := [(6, .int 10), (7, .int p3), (0, .ref (B + 146)), (1, .int p1), (2, .int p2), (3, .int p3), (4, .int p4), (5, .int p5)]) hx hb dX12_feed_109 hl (k := 1) rfl (by decide) (by decide) rfl (fun ls hl => ?_)
  refine lv_goto (tgt := 18) hx hb dX12_feed_112 (by decide) ?_
  refine lv_iload hx hb dX12_feed_18 (lv_at hl 0 rfl) ?_
  refine lv_bipush (v := 20) hx hb dX12_feed_20 (by decide) ?_
  refine lv_icmp_ge (tgt := 115) hx hb dX12_feed_22 (by decide) (fun c1 => absurd c1 (by decide)) (fun _ => ?_)
  refine lv_iload hx hb dX12_feed_25 (lv_at hl 0 rfl) ?_
  refine lv_iconst (v := 4) hx hb dX12_feed_27 (by decide) ?_
  refine lv_icmp_ge (tgt := 35) hx hb dX12_feed_28 (by decide) (fun _ => ?_) (fun c1 => absurd c1 (by decide))
  refine lv_iload hx hb dX12_feed_35 (lv_at hl 0 rfl) ?_
  refine lv_bipush (v := 8) hx hb dX12_feed_37 (by decide) ?_
  refine lv_icmp_ge (tgt := 46) hx hb dX12_feed_39 (by decide) (fun _ => ?_) (fun c1 => absurd c1 (by decide))
  refine lv_iload hx hb dX12_feed_46 (lv_at hl 0 rfl) ?_
  refine lv_bipush (v := 12) hx hb dX12_feed_48 (by decide) ?_
  refine lv_icmp_ge (tgt := 57) hx hb dX12_feed_50 (by decide) (fun c1 => absurd c1 (by decide)) (fun _ => ?_)
  refine lv_iload_n hx hb dX12_feed_53 rfl (lv_at hl 5 rfl) ?_
  refine lv_goto (tgt := 71) hx hb dX12_feed_54 (by decide) ?_
  refine lv_istore (lv' := [(7, .int p3), (6, .int 10), (0, .ref (B + 146)), (1, .int p1), (2, .int p2), (3, .int p3), (4, .int p4), (5, .int p5)]) hx hb dX12_feed_71 hl (by decide) rfl (fun ls hl => ?_)
  refine lv_aload_n hx hb dX12_feed_73 rfl (lv_at hl 2 rfl) ?_
  refine f_12_7 F w (a := 146) rfl tb_129 dX12_feed_74 ?_
  refine lv_aload_n hx hb dX12_feed_77 rfl (lv_at hl 2 rfl) ?_
  refine f_12_8 F w (a := 146) rfl tb_146 dX12_feed_78 ?_
  refine r_val (v := 10) (st_at) ?_
  refine lv_iload hx hb dX12_feed_81 (lv_at hl 0 rfl) ?_
  refine lv_bipush (v := 24) hx hb dX12_feed_83 (by decide) ?_
  refine lv_bipush (v := 8) hx hb dX12_feed_85 (by decide) ?_
  refine lv_iload hx hb dX12_feed_87 (lv_at hl 1 rfl) ?_
  refine lv_iconst (v := 4) hx hb dX12_feed_89 (by decide) ?_
  refine lv_irem hx hb dX12_feed_90 (by decide) ?_
  refine r_val (v := 2) (by decide) ?_
  refine lv_imul hx hb dX12_feed_91 ?_
  refine r_val (v := 16) (by decide) ?_
  refine lv_isub hx hb dX12_feed_92 ?_
  refine r_val (v := 8) (by decide) ?_
  refine lv_ishr hx hb dX12_feed_93 ?_
  refine lv_sipush (v := 255) hx hb dX12_feed_94 (by decide) ?_
  refine lv_iand hx hb dX12_feed_97 ?_
  refine g_iast F w (a := 150) rfl (j := 10) ⟨by decide, by decide⟩ (by decide) dX12_feed_98 (fun H locs w => ?_)
  refine lv_aload_n hx hb dX12_feed_99 rfl (lv_at hl 2 rfl) ?_
  refine lv_dup hx hb dX12_feed_100 rfl ?_
  refine f_12_8 F w (a := 146) rfl tb_146 dX12_feed_101 ?_
  refine r_val (v := 10) ((st_ne (by decide)).trans st_at) ?_
  refine lv_iconst (v := 1) hx hb dX12_feed_104 (by decide) ?_
  refine lv_iadd hx hb dX12_feed_105 ?_
  refine r_val (v := 11) (by decide) ?_
  refine u_12_8 F w (a := 146) rfl tb_146 dX12_feed_106 (fun H locs w => ?_)
  refine lv_iinc (v := 11) (lv' := [(6, .int 11), (7, .int p3), (0, .ref (B + 146)), (1, .int p1), (2, .int p2), (3, .int p3), (4, .int p4), (5, .int p5)]) hx hb dX12_feed_109 hl (k := 1) rfl (by decide) (by decide) rfl (fun ls hl => ?_)
  refine lv_goto (tgt := 18) hx hb dX12_feed_112 (by decide) ?_
  refine lv_iload hx hb dX12_feed_18 (lv_at hl 0 rfl) ?_
  refine lv_bipush (v := 20) hx hb dX12_feed_20 (by decide) ?_
  refine lv_icmp_ge (tgt := 115) hx hb dX12_feed_22 (by decide) (fun c1 => absurd c1 (by decide)) (fun _ => ?_)
  refine lv_iload hx hb dX12_feed_25 (lv_at hl 0 rfl) ?_
  refine lv_iconst (v := 4) hx hb dX12_feed_27 (by decide) ?_
  refine lv_icmp_ge (tgt := 35) hx hb dX12_feed_28 (by decide) (fun _ => ?_) (fun c1 => absurd c1 (by decide))
  refine lv_iload hx hb dX12_feed_35 (lv_at hl 0 rfl) ?_
  refine lv_bipush (v := 8) hx hb dX12_feed_37 (by decide) ?_
  refine lv_icmp_ge (tgt := 46) hx hb dX12_feed_39 (by decide) (fun _ => ?_) (fun c1 => absurd c1 (by decide))
  refine lv_iload hx hb dX12_feed_46 (lv_at hl 0 rfl) ?_
  refine lv_bipush (v := 12) hx hb dX12_feed_48 (by decide) ?_
  refine lv_icmp_ge (tgt := 57) hx hb dX12_feed_50 (by decide) (fun c1 => absurd c1 (by decide)) (fun _ => ?_)
  refine lv_iload_n hx hb dX12_feed_53 rfl (lv_at hl 5 rfl) ?_
  refine lv_goto (tgt := 71) hx hb dX12_feed_54 (by decide) ?_
  refine lv_istore (lv' := [(7, .int p3), (6, .int 11), (0, .ref (B + 146)), (1, .int p1), (2, .int p2), (3, .int p3), (4, .int p4), (5, .int p5)]) hx hb dX12_feed_71 hl (by decide) rfl (fun ls hl => ?_)
  refine lv_aload_n hx hb dX12_feed_73 rfl (lv_at hl 2 rfl) ?_
  refine f_12_7 F w (a := 146) rfl tb_129 dX12_feed_74 ?_
  refine lv_aload_n hx hb dX12_feed_77 rfl (lv_at hl 2 rfl) ?_
  refine f_12_8 F w (a := 146) rfl tb_146 dX12_feed_78 ?_
  refine r_val (v := 11) (st_at) ?_
  refine lv_iload hx hb dX12_feed_81 (lv_at hl 0 rfl) ?_
  refine lv_bipush (v := 24) hx hb dX12_feed_83 (by decide) ?_
  refine lv_bipush (v := 8) hx hb dX12_feed_85 (by decide) ?_
  refine lv_iload hx hb dX12_feed_87 (lv_at hl 1 rfl) ?_
  refine lv_iconst (v := 4) hx hb dX12_feed_89 (by decide) ?_
  refine lv_irem hx hb dX12_feed_90 (by decide) ?_
  refine r_val (v := 3) (by decide) ?_
  refine lv_imul hx hb dX12_feed_91 ?_
  refine r_val (v := 24) (by decide) ?_
  refine lv_isub hx hb dX12_feed_92 ?_
  refine r_val (v := 0) (by decide) ?_
  refine lv_ishr hx hb dX12_feed_93 ?_
  refine lv_sipush (v := 255) hx hb dX12_feed_94 (by decide) ?_
  refine lv_iand hx hb dX12_feed_97 ?_
  refine g_iast F w (a := 150) rfl (j := 11) ⟨by decide, by decide⟩ (by decide) dX12_feed_98 (fun H locs w => ?_)
  refine lv_aload_n hx hb dX12_feed_99 rfl (lv_at hl 2 rfl) ?_
  refine lv_dup hx hb dX12_feed_100 rfl ?_
  refine f_12_8 F w (a := 146) rfl tb_146 dX12_feed_101 ?_
  refine r_val (v := 11) ((st_ne (by decide)).trans st_at) ?_
  refine lv_iconst (v := 1) hx hb dX12_feed_104 (by decide) ?_
  refine lv_iadd hx hb dX12_feed_105 ?_
  refine r_val (v := 12) (by decide) ?_
  refine u_12_8 F w (a := 146) rfl tb_146 dX12_feed_106 (fun H locs w => ?_)
  refine lv_iinc (v := 12) (lv' := [(6, .int 12), (7, .int p3), (0, .ref (B + 146)), (1, .int p1), (2, .int p2), (3, .int p3), (4, .int p4), (5, .int p5)]) hx hb dX12_feed_109 hl (k := 1) rfl (by decide) (by decide) rfl (fun ls hl => ?_)
  refine lv_goto (tgt := 18) hx hb dX12_feed_112 (by decide) ?_
  refine lv_iload hx hb dX12_feed_18 (lv_at hl 0 rfl) ?_
  refine lv_bipush (v := 20) hx hb dX12_feed_20 (by decide) ?_
  refine lv_icmp_ge (tgt := 115) hx hb dX12_feed_22 (by decide) (fun c1 => absurd c1 (by decide)) (fun _ => ?_)
  refine lv_iload hx hb dX12_feed_25 (lv_at hl 0 rfl) ?_
  refine lv_iconst (v := 4) hx hb dX12_feed_27 (by decide) ?_
  refine lv_icmp_ge (tgt := 35) hx hb dX12_feed_28 (by decide) (fun _ => ?_) (fun c1 => absurd c1 (by decide))
  refine lv_iload hx hb dX12_feed_35 (lv_at hl 0 rfl) ?_
  refine lv_bipush (v := 8) hx hb dX12_feed_37 (by decide) ?_
  refine lv_icmp_ge (tgt := 46) hx hb dX12_feed_39 (by decide) (fun _ => ?_) (fun c1 => absurd c1 (by decide))
  refine lv_iload hx hb dX12_feed_46 (lv_at hl 0 rfl) ?_
  refine lv_bipush (v := 12) hx hb dX12_feed_48 (by decide) ?_
  refine lv_icmp_ge (tgt := 57) hx hb dX12_feed_50 (by decide) (fun _ => ?_) (fun c1 => absurd c1 (by decide))
  refine lv_iload hx hb dX12_feed_57 (lv_at hl 0 rfl) ?_
  refine lv_bipush (v := 16) hx hb dX12_feed_59 (by decide) ?_
  refine lv_icmp_ge (tgt := 69) hx hb dX12_feed_61 (by decide) (fun c1 => absurd c1 (by decide)) (fun _ => ?_)
  refine lv_iload hx hb dX12_feed_64 (lv_at hl 6 rfl) ?_
  refine lv_goto (tgt := 71) hx hb dX12_feed_66 (by decide) ?_
  refine lv_istore (lv' := [(7, .int p4), (6, .int 12), (0, .ref (B + 146)), (1, .int p1), (2, .int p2), (3, .int p3), (4, .int p4), (5, .int p5)]) hx hb dX12_feed_71 hl (by decide) rfl (fun ls hl => ?_)
  refine lv_aload_n hx hb dX12_feed_73 rfl (lv_at hl 2 rfl) ?_
  refine f_12_7 F w (a := 146) rfl tb_129 dX12_feed_74 ?_
  refine lv_aload_n hx hb dX12_feed_77 rfl (lv_at hl 2 rfl) ?_
  refine f_12_8 F w (a := 146) rfl tb_146 dX12_feed_78 ?_
  refine r_val (v := 12) (st_at) ?_
  refine lv_iload hx hb dX12_feed_81 (lv_at hl 0 rfl) ?_
  refine lv_bipush (v := 24) hx hb dX12_feed_83 (by decide) ?_
  refine lv_bipush (v := 8) hx hb dX12_feed_85 (by decide) ?_
  refine lv_iload hx hb dX12_feed_87 (lv_at hl 1 rfl) ?_
  refine lv_iconst (v := 4) hx hb dX12_feed_89 (by decide) ?_
  refine lv_irem hx hb dX12_feed_90 (by decide) ?_
  refine r_val (v := 0) (by decide) ?_
  refine lv_imul hx hb dX12_feed_91 ?_
  refine r_val (v := 0) (by decide) ?_
  refine lv_isub hx hb dX12_feed_92 ?_
  refine r_val (v := 24) (by decide) ?_
  refine lv_ishr hx hb dX12_feed_93 ?_
  refine lv_sipush (v := 255) hx hb dX12_feed_94 (by decide) ?_
  refine lv_iand hx hb dX12_feed_97 ?_
  refine g_iast F w (a := 150) rfl (j := 12) ⟨by decide, by decide⟩ (by decide) dX12_feed_98 (fun H locs w => ?_)
  refine lv_aload_n hx hb dX12_feed_99 rfl (lv_at hl 2 rfl) ?_
  refine lv_dup hx hb dX12_feed_100 rfl ?_
  refine f_12_8 F w (a := 146) rfl tb_146 dX12_feed_101 ?_
  refine r_val (v := 12) ((st_ne (by decide)).trans st_at) ?_
  refine lv_iconst (v := 1) hx hb dX12_feed_104 (by decide) ?_
  refine lv_iadd hx hb dX12_feed_105 ?_
  refine r_val (v := 13) (by decide) ?_
  refine u_12_8 F w (a := 146) rfl tb_146 dX12_feed_106 (fun H locs w => ?_)
  refine lv_iinc (v := 13) (lv' := [(6, .int 13), (7, .int p4), (0, .ref (B + 146)), (1, .int p1), (2, .int p2), (3, .int p3), (4, .int p4), (5, .int p5)]) hx hb dX12_feed_109 hl (k := 1) rfl (by decide) (by decide) rfl (fun ls hl => ?_)
  refine lv_goto (tgt := 18) hx hb dX12_feed_112 (by decide) ?_
  refine lv_iload hx hb dX12_feed_18 (lv_at hl 0 rfl) ?_
  refine lv_bipush (v := 20) hx hb dX12_feed_20 (by decide) ?_
  refine lv_icmp_ge (tgt := 115) hx hb dX12_feed_22 (by decide) (fun c1 => absurd c1 (by decide)) (fun _ => ?_)
  refine lv_iload hx hb dX12_feed_25 (lv_at hl 0 rfl) ?_
  refine lv_iconst (v := 4) hx hb dX12_feed_27 (by decide) ?_
  refine lv_icmp_ge (tgt := 35) hx hb dX12_feed_28 (by decide) (fun _ => ?_) (fun c1 => absurd c1 (by decide))
  refine lv_iload hx hb dX12_feed_35 (lv_at hl 0 rfl) ?_
  refine lv_bipush (v := 8) hx hb dX12_feed_37 (by decide) ?_
  refine lv_icmp_ge (tgt := 46) hx hb dX12_feed_39 (by decide) (fun _ => ?_) (fun c1 => absurd c1 (by decide))
  refine lv_iload hx hb dX12_feed_46 (lv_at hl 0 rfl) ?_
  refine lv_bipush (v := 12) hx hb dX12_feed_48 (by decide) ?_
  refine lv_icmp_ge (tgt := 57) hx hb dX12_feed_50 (by decide) (fun _ => ?_) (fun c1 => absurd c1 (by decide))
  refine lv_iload hx hb dX12_feed_57 (lv_at hl 0 rfl) ?_
  refine lv_bipush (v := 16) hx hb dX12_feed_59 (by decide) ?_
  refine lv_icmp_ge (tgt := 69) hx hb dX12_feed_61 (by decide) (fun c1 => absurd c1 (by decide)) (fun _ => ?_)
  refine lv_iload hx hb dX12_feed_64 (lv_at hl 6 rfl) ?_
  refine lv_goto (tgt := 71) hx hb dX12_feed_66 (by decide) ?_
  refine lv_istore (lv' := [(7, .int p4), (6, .int 13), (0, .ref (B + 146)), (1, .int p1), (2, .int p2), (3, .int p3), (4, .int p4), (5, .int p5)]) hx hb dX12_feed_71 hl (by decide) rfl (fun ls hl => ?_)
  refine lv_aload_n hx hb dX12_feed_73 rfl (lv_at hl 2 rfl) ?_
  refine f_12_7 F w (a := 146) rfl tb_129 dX12_feed_74 ?_
  refine lv_aload_n hx hb dX12_feed_77 rfl (lv_at hl 2 rfl) ?_
  refine f_12_8 F w (a := 146) rfl tb_146 dX12_feed_78 ?_
  refine r_val (v := 13) (st_at) ?_
  refine lv_iload hx hb dX12_feed_81 (lv_at hl 0 rfl) ?_
  refine lv_bipush (v := 24) hx hb dX12_feed_83 (by decide) ?_
  refine lv_bipush (v := 8) hx hb dX12_feed_85 (by decide) ?_
  refine lv_iload hx hb dX12_feed_87 (lv_at hl 1 rfl) ?_
  refine lv_iconst (v := 4) hx hb dX12_feed_89 (by decide) ?_
  refine lv_irem hx hb dX12_feed_90 (by decide) ?_
  refine r_val (v := 1) (by decide) ?_
  refine lv_imul hx hb dX12_feed_91 ?_
  refine r_val (v := 8) (by decide) ?_
  refine lv_isub hx hb dX12_feed_92 ?_
  refine r_val (v := 16) (by decide) ?_
  refine lv_ishr hx hb dX12_feed_93 ?_
  refine lv_sipush (v := 255) hx hb dX12_feed_94 (by decide) ?_
  refine lv_iand hx hb dX12_feed_97 ?_
  refine g_iast F w (a := 150) rfl (j := 13) ⟨by decide, by decide⟩ (by decide) dX12_feed_98 (fun H locs w => ?_)
  refine lv_aload_n hx hb dX12_feed_99 rfl (lv_at hl 2 rfl) ?_
  refine lv_dup hx hb dX12_feed_100 rfl ?_
  refine f_12_8 F w (a := 146) rfl tb_146 dX12_feed_101 ?_
  refine r_val (v := 13) ((st_ne (by decide)).trans st_at) ?_
  refine lv_iconst (v := 1) hx hb dX12_feed_104 (by decide) ?_
  refine lv_iadd hx hb dX12_feed_105 ?_
  refine r_val (v := 14) (by decide) ?_
  refine u_12_8 F w (a := 146) rfl tb_146 dX12_feed_106 (fun H locs w => ?_)
  refine lv_iinc (v := 14) (lv' := [(6, .int 14), (7, .int p4), (0, .ref (B + 146)), (1, .int p1), (2, .int p2), (3, .int p3), (4, .int p4), (5, .int p5)]) hx hb dX12_feed_109 hl (k := 1) rfl (by decide) (by decide) rfl (fun ls hl => ?_)
  refine lv_goto (tgt := 18) hx hb dX12_feed_112 (by decide) ?_
  refine lv_iload hx hb dX12_feed_18 (lv_at hl 0 rfl) ?_
  refine lv_bipush (v := 20) hx hb dX12_feed_20 (by decide) ?_
  refine lv_icmp_ge (tgt := 115) hx hb dX12_feed_22 (by decide) (fun c1 => absurd c1 (by decide)) (fun _ => ?_)
  refine lv_iload hx hb dX12_feed_25 (lv_at hl 0 rfl) ?_
  refine lv_iconst (v := 4) hx hb dX12_feed_27 (by decide) ?_
  refine lv_icmp_ge (tgt := 35) hx hb dX12_feed_28 (by decide) (fun _ => ?_) (fun c1 => absurd c1 (by decide))
  refine lv_iload hx hb dX12_feed_35 (lv_at hl 0 rfl) ?_
  refine lv_bipush (v := 8) hx hb dX12_feed_37 (by decide) ?_
  refine lv_icmp_ge (tgt := 46) hx hb dX12_feed_39 (by decide) (fun _ => ?_) (fun c1 => absurd c1 (by decide))
  refine lv_iload hx hb dX12_feed_46 (lv_at hl 0 rfl) ?_
  refine lv_bipush (v := 12) hx hb dX12_feed_48 (by decide) ?_
  refine lv_icmp_ge (tgt := 57) hx hb dX12_feed_50 (by decide) (fun _ => ?_) (fun c1 => absurd c1 (by decide))
  refine lv_iload hx hb dX12_feed_57 (lv_at hl 0 rfl) ?_
  refine lv_bipush (v := 16) hx hb dX12_feed_59 (by decide) ?_
  refine lv_icmp_ge (tgt := 69) hx hb dX12_feed_61 (by decide) (fun c1 => absurd c1 (by decide)) (fun _ => ?_)
  refine lv_iload hx hb dX12_feed_64 (lv_at hl 6 rfl) ?_
  refine lv_goto (tgt := 71) hx hb dX12_feed_66 (by decide) ?_
  refine lv_istore (lv' := [(7, .int p4), (6, .int 14), (0, .ref (B + 146)), (1, .int p1), (2, .int p2), (3, .int p3), (4, .int p4), (5, .int p5)]) hx hb dX12_feed_71 hl (by decide) rfl (fun ls hl => ?_)
  refine lv_aload_n hx hb dX12_feed_73 rfl (lv_at hl 2 rfl) ?_
  refine f_12_7 F w (a := 146) rfl tb_129 dX12_feed_74 ?_
  refine lv_aload_n hx hb dX12_feed_77 rfl (lv_at hl 2 rfl) ?_
  refine f_12_8 F w (a := 146) rfl tb_146 dX12_feed_78 ?_
  refine r_val (v := 14) (st_at) ?_
  refine lv_iload hx hb dX12_feed_81 (lv_at hl 0 rfl) ?_
  refine lv_bipush (v := 24) hx hb dX12_feed_83 (by decide) ?_
  refine lv_bipush (v := 8) hx hb dX12_feed_85 (by decide) ?_
  refine lv_iload hx hb dX12_feed_87 (lv_at hl 1 rfl) ?_
  refine lv_iconst (v := 4) hx hb dX12_feed_89 (by decide) ?_
  refine lv_irem hx hb dX12_feed_90 (by decide) ?_
  refine r_val (v := 2) (by decide) ?_
  refine lv_imul hx hb dX12_feed_91 ?_
  refine r_val (v := 16) (by decide) ?_
  refine lv_isub hx hb dX12_feed_92 ?_
  refine r_val (v := 8) (by decide) ?_
  refine lv_ishr hx hb dX12_feed_93 ?_
  refine lv_sipush (v := 255) hx hb dX12_feed_94 (by decide) ?_
  refine lv_iand hx hb dX12_feed_97 ?_
  refine g_iast F w (a := 150) rfl (j := 14) ⟨by decide, by decide⟩ (by decide) dX12_feed_98 (fun H locs w => ?_)
  refine lv_aload_n hx hb dX12_feed_99 rfl (lv_at hl 2 rfl) ?_
  refine lv_dup hx hb dX12_feed_100 rfl ?_
  refine f_12_8 F w (a := 146) rfl tb_146 dX12_feed_101 ?_
  refine r_val (v := 14) ((st_ne (by decide)).trans st_at) ?_
  refine lv_iconst (v := 1) hx hb dX12_feed_104 (by decide) ?_
  refine lv_iadd hx hb dX12_feed_105 ?_
  refine r_val (v := 15) (by decide) ?_
  refine u_12_8 F w (a := 146) rfl tb_146 dX12_feed_106 (fun H locs w => ?_)
  refine lv_iinc (v := 15) (lv' := [(6, .int 15), (7, .int p4), (0, .ref (B + 146)), (1, .int p1), (2, .int p2), (3, .int p3), (4, .int p4), (5, .int p5)]) hx hb dX12_feed_109 hl (k := 1) rfl (by decide) (by decide) rfl (fun ls hl => ?_)
  refine lv_goto (tgt := 18) hx hb dX12_feed_112 (by decide) ?_
  refine lv_iload hx hb dX12_feed_18 (lv_at hl 0 rfl) ?_
  refine lv_bipush (v := 20) hx hb dX12_feed_20 (by decide) ?_
  refine lv_icmp_ge (tgt := 115) hx hb dX12_feed_22 (by decide) (fun c1 => absurd c1 (by decide)) (fun _ => ?_)
  refine lv_iload hx hb dX12_feed_25 (lv_at hl 0 rfl) ?_
  refine lv_iconst (v := 4) hx hb dX12_feed_27 (by decide) ?_
  refine lv_icmp_ge (tgt := 35) hx hb dX12_feed_28 (by decide) (fun _ => ?_) (fun c1 => absurd c1 (by decide))
  refine lv_iload hx hb dX12_feed_35 (lv_at hl 0 rfl) ?_
  refine lv_bipush (v := 8) hx hb dX12_feed_37 (by decide) ?_
  refine lv_icmp_ge (tgt := 46) hx hb dX12_feed_39 (by decide) (fun _ => ?_) (fun c1 => absurd c1 (by decide))
  refine lv_iload hx hb dX12_feed_46 (lv_at hl 0 rfl) ?_
  refine lv_bipush (v := 12) hx hb dX12_feed_48 (by decide) ?_
  refine lv_icmp_ge (tgt := 57) hx hb dX12_feed_50 (by decide) (fun _ => ?_) (fun c1 => absurd c1 (by decide))
  refine lv_iload hx hb dX12_feed_57 (lv_at hl 0 rfl) ?_
  refine lv_bipush (v := 16) hx hb dX12_feed_59 (by decide) ?_
  refine lv_icmp_ge (tgt := 69) hx hb dX12_feed_61 (by decide) (fun c1 => absurd c1 (by decide)) (fun _ => ?_)
  refine lv_iload hx hb dX12_feed_64 (lv_at hl 6 rfl) ?_
  refine lv_goto (tgt := 71) hx hb dX12_feed_66 (by decide) ?_
  refine lv_istore (lv' := [(7, .int p4), (6, .int 15), (0, .ref (B + 146)), (1, .int p1), (2, .int p2), (3, .int p3), (4, .int p4), (5, .int p5)]) hx hb dX12_feed_71 hl (by decide) rfl (fun ls hl => ?_)
  refine lv_aload_n hx hb dX12_feed_73 rfl (lv_at hl 2 rfl) ?_
  refine f_12_7 F w (a := 146) rfl tb_129 dX12_feed_74 ?_
  refine lv_aload_n hx hb dX12_feed_77 rfl (lv_at hl 2 rfl) ?_
  refine f_12_8 F w (a := 146) rfl tb_146 dX12_feed_78 ?_
  refine r_val (v := 15) (st_at) ?_
  refine lv_iload hx hb dX12_feed_81 (lv_at hl 0 rfl) ?_
  refine lv_bipush (v := 24) hx hb dX12_feed_83 (by decide) ?_
  refine lv_bipush (v := 8) hx hb dX12_feed_85 (by decide) ?_
  refine lv_iload hx hb dX12_feed_87 (lv_at hl 1 rfl) ?_
  refine lv_iconst (v := 4) hx hb dX12_feed_89 (by decide) ?_
  refine lv_irem hx hb dX12_feed_90 (by decide) ?_
  refine r_val (v := 3) (by decide) ?_
  refine lv_imul hx hb dX12_feed_91 ?_
  refine r_val (v := 24) (by decide) ?_
  refine lv_isub hx hb dX12_feed_92 ?_
  refine r_val (v := 0) (by decide) ?_
  refine lv_ishr hx hb dX12_feed_93 ?_
  refine lv_sipush (v := 255) hx hb dX12_feed_94 (by decide) ?_
  refine lv_iand hx hb dX12_feed_97 ?_
  refine g_iast F w (a := 150) rfl (j := 15) ⟨by decide, by decide⟩ (by decide) dX12_feed_98 (fun H locs w => ?_)
  refine lv_aload_n hx hb dX12_feed_99 rfl (lv_at hl 2 rfl) ?_
  refine lv_dup hx hb dX12_feed_100 rfl ?_
  refine f_12_8 F w (a := 146) rfl tb_146 dX12_feed_101 ?_
  refine r_val (v := 15) ((st_ne (by decide)).trans st_at) ?_
  refine lv_iconst (v := 1) hx hb dX12_feed_104 (by decide) ?_
  refine lv_iadd hx hb dX12_feed_105 ?_
  refine r_val (v := 16) (by decide) ?_
  refine u_12_8 F w (a := 146) rfl tb_146 dX12_feed_106 (fun H locs w => ?_)
  refine lv_iinc (v := 16) (lv' := [(6, .int 16), (7, .int p4), (0, .ref (B + 146)), (1, .int p1), (2, .int p2), (3, .int p3), (4, .int p4), (5, .int p5)]) hx hb dX12_feed_109 hl (k := 1) rfl (by decide) (by decide) rfl (fun ls hl => ?_)
  refine lv_goto (tgt := 18) hx hb dX12_feed_112 (by decide) ?_
  refine lv_iload hx hb dX12_feed_18 (lv_at hl 0 rfl) ?_
  refine lv_bipush (v := 20) hx hb dX12_feed_20 (by decide) ?_
  refine lv_icmp_ge (tgt := 115) hx hb dX12_feed_22 (by decide) (fun c1 => absurd c1 (by decide)) (fun _ => ?_)
  refine lv_iload hx hb dX12_feed_25 (lv_at hl 0 rfl) ?_
  refine lv_iconst (v := 4) hx hb dX12_feed_27 (by decide) ?_
  refine lv_icmp_ge (tgt := 35) hx hb dX12_feed_28 (by decide) (fun _ => ?_) (fun c1 => absurd c1 (by decide))
  refine lv_iload hx hb dX12_feed_35 (lv_at hl 0 rfl) ?_
  refine lv_bipush (v := 8) hx hb dX12_feed_37 (by decide) ?_
  refine lv_icmp_ge (tgt := 46) hx hb dX12_feed_39 (by decide) (fun _ => ?_) (fun c1 => absurd c1 (by decide))
  refine lv_iload hx hb dX12_feed_46 (lv_at hl 0 rfl) ?_
  refine lv_bipush (v := 12) hx hb dX12_feed_48 (by decide) ?_
  refine lv_icmp_ge (tgt := 57) hx hb dX12_feed_50 (by decide) (fun _ => ?_) (fun c1 => absurd c1 (by decide))
  refine lv_iload hx hb dX12_feed_57 (lv_at hl 0 rfl) ?_
  refine lv_bipush (v := 16) hx hb dX12_feed_59 (by decide) ?_
  refine lv_icmp_ge (tgt := 69) hx hb dX12_feed_61 (by decide) (fun _ => ?_) (fun c1 => absurd c1 (by decide))
  refine lv_iload hx hb dX12_feed_69 (lv_at hl 7 rfl) ?_
  refine lv_istore (lv' := [(7, .int p5), (6, .int 16), (0, .ref (B + 146)), (1, .int p1), (2, .int p2), (3, .int p3), (4, .int p4), (5, .int p5)]) hx hb dX12_feed_71 hl (by decide) rfl (fun ls hl => ?_)
  refine lv_aload_n hx hb dX12_feed_73 rfl (lv_at hl 2 rfl) ?_
  refine f_12_7 F w (a := 146) rfl tb_129 dX12_feed_74 ?_
  refine lv_aload_n hx hb dX12_feed_77 rfl (lv_at hl 2 rfl) ?_
  refine f_12_8 F w (a := 146) rfl tb_146 dX12_feed_78 ?_
  refine r_val (v := 16) (st_at) ?_
  refine lv_iload hx hb dX12_feed_81 (lv_at hl 0 rfl) ?_
  refine lv_bipush (v := 24) hx hb dX12_feed_83 (by decide) ?_
  refine lv_bipush (v := 8) hx hb dX12_feed_85 (by decide) ?_
  refine lv_iload hx hb dX12_feed_87 (lv_at hl 1 rfl) ?_
  refine lv_iconst (v := 4) hx hb dX12_feed_89 (by decide) ?_
  refine lv_irem hx hb dX12_feed_90 (by decide) ?_
  refine r_val (v := 0) (by decide) ?_
  refine lv_imul hx hb dX12_feed_91 ?_
  refine r_val (v := 0) (by decide) ?_
  refine lv_isub hx hb dX12_feed_92 ?_
  refine r_val (v := 24) (by decide) ?_
  refine lv_ishr hx hb dX12_feed_93 ?_
  refine lv_sipush (v := 255) hx hb dX12_feed_94 (by decide) ?_
  refine lv_iand hx hb dX12_feed_97 ?_
  refine g_iast F w (a := 150) rfl (j := 16) ⟨by decide, by decide⟩ (by decide) dX12_feed_98 (fun H locs w => ?_)
  refine lv_aload_n hx hb dX12_feed_99 rfl (lv_at hl 2 rfl) ?_
  refine lv_dup hx hb dX12_feed_100 rfl ?_
  refine f_12_8 F w (a := 146) rfl tb_146 dX12_feed_101 ?_
  refine r_val (v := 16) ((st_ne (by decide)).trans st_at) ?_
  refine lv_iconst (v := 1) hx hb dX12_feed_104 (by decide) ?_
  refine lv_iadd hx hb dX12_feed_105 ?_
  refine r_val (v := 17) (by decide) ?_
  refine u_12_8 F w (a := 146) rfl tb_146 dX12_feed_106 (fun H locs w => ?_)
  refine lv_iinc (v := 17) (lv' := [(6, .int 17), (7, .int p5), (0, .ref (B + 146)), (1, .int p1), (2, .int p2), (3, .int p3), (4, .int p4), (5, .int p5)]) hx hb dX12_feed_109 hl (k := 1) rfl (by decide) (by decide) rfl (fun ls hl => ?_)
  refine lv_goto (tgt := 18) hx hb dX12_feed_112 (by decide) ?_
  refine lv_iload hx hb dX12_feed_18 (lv_at hl 0 rfl) ?_
  refine lv_bipush (v := 20) hx hb dX12_feed_20 (by decide) ?_
  refine lv_icmp_ge (tgt := 115) hx hb dX12_feed_22 (by decide) (fun c1 => absurd c1 (by decide)) (fun _ => ?_)
  refine lv_iload hx hb dX12_feed_25 (lv_at hl 0 rfl) ?_
  refine lv_iconst (v := 4) hx hb dX12_feed_27 (by decide) ?_
  refine lv_icmp_ge (tgt := 35) hx hb dX12_feed_28 (by decide) (fun _ => ?_) (fun c1 => absurd c1 (by decide))
  refine lv_iload hx hb dX12_feed_35 (lv_at hl 0 rfl) ?_
  refine lv_bipush (v := 8) hx hb dX12_feed_37 (by decide) ?_
  refine lv_icmp_ge (tgt := 46) hx hb dX12_feed_39 (by decide) (fun _ => ?_) (fun c1 => absurd c1 (by decide))
  refine lv_iload hx hb dX12_feed_46 (lv_at hl 0 rfl) ?_
  refine lv_bipush (v := 12) hx hb dX12_feed_48 (by decide) ?_
  refine lv_icmp_ge (tgt := 57) hx hb dX12_feed_50 (by decide) (fun _ => ?_) (fun c1 => absurd c1 (by decide))
  refine lv_iload hx hb dX12_feed_57 (lv_at hl 0 rfl) ?_
  refine lv_bipush (v := 16) hx hb dX12_feed_59 (by decide) ?_
  refine lv_icmp_ge (tgt := 69) hx hb dX12_feed_61 (by decide) (fun _ => ?_) (fun c1 => absurd c1 (by decide))
  refine lv_iload hx hb dX12_feed_69 (lv_at hl 7 rfl) ?_
  refine lv_istore (lv' := [(7, .int p5), (6, .int 17), (0, .ref (B + 146)), (1, .int p1), (2, .int p2), (3, .int p3), (4, .int p4), (5, .int p5)]) hx hb dX12_feed_71 hl (by decide) rfl (fun ls hl => ?_)
  refine lv_aload_n hx hb dX12_feed_73 rfl (lv_at hl 2 rfl) ?_
  refine f_12_7 F w (a := 146) rfl tb_129 dX12_feed_74 ?_
  refine lv_aload_n hx hb dX12_feed_77 rfl (lv_at hl 2 rfl) ?_
  refine f_12_8 F w (a := 146) rfl tb_146 dX12_feed_78 ?_
  refine r_val (v := 17) (st_at) ?_
  refine lv_iload hx hb dX12_feed_81 (lv_at hl 0 rfl) ?_
  refine lv_bipush (v := 24) hx hb dX12_feed_83 (by decide) ?_
  refine lv_bipush (v := 8) hx hb dX12_feed_85 (by decide) ?_
  refine lv_iload hx hb dX12_feed_87 (lv_at hl 1 rfl) ?_
  refine lv_iconst (v := 4) hx hb dX12_feed_89 (by decide) ?_
  refine lv_irem hx hb dX12_feed_90 (by decide) ?_
  refine r_val (v := 1) (by decide) ?_
  refine lv_imul hx hb dX12_feed_91 ?_
  refine r_val (v := 8) (by decide) ?_
  refine lv_isub hx hb dX12_feed_92 ?_
  refine r_val (v := 16) (by decide) ?_
  refine lv_ishr hx hb dX12_feed_93 ?_
  refine lv_sipush (v := 255) hx hb dX12_feed_94 (by decide) ?_
  refine lv_iand hx hb dX12_feed_97 ?_
  refine g_iast F w (a := 150) rfl (j := 17) ⟨by decide, by decide⟩ (by decide) dX12_feed_98 (fun H locs w => ?_)
  refine lv_aload_n hx hb dX12_feed_99 rfl (lv_at hl 2 rfl) ?_
  refine lv_dup hx hb dX12_feed_100 rfl ?_
  refine f_12_8 F w (a := 146) rfl tb_146 dX12_feed_101 ?_
  refine r_val (v := 17) ((st_ne (by decide)).trans st_at) ?_
  refine lv_iconst (v := 1) hx hb dX12_feed_104 (by decide) ?_
  refine lv_iadd hx hb dX12_feed_105 ?_
  refine r_val (v := 18) (by decide) ?_
  refine u_12_8 F w (a := 146) rfl tb_146 dX12_feed_106 (fun H locs w => ?_)
  refine lv_iinc (v := 18) (lv' := [(6, .int 18), (7, .int p5), (0, .ref (B + 146)), (1, .int p1), (2, .int p2), (3, .int p3), (4, .int p4), (5, .int p5)]) hx hb dX12_feed_109 hl (k := 1) rfl (by decide) (by decide) rfl (fun ls hl => ?_)
  refine lv_goto (tgt := 18) hx hb dX12_feed_112 (by decide) ?_
  refine lv_iload hx hb dX12_feed_18 (lv_at hl 0 rfl) ?_
  refine lv_bipush (v := 20) hx hb dX12_feed_20 (by decide) ?_
  refine lv_icmp_ge (tgt := 115) hx hb dX12_feed_22 (by decide) (fun c1 => absurd c1 (by decide)) (fun _ => ?_)
  refine lv_iload hx hb dX12_feed_25 (lv_at hl 0 rfl) ?_
  refine lv_iconst (v := 4) hx hb dX12_feed_27 (by decide) ?_
  refine lv_icmp_ge (tgt := 35) hx hb dX12_feed_28 (by decide) (fun _ => ?_) (fun c1 => absurd c1 (by decide))
  refine lv_iload hx hb dX12_feed_35 (lv_at hl 0 rfl) ?_
  refine lv_bipush (v := 8) hx hb dX12_feed_37 (by decide) ?_
  refine lv_icmp_ge (tgt := 46) hx hb dX12_feed_39 (by decide) (fun _ => ?_) (fun c1 => absurd c1 (by decide))
  refine lv_iload hx hb dX12_feed_46 (lv_at hl 0 rfl) ?_
  refine lv_bipush (v := 12) hx hb dX12_feed_48 (by decide) ?_
  refine lv_icmp_ge (tgt := 57) hx hb dX12_feed_50 (by decide) (fun _ => ?_) (fun c1 => absurd c1 (by decide))
  refine lv_iload hx hb dX12_feed_57 (lv_at hl 0 rfl) ?_
  refine lv_bipush (v := 16) hx hb dX12_feed_59 (by decide) ?_
  refine lv_icmp_ge (tgt := 69) hx hb dX12_feed_61 (by decide) (fun _ => ?_) (fun c1 => absurd c1 (by decide))
  refine lv_iload hx hb dX12_feed_69 (lv_at hl 7 rfl) ?_
  refine lv_istore (lv' := [(7, .int p5), (6, .int 18), (0, .ref (B + 146)), (1, .int p1), (2, .int p2), (3, .int p3), (4, .int p4), (5, .int p5)]) hx hb dX12_feed_71 hl (by decide) rfl (fun ls hl => ?_)
  refine lv_aload_n hx hb dX12_feed_73 rfl (lv_at hl 2 rfl) ?_
  refine f_12_7 F w (a := 146) rfl tb_129 dX12_feed_74 ?_
  refine lv_aload_n hx hb dX12_feed_77 rfl (lv_at hl 2 rfl) ?_
  refine f_12_8 F w (a := 146) rfl tb_146 dX12_feed_78 ?_
  refine r_val (v := 18) (st_at) ?_
  refine lv_iload hx hb dX12_feed_81 (lv_at hl 0 rfl) ?_
  refine lv_bipush (v := 24) hx hb dX12_feed_83 (by decide) ?_
  refine lv_bipush (v := 8) hx hb dX12_feed_85 (by decide) ?_
  refine lv_iload hx hb dX12_feed_87 (lv_at hl 1 rfl) ?_
  refine lv_iconst (v := 4) hx hb dX12_feed_89 (by decide) ?_
  refine lv_irem hx hb dX12_feed_90 (by decide) ?_
  refine r_val (v := 2) (by decide) ?_
  refine lv_imul hx hb dX12_feed_91 ?_
  refine r_val (v := 16) (by decide) ?_
  refine lv_isub hx hb dX12_feed_92 ?_
  refine r_val (v := 8) (by decide) ?_
  refine lv_ishr hx hb dX12_feed_93 ?_
  refine lv_sipush (v := 255) hx hb dX12_feed_94 (by decide) ?_
  refine lv_iand hx hb dX12_feed_97 ?_
  refine g_iast F w (a := 150) rfl (j := 18) ⟨by decide, by decide⟩ (by decide) dX12_feed_98 (fun H locs w => ?_)
  refine lv_aload_n hx hb dX12_feed_99 rfl (lv_at hl 2 rfl) ?_
  refine lv_dup hx hb dX12_feed_100 rfl ?_
  refine f_12_8 F w (a := 146) rfl tb_146 dX12_feed_101 ?_
  refine r_val (v := 18) ((st_ne (by decide)).trans st_at) ?_
  refine lv_iconst (v := 1) hx hb dX12_feed_104 (by decide) ?_
  refine lv_iadd hx hb dX12_feed_105 ?_
  refine r_val (v := 19) (by decide) ?_
  refine u_12_8 F w (a := 146) rfl tb_146 dX12_feed_106 (fun H locs w => ?_)
  refine lv_iinc (v := 19) (lv' := [(6, .int 19), (7, .int p5), (0, .ref (B + 146)), (1, .int p1), (2, .int p2), (3, .int p3), (4, .int p4), (5, .int p5)]) hx hb dX12_feed_109 hl (k := 1) rfl (by decide) (by decide) rfl (fun ls hl => ?_)
  refine lv_goto (tgt := 18) hx hb dX12_feed_112 (by decide) ?_
  refine lv_iload hx hb dX12_feed_18 (lv_at hl 0 rfl) ?_
  refine lv_bipush (v := 20) hx hb dX12_feed_20 (by decide) ?_
  refine lv_icmp_ge (tgt := 115) hx hb dX12_feed_22 (by decide) (fun c1 => absurd c1 (by decide)) (fun _ => ?_)
  refine lv_iload hx hb dX12_feed_25 (lv_at hl 0 rfl) ?_
  refine lv_iconst (v := 4) hx hb dX12_feed_27 (by decide) ?_
  refine lv_icmp_ge (tgt := 35) hx hb dX12_feed_28 (by decide) (fun _ => ?_) (fun c1 => absurd c1 (by decide))
  refine lv_iload hx hb dX12_feed_35 (lv_at hl 0 rfl) ?_
  refine lv_bipush (v := 8) hx hb dX12_feed_37 (by decide) ?_
  refine lv_icmp_ge (tgt := 46) hx hb dX12_feed_39 (by decide) (fun _ => ?_) (fun c1 => absurd c1 (by decide))
  refine lv_iload hx hb dX12_feed_46 (lv_at hl 0 rfl) ?_
  refine lv_bipush (v := 12) hx hb dX12_feed_48 (by decide) ?_
  refine lv_icmp_ge (tgt := 57) hx hb dX12_feed_50 (by decide) (fun _ => ?_) (fun c1 => absurd c1 (by decide))
  refine lv_iload hx hb dX12_feed_57 (lv_at hl 0 rfl) ?_
  refine lv_bipush (v := 16) hx hb dX12_feed_59 (by decide) ?_
  refine lv_icmp_ge (tgt := 69) hx hb dX12_feed_61 (by decide) (fun _ => ?_) (fun c1 => absurd c1 (by decide))
  refine lv_iload hx hb dX12_feed_69 (lv_at hl 7 rfl) ?_
  refine lv_istore (lv' := [(7, .int p5), (6, .int 19), (0, .ref (B + 146)), (1, .int p1), (2, .int p2), (3, .int p3), (4, .int p4), (5, .int p5)]) hx hb dX12_feed_71 hl (by decide) rfl (fun ls hl => ?_)
  refine lv_aload_n hx hb dX12_feed_73 rfl (lv_at hl 2 rfl) ?_
  refine f_12_7 F w (a := 146) rfl tb_129 dX12_feed_74 ?_
  refine lv_aload_n hx hb dX12_feed_77 rfl (lv_at hl 2 rfl) ?_
  refine f_12_8 F w (a := 146) rfl tb_146 dX12_feed_78 ?_
  refine r_val (v := 19) (st_at) ?_
  refine lv_iload hx hb dX12_feed_81 (lv_at hl 0 rfl) ?_
  refine lv_bipush (v := 24) hx hb dX12_feed_83 (by decide) ?_
  refine lv_bipush (v := 8) hx hb dX12_feed_85 (by decide) ?_
  refine lv_iload hx hb dX12_feed_87 (lv_at hl 1 rfl) ?_
  refine lv_iconst (v := 4) hx hb dX12_feed_89 (by decide) ?_
  refine lv_irem hx hb dX12_feed_90 (by decide) ?_
  refine r_val (v := 3) (by decide) ?_
  refine lv_imul hx hb dX12_feed_91 ?_
  refine r_val (v := 24) (by decide) ?_
  refine lv_isub hx hb dX12_feed_92 ?_
  refine r_val (v := 0) (by decide) ?_
  refine lv_ishr hx hb dX12_feed_93 ?_
  refine lv_sipush (v := 255) hx hb dX12_feed_94 (by decide) ?_
  refine lv_iand hx hb dX12_feed_97 ?_
  refine g_iast F w (a := 150) rfl (j := 19) ⟨by decide, by decide⟩ (by decide) dX12_feed_98 (fun H locs w => ?_)
  refine lv_aload_n hx hb dX12_feed_99 rfl (lv_at hl 2 rfl) ?_
  refine lv_dup hx hb dX12_feed_100 rfl ?_
  refine f_12_8 F w (a := 146) rfl tb_146 dX12_feed_101 ?_
  refine r_val (v := 19) ((st_ne (by decide)).trans st_at) ?_
  refine lv_iconst (v := 1) hx hb dX12_feed_104 (by decide) ?_
  refine lv_iadd hx hb dX12_feed_105 ?_
  refine r_val (v := 20) (by decide) ?_
  refine u_12_8 F w (a := 146) rfl tb_146 dX12_feed_106 (fun H locs w => ?_)
  refine lv_iinc (v := 20) (lv' := [(6, .int 20), (7, .int p5), (0, .ref (B + 146)), (1, .int p1), (2, .int p2), (3, .int p3), (4, .int p4), (5, .int p5)]) hx hb dX12_feed_109 hl (k := 1) rfl (by decide) (by decide) rfl (fun ls hl => ?_)
  refine lv_goto (tgt := 18) hx hb dX12_feed_112 (by decide) ?_
  refine lv_iload hx hb dX12_feed_18 (lv_at hl 0 rfl) ?_
  refine lv_bipush (v := 20) hx hb dX12_feed_20 (by decide) ?_
  refine lv_icmp_ge (tgt := 115) hx hb dX12_feed_22 (by decide) (fun _ => ?_) (fun c1 => absurd c1 (by decide))
  refine lv_aload_n hx hb dX12_feed_115 rfl (lv_at hl 2 rfl) ?_
  refine f_12_8 F w (a := 146) rfl tb_146 dX12_feed_116 ?_
  refine r_val (v := 20) (st_at) ?_
  exact e_i F w hr hlocks ⟨rfl, rfl⟩ dX12_feed_119
theorem tk_X12_feed : Cond.code yX12_feed cX12_feed 8 (some .int) ∈ TB := tbm (tc5 (List.mem_of_getElem? (i := 141) rfl)) rfl
theorem gc_X12_feed : GoodIn TB (cw yX12_feed cX12_feed 8 (some .int)) := goodIn_c2 tk_X12_feed
theorem tb_147 : Cond.methodLink "ToneLinesLaw" 17 yX12_feed ∈ TB := tbm (tc5 (List.mem_of_getElem? (i := 138) rfl)) rfl
theorem tb_148 : Cond.instanceMethod yX12_feed ∈ TB := tbm (tc5 (List.mem_of_getElem? (i := 139) rfl)) rfl
theorem tb_149 : Cond.selects "ToneLinesModel" yX12_feed yX12_feed ∈ TB := tbm (tc5 (List.mem_of_getElem? (i := 140) rfl)) rfl
theorem tb_150 : Cond.initialized "ToneLinesModel" ∈ TB := tbm (tc1 (List.mem_of_getElem? (i := 13) rfl)) rfl
theorem gv_L_17 : GoodIn TB (wsV RL 17 RX12 yX12_feed (cw yX12_feed cX12_feed 8 (some .int))) := goodIn_4 tb_147 tb_148 tb_149 tb_150 gc_X12_feed
theorem hv_X12_feed : yX12_feed.cls = RX12 ∧ yX12_feed.cls ≠ "java/lang/invoke/MethodHandle" ∧ yX12_feed.cls ≠ "java/lang/invoke/VarHandle" ∧ (parseMethodDescriptor yX12_feed.desc).map (fun d => d.parameters.length) = some 5 := by decide +kernel
theorem dL_law_222 : decode cL_law 222 = .ok (.if_icmp .eq 843, 3) := by decide +kernel
set_option maxRecDepth 8000 in
theorem la_0_1 {p : Program} {l : Launch} {e : Env} {s : State} {m : MethodId} {below : List Frame} {meth : Method} {c : Code} {D : va_G} {B b : Nat} {cy : Nat → ClassId} {H : Heap} {locs : List Loc} {ls : Array Slot} {xs : Nat → Int32} {Q : State → Prop} (F : CallFix p m c code 4 s #[Value.ref b] TB RL) (hX : va_X b 6 xs s s.heap) (hbl : b < s.heap.size) (hbA : ¬ B ≤ b) (w : Wd D B cy s s.heap M0 H locs) (hl : lv_has ls 4 [(3, .int 0), (2, .ref (B + 146)), (1, .ref (B + 0)), (0, .ref b)]) (kk : ∀ (M1 : Mem) (H1 : Heap) (locs1 : List Loc), Wd D B cy s s.heap M1 H1 locs1 → W p l e room_1 s m #[Value.ref b] below meth c H1 locs1 159 13107 Q (F0 m 1065 ls [])) : W p l e room_1 s m #[Value.ref b] below meth c H locs 159 13107 Q (F0 m 164 ls []) := by
  have hx := F.1
  have hb := F.2.1
  refine lv_aload_n hx hb dL_law_164 rfl (lv_at hl 2 rfl) ?_
  refine lv_aload_n hx hb dL_law_165 rfl (lv_at hl 3 rfl) ?_
  refine lv_iload_n hx hb dL_law_166 rfl (lv_at hl 0 rfl) ?_
  refine lv_iconst (v := 1) hx hb dL_law_167 (by decide) ?_
  refine lv_iadd hx hb dL_law_168 ?_
  refine r_val (v := 1) (by decide) ?_
  refine va_sld hx hb hX hbl hbA w.2.2.1 (vpi (by decide) (by decide)) dL_law_169 ?_
  refine r_val (v := xs 1) (congrArg xs (show (1 : Int32).toNatClampNeg = 1 by decide)) ?_
  refine lv_aload_n hx hb dL_law_170 rfl (lv_at hl 3 rfl) ?_
  refine lv_iload_n hx hb dL_law_171 rfl (lv_at hl 0 rfl) ?_
  refine lv_iconst (v := 2) hx hb dL_law_172 (by decide) ?_
  refine lv_iadd hx hb dL_law_173 ?_
  refine r_val (v := 2) (by decide) ?_
  refine va_sld hx hb hX hbl hbA w.2.2.1 (vpi (by decide) (by decide)) dL_law_174 ?_
  refine r_val (v := xs 2) (congrArg xs (show (2 : Int32).toNatClampNeg = 2 by decide)) ?_
  refine lv_aload_n hx hb dL_law_175 rfl (lv_at hl 3 rfl) ?_
  refine lv_iload_n hx hb dL_law_176 rfl (lv_at hl 0 rfl) ?_
  refine lv_iconst (v := 3) hx hb dL_law_177 (by decide) ?_
  refine lv_iadd hx hb dL_law_178 ?_
  refine r_val (v := 3) (by decide) ?_
  refine va_sld hx hb hX hbl hbA w.2.2.1 (vpi (by decide) (by decide)) dL_law_179 ?_
  refine r_val (v := xs 3) (congrArg xs (show (3 : Int32).toNatClampNeg = 3 by decide)) ?_
  refine lv_aload_n hx hb dL_law_180 rfl (lv_at hl 3 rfl) ?_
  refine lv_iload_n hx hb dL_law_181 rfl (lv_at hl 0 rfl) ?_
  refine lv_iconst (v := 4) hx hb dL_law_182 (by decide) ?_
  refine lv_iadd hx hb dL_law_183 ?_
  refine r_val (v := 4) (by decide) ?_
  refine va_sld hx hb hX hbl hbA w.2.2.1 (vpi (by decide) (by decide)) dL_law_184 ?_
  refine r_val (v := xs 4) (congrArg xs (show (4 : Int32).toNatClampNeg = 4 by decide)) ?_
  refine lv_aload_n hx hb dL_law_185 rfl (lv_at hl 3 rfl) ?_
  refine lv_iload_n hx hb dL_law_186 rfl (lv_at hl 0 rfl) ?_
  refine lv_iconst (v := 5) hx hb dL_law_187 (by decide) ?_
  refine lv_iadd hx hb dL_law_188 ?_
  refine r_val (v := 5) (by decide) ?_
  refine va_sld hx hb hX hbl hbA w.2.2.1 (vpi (by decide) (by decide)) dL_law_189 ?_
  refine r_val (v := xs 5) (congrArg xs (show (5 : Int32).toNatClampNeg = 5 by decide)) ?_
  refine x_Vi F w (As := [.int (xs 1), .int (xs 2), .int (xs 3), .int (xs 4), .int (xs 5)]) (rest := []) (a := 0) (by decide) (sh_11 rfl _ _) rfl (c_X11_feed_63 (rfl)) gv_L_13 hv_X11_feed ⟨Nat.le_of_ble_eq_true rfl, Nat.le_of_ble_eq_true rfl⟩ hl.1 rfl (Nat.le_of_ble_eq_true rfl) ⟨Nat.le_of_ble_eq_true rfl, Nat.le_of_ble_eq_true rfl⟩ dL_law_190 (fun H locs w => ?_)
  refine lv_aload_n hx hb dL_law_193 rfl (lv_at hl 1 rfl) ?_
  refine lv_aload_n hx hb dL_law_194 rfl (lv_at hl 3 rfl) ?_
  refine lv_iload_n hx hb dL_law_195 rfl (lv_at hl 0 rfl) ?_
  refine lv_iconst (v := 1) hx hb dL_law_196 (by decide) ?_
  refine lv_iadd hx hb dL_law_197 ?_
  refine r_val (v := 1) (by decide) ?_
  refine va_sld hx hb hX hbl hbA w.2.2.1 (vpi (by decide) (by decide)) dL_law_198 ?_
  refine r_val (v := xs 1) (congrArg xs (show (1 : Int32).toNatClampNeg = 1 by decide)) ?_
  refine lv_aload_n hx hb dL_law_199 rfl (lv_at hl 3 rfl) ?_
  refine lv_iload_n hx hb dL_law_200 rfl (lv_at hl 0 rfl) ?_
  refine lv_iconst (v := 2) hx hb dL_law_201 (by decide) ?_
  refine lv_iadd hx hb dL_law_202 ?_
  refine r_val (v := 2) (by decide) ?_
  refine va_sld hx hb hX hbl hbA w.2.2.1 (vpi (by decide) (by decide)) dL_law_203 ?_
  refine r_val (v := xs 2) (congrArg xs (show (2 : Int32).toNatClampNeg = 2 by decide)) ?_
  refine lv_aload_n hx hb dL_law_204 rfl (lv_at hl 3 rfl) ?_
  refine lv_iload_n hx hb dL_law_205 rfl (lv_at hl 0 rfl) ?_
  refine lv_iconst (v := 3) hx hb dL_law_206 (by decide) ?_
  refine lv_iadd hx hb dL_law_207 ?_
  refine r_val (v := 3) (by decide) ?_
  refine va_sld hx hb hX hbl hbA w.2.2.1 (vpi (by decide) (by decide)) dL_law_208 ?_
  refine r_val (v := xs 3) (congrArg xs (show (3 : Int32).toNatClampNeg = 3 by decide)) ?_
  refine lv_aload_n hx hb dL_law_209 rfl (lv_at hl 3 rfl) ?_
  refine lv_iload_n hx hb dL_law_210 rfl (lv_at hl 0 rfl) ?_
  refine lv_iconst (v := 4) hx hb dL_law_211 (by decide) ?_
  refine lv_iadd hx hb dL_law_212 ?_
  refine r_val (v := 4) (by decide) ?_
  refine va_sld hx hb hX hbl hbA w.2.2.1 (vpi (by decide) (by decide)) dL_law_213 ?_
  refine r_val (v := xs 4) (congrArg xs (show (4 : Int32).toNatClampNeg = 4 by decide)) ?_
  refine lv_aload_n hx hb dL_law_214 rfl (lv_at hl 3 rfl) ?_
  refine lv_iload_n hx hb dL_law_215 rfl (lv_at hl 0 rfl) ?_
  refine lv_iconst (v := 5) hx hb dL_law_216 (by decide) ?_
  refine lv_iadd hx hb dL_law_217 ?_
  refine r_val (v := 5) (by decide) ?_
  refine va_sld hx hb hX hbl hbA w.2.2.1 (vpi (by decide) (by decide)) dL_law_218 ?_
  refine r_val (v := xs 5) (congrArg xs (show (5 : Int32).toNatClampNeg = 5 by decide)) ?_
  refine x_Vi F w (As := [.int (xs 1), .int (xs 2), .int (xs 3), .int (xs 4), .int (xs 5)]) (rest := [.int 20]) (a := 146) (by decide) (sh_12 rfl _ _) rfl (c_X12_feed_64 ((st_ne (by decide)).trans ((st_ne (by decide)).trans ((st_ne (by decide)).trans ((st_ne (by decide)).trans ((st_ne (by decide)).trans ((st_ne (by decide)).trans ((st_ne (by decide)).trans ((st_ne (by decide)).trans ((st_ne (by decide)).trans ((st_ne (by decide)).trans ((st_ne (by decide)).trans ((st_ne (by decide)).trans ((st_ne (by decide)).trans ((st_ne (by decide)).trans ((st_ne (by decide)).trans ((st_ne (by decide)).trans ((st_ne (by decide)).trans ((st_ne (by decide)).trans ((st_ne (by decide)).trans ((st_ne (by decide)).trans ((st_ne (by decide)).trans ((st_ne (by decide)).trans ((st_ne (by decide)).trans ((st_ne (by decide)).trans ((st_ne (by decide)).trans ((st_ne (by decide)).trans ((st_ne (by decide)).trans ((st_ne (by decide)).trans ((st_ne (by decide)).trans ((st_ne (by decide)).trans ((st_ne (by decide)).trans ((st_ne (by decide)).trans ((st_ne (by decide)).trans ((st_ne (by decide)).trans ((st_ne (by decide)).trans ((st_ne (by decide)).trans ((st_ne (by decide)).trans ((st_ne (by decide)).trans ((st_ne (by decide)).trans ((st_ne (by decide)).trans rfl))))))))))))))))))))))))))))))))))))))))) gv_L_17 hv_X12_feed ⟨Nat.le_of_ble_eq_true rfl, Nat.le_of_ble_eq_true rfl⟩ hl.1 rfl (Nat.le_of_ble_eq_true rfl) ⟨Nat.le_of_ble_eq_true rfl, Nat.le_of_ble_eq_true rfl⟩ dL_law_219 (fun H locs w => ?_)
  refine lv_icmp_eq (tgt := 1065) hx hb dL_law_222 (by decide) (fun _ => ?_) (fun c1 => absurd c1 (by decide))
  exact kk _ _ _ w
set_option maxRecDepth 8000 in
theorem lc_0 {p : Program} {l : Launch} {e : Env} {s : State} {m : MethodId} {below : List Frame} {meth : Method} {c : Code} {D : va_G} {B b : Nat} {cy : Nat → ClassId} {H : Heap} {locs : List Loc} {ls : Array Slot} {xs : Nat → Int32} {Q : State → Prop} (F : CallFix p m c code 4 s #[Value.ref b] TB RL) (hX : va_X b 6 xs s s.heap) (hbl : b < s.heap.size) (hbA : ¬ B ≤ b) (w : Wd D B cy s s.heap M0 H locs) (hl : lv_has ls 4 [(3, .int 0), (2, .ref (B + 146)), (1, .ref (B + 0)), (0, .ref b)]) (kk : ∀ (M1 : Mem) (H1 : Heap) (locs1 : List Loc), Wd D B cy s s.heap M1 H1 locs1 → W p l e room_1 s m #[Value.ref b] below meth c H1 locs1 159 13107 Q (F0 m 1065 ls [])) : W p l e room_1 s m #[Value.ref b] below meth c H locs 159 13107 Q (F0 m 164 ls []) := by
  exact la_0_1 F hX hbl hbA w hl  kk
theorem dL_law_227 : decode cL_law 227 = .ok (.aload_n 1, 1) := by decide +kernel
theorem dL_law_228 : decode cL_law 228 = .ok (.aload_n 0, 1) := by decide +kernel
theorem dL_law_229 : decode cL_law 229 = .ok (.iload_n 3, 1) := by decide +kernel
theorem dL_law_230 : decode cL_law 230 = .ok (.iconst 1, 1) := by decide +kernel
theorem dL_law_231 : decode cL_law 231 = .ok (.iadd, 1) := by decide +kernel
theorem dL_law_232 : decode cL_law 232 = .ok (.iaload, 1) := by decide +kernel
theorem dL_law_233 : decode cL_law 233 = .ok (.invokevirtual 18, 3) := by decide +kernel
theorem dX11_back_0 : decode cX11_back 0 = .ok (.iload_n 1, 1) := by decide +kernel
theorem dX11_back_1 : decode cX11_back 1 = .ok (.ifCond .lt 14, 3) := by decide +kernel
theorem dX11_back_15 : decode cX11_back 15 = .ok (.iconst (-1), 1) := by decide +kernel
theorem dX11_back_16 : decode cX11_back 16 = .ok (.ireturn, 1) := by decide +kernel
set_option maxRecDepth 4000 in
theorem c_X11_back_65 {l : Launch} {D : va_G} {B : Nat} {cy : Nat → ClassId} {M : Mem} {p1 : Int32} (h0 : p1 < 0) : Ci l D B cy yX11_back cX11_back 2 (some .int) 0 0 [.ref (B + 0), .int p1] M (fun r M1 => r = (-1) ∧ M1 = M) := by
  refine s_any (by decide) (Nat.le_of_ble_eq_true rfl) ?_
  intro p e s m below meth c ls F hr hlocks w hl
  have F : CallFix p m c cX11_back 2 s _ TB RX11 := F
  have hx := F.1
  have hb := F.2.1
  have hl : lv_has ls 2 [(0, .ref (B + 0)), (1, .int p1)] := hl
  refine lv_iload_n hx hb dX11_back_0 rfl (lv_at hl 1 rfl) ?_
  refine lv_if_lt (tgt := 15) hx hb dX11_back_1 (by decide) (fun _ => ?_) (fun c1 => absurd h0 c1)
  refine lv_iconst (v := (-1)) hx hb dX11_back_15 (by decide) ?_
  exact e_i F w hr hlocks ⟨rfl, rfl⟩ dX11_back_16
theorem tk_X11_back : Cond.code yX11_back cX11_back 2 (some .int) ∈ TB := tbm (tc2 (List.mem_of_getElem? (i := 99) rfl)) rfl
theorem gc_X11_back : GoodIn TB (cw yX11_back cX11_back 2 (some .int)) := goodIn_c2 tk_X11_back
theorem tb_151 : Cond.methodLink "ToneLinesLaw" 18 yX11_back ∈ TB := tbm (tc2 (List.mem_of_getElem? (i := 96) rfl)) rfl
theorem tb_152 : Cond.instanceMethod yX11_back ∈ TB := tbm (tc2 (List.mem_of_getElem? (i := 97) rfl)) rfl
theorem tb_153 : Cond.selects "ToneLines" yX11_back yX11_back ∈ TB := tbm (tc2 (List.mem_of_getElem? (i := 98) rfl)) rfl
theorem gv_L_18 : GoodIn TB (wsV RL 18 RX11 yX11_back (cw yX11_back cX11_back 2 (some .int))) := goodIn_4 tb_151 tb_152 tb_153 tb_145 gc_X11_back
theorem hv_X11_back : yX11_back.cls = RX11 ∧ yX11_back.cls ≠ "java/lang/invoke/MethodHandle" ∧ yX11_back.cls ≠ "java/lang/invoke/VarHandle" ∧ (parseMethodDescriptor yX11_back.desc).map (fun d => d.parameters.length) = some 1 := by decide +kernel
theorem dL_law_236 : decode cL_law 236 = .ok (.aload_n 2, 1) := by decide +kernel
theorem dL_law_237 : decode cL_law 237 = .ok (.aload_n 0, 1) := by decide +kernel
theorem dL_law_238 : decode cL_law 238 = .ok (.iload_n 3, 1) := by decide +kernel
theorem dL_law_239 : decode cL_law 239 = .ok (.iconst 1, 1) := by decide +kernel
theorem dL_law_240 : decode cL_law 240 = .ok (.iadd, 1) := by decide +kernel
theorem dL_law_241 : decode cL_law 241 = .ok (.iaload, 1) := by decide +kernel
theorem dL_law_242 : decode cL_law 242 = .ok (.invokevirtual 22, 3) := by decide +kernel
theorem dX12_back_0 : decode cX12_back 0 = .ok (.iload_n 1, 1) := by decide +kernel
theorem dX12_back_1 : decode cX12_back 1 = .ok (.iconst 0, 1) := by decide +kernel
theorem dX12_back_2 : decode cX12_back 2 = .ok (.aload_n 0, 1) := by decide +kernel
theorem dX12_back_3 : decode cX12_back 3 = .ok (.getfield 169, 3) := by decide +kernel
theorem dX12_back_6 : decode cX12_back 6 = .ok (.invokestatic 55, 3) := by decide +kernel
theorem dX12_in_0 : decode cX12_in 0 = .ok (.iload_n 0, 1) := by decide +kernel
theorem dX12_in_1 : decode cX12_in 1 = .ok (.iload_n 1, 1) := by decide +kernel
theorem dX12_in_2 : decode cX12_in 2 = .ok (.if_icmp .lt 12, 3) := by decide +kernel
theorem dX12_in_14 : decode cX12_in 14 = .ok (.iconst 0, 1) := by decide +kernel
theorem dX12_in_15 : decode cX12_in 15 = .ok (.ireturn, 1) := by decide +kernel
set_option maxRecDepth 4000 in
theorem c_X12_in_66 {l : Launch} {D : va_G} {B : Nat} {cy : Nat → ClassId} {M : Mem} {p0 : Int32} (h0 : p0 < 0) : Ci l D B cy yX12_in cX12_in 3 (some .boolean) 0 0 [.int p0, .int 0, .int 0] M (fun r M1 => r = 0 ∧ M1 = M) := by
  refine s_any (by decide) (Nat.le_of_ble_eq_true rfl) ?_
  intro p e s m below meth c ls F hr hlocks w hl
  have F : CallFix p m c cX12_in 3 s _ TB RX12 := F
  have hx := F.1
  have hb := F.2.1
  have hl : lv_has ls 3 [(0, .int p0), (1, .int 0), (2, .int 0)] := hl
  refine lv_iload_n hx hb dX12_in_0 rfl (lv_at hl 0 rfl) ?_
  refine lv_iload_n hx hb dX12_in_1 rfl (lv_at hl 1 rfl) ?_
  refine lv_icmp_lt (tgt := 14) hx hb dX12_in_2 (by decide) (fun _ => ?_) (fun c1 => absurd h0 c1)
  refine lv_iconst (v := 0) hx hb dX12_in_14 (by decide) ?_
  exact e_z F w hr hlocks (by decide) ⟨rfl, rfl⟩ dX12_in_15
theorem tk_X12_in : Cond.code yX12_in cX12_in 3 (some .boolean) ∈ TB := tbm (tc5 (List.mem_of_getElem? (i := 148) rfl)) rfl
theorem gc_X12_in : GoodIn TB (cw yX12_in cX12_in 3 (some .boolean)) := goodIn_c2 tk_X12_in
theorem tb_154 : Cond.methodLink "ToneLinesModel" 55 yX12_in ∈ TB := tbm (tc5 (List.mem_of_getElem? (i := 146) rfl)) rfl
theorem tb_155 : Cond.static yX12_in ∈ TB := tbm (tc5 (List.mem_of_getElem? (i := 147) rfl)) rfl
theorem gs_X12_55 : GoodIn TB (va_wsS RX12 55 yX12_in (cw yX12_in cX12_in 3 (some .boolean))) := goodIn_3 tb_154 tb_155 tb_150 gc_X12_in
theorem hs_X12_in : yX12_in.cls ≠ "java/lang/invoke/MethodHandle" ∧ yX12_in.cls ≠ "java/lang/invoke/VarHandle" ∧ (parseMethodDescriptor yX12_in.desc).map (fun d => d.parameters.length) = some 3 := by decide +kernel
theorem dX12_back_9 : decode cX12_back 9 = .ok (.ifCond .ne 5, 3) := by decide +kernel
theorem dX12_back_12 : decode cX12_back 12 = .ok (.iconst (-1), 1) := by decide +kernel
theorem dX12_back_13 : decode cX12_back 13 = .ok (.ireturn, 1) := by decide +kernel
set_option maxRecDepth 4000 in
theorem c_X12_back_67 {l : Launch} {D : va_G} {B : Nat} {cy : Nat → ClassId} {M : Mem} {p1 : Int32} (h0 : M.1 146 8 = 0) (h1 : p1 < 0) : Ci l D B cy yX12_back cX12_back 2 (some .int) 1 22 [.ref (B + 146), .int p1] M (fun r M1 => r = (-1) ∧ M1 = M) := by
  refine s_any (by decide) (Nat.le_of_ble_eq_true rfl) ?_
  intro p e s m below meth c ls F hr hlocks w hl
  have F : CallFix p m c cX12_back 2 s _ TB RX12 := F
  have hx := F.1
  have hb := F.2.1
  have hl : lv_has ls 2 [(0, .ref (B + 146)), (1, .int p1)] := hl
  refine lv_iload_n hx hb dX12_back_0 rfl (lv_at hl 1 rfl) ?_
  refine lv_iconst (v := 0) hx hb dX12_back_1 (by decide) ?_
  refine lv_aload_n hx hb dX12_back_2 rfl (lv_at hl 0 rfl) ?_
  refine f_12_8 F w (a := 146) rfl tb_146 dX12_back_3 ?_
  refine r_val (v := 0) (h0) ?_
  refine x_Si F w (As := [.int p1, .int 0, .int 0]) (rest := []) (c_X12_in_66 h1) gs_X12_55 hs_X12_in ⟨Nat.le_of_ble_eq_true rfl, Nat.le_of_ble_eq_true rfl⟩ hl.1 rfl (Nat.le_of_ble_eq_true rfl) ⟨Nat.zero_le _, Nat.zero_le _⟩ dX12_back_6 (fun H locs w => ?_)
  refine lv_if_ne (tgt := 14) hx hb dX12_back_9 (by decide) (fun c1 => absurd c1 (by decide)) (fun _ => ?_)
  refine lv_iconst (v := (-1)) hx hb dX12_back_12 (by decide) ?_
  exact e_i F w hr hlocks ⟨rfl, rfl⟩ dX12_back_13
theorem tk_X12_back : Cond.code yX12_back cX12_back 2 (some .int) ∈ TB := tbm (tc5 (List.mem_of_getElem? (i := 145) rfl)) rfl
theorem gc_X12_back : GoodIn TB (cw yX12_back cX12_back 2 (some .int)) := goodIn_c2 tk_X12_back
theorem tb_156 : Cond.methodLink "ToneLinesLaw" 22 yX12_back ∈ TB := tbm (tc5 (List.mem_of_getElem? (i := 142) rfl)) rfl
theorem tb_157 : Cond.instanceMethod yX12_back ∈ TB := tbm (tc5 (List.mem_of_getElem? (i := 143) rfl)) rfl
theorem tb_158 : Cond.selects "ToneLinesModel" yX12_back yX12_back ∈ TB := tbm (tc5 (List.mem_of_getElem? (i := 144) rfl)) rfl
theorem gv_L_22 : GoodIn TB (wsV RL 22 RX12 yX12_back (cw yX12_back cX12_back 2 (some .int))) := goodIn_4 tb_156 tb_157 tb_158 tb_150 gc_X12_back
theorem hv_X12_back : yX12_back.cls = RX12 ∧ yX12_back.cls ≠ "java/lang/invoke/MethodHandle" ∧ yX12_back.cls ≠ "java/lang/invoke/VarHandle" ∧ (parseMethodDescriptor yX12_back.desc).map (fun d => d.parameters.length) = some 1 := by decide +kernel
theorem dL_law_245 : decode cL_law 245 = .ok (.if_icmp .eq 820, 3) := by decide +kernel
set_option maxRecDepth 8000 in
theorem la_1_2 {p : Program} {l : Launch} {e : Env} {s : State} {m : MethodId} {below : List Frame} {meth : Method} {c : Code} {D : va_G} {B b : Nat} {cy : Nat → ClassId} {H : Heap} {locs : List Loc} {ls : Array Slot} {xs : Nat → Int32} {Q : State → Prop} (F : CallFix p m c code 4 s #[Value.ref b] TB RL) (hX : va_X b 6 xs s s.heap) (hbl : b < s.heap.size) (hbA : ¬ B ≤ b) (w : Wd D B cy s s.heap M0 H locs) (hl : lv_has ls 4 [(3, .int 0), (2, .ref (B + 146)), (1, .ref (B + 0)), (0, .ref b)]) (h0 : (xs 1) < 0) (kk : ∀ (M1 : Mem) (H1 : Heap) (locs1 : List Loc), Wd D B cy s s.heap M1 H1 locs1 → W p l e room_1 s m #[Value.ref b] below meth c H1 locs1 159 13107 Q (F0 m 1065 ls [])) : W p l e room_1 s m #[Value.ref b] below meth c H locs 159 13107 Q (F0 m 227 ls []) := by
  have hx := F.1
  have hb := F.2.1
  refine lv_aload_n hx hb dL_law_227 rfl (lv_at hl 2 rfl) ?_
  refine lv_aload_n hx hb dL_law_228 rfl (lv_at hl 3 rfl) ?_
  refine lv_iload_n hx hb dL_law_229 rfl (lv_at hl 0 rfl) ?_
  refine lv_iconst (v := 1) hx hb dL_law_230 (by decide) ?_
  refine lv_iadd hx hb dL_law_231 ?_
  refine r_val (v := 1) (by decide) ?_
  refine va_sld hx hb hX hbl hbA w.2.2.1 (vpi (by decide) (by decide)) dL_law_232 ?_
  refine r_val (v := xs 1) (congrArg xs (show (1 : Int32).toNatClampNeg = 1 by decide)) ?_
  refine x_Vi F w (As := [.int (xs 1)]) (rest := []) (a := 0) (by decide) (sh_11 rfl _ _) rfl (c_X11_back_65 h0) gv_L_18 hv_X11_back ⟨Nat.le_of_ble_eq_true rfl, Nat.le_of_ble_eq_true rfl⟩ hl.1 rfl (Nat.le_of_ble_eq_true rfl) ⟨Nat.le_of_ble_eq_true rfl, Nat.le_of_ble_eq_true rfl⟩ dL_law_233 (fun H locs w => ?_)
  refine lv_aload_n hx hb dL_law_236 rfl (lv_at hl 1 rfl) ?_
  refine lv_aload_n hx hb dL_law_237 rfl (lv_at hl 3 rfl) ?_
  refine lv_iload_n hx hb dL_law_238 rfl (lv_at hl 0 rfl) ?_
  refine lv_iconst (v := 1) hx hb dL_law_239 (by decide) ?_
  refine lv_iadd hx hb dL_law_240 ?_
  refine r_val (v := 1) (by decide) ?_
  refine va_sld hx hb hX hbl hbA w.2.2.1 (vpi (by decide) (by decide)) dL_law_241 ?_
  refine r_val (v := xs 1) (congrArg xs (show (1 : Int32).toNatClampNeg = 1 by decide)) ?_
  refine x_Vi F w (As := [.int (xs 1)]) (rest := [.int (-1)]) (a := 146) (by decide) (sh_12 rfl _ _) rfl (c_X12_back_67 (rfl) h0) gv_L_22 hv_X12_back ⟨Nat.le_of_ble_eq_true rfl, Nat.le_of_ble_eq_true rfl⟩ hl.1 rfl (Nat.le_of_ble_eq_true rfl) ⟨Nat.le_of_ble_eq_true rfl, Nat.le_of_ble_eq_true rfl⟩ dL_law_242 (fun H locs w => ?_)
  refine lv_icmp_eq (tgt := 1065) hx hb dL_law_245 (by decide) (fun _ => ?_) (fun c1 => absurd c1 (by decide))
  exact kk _ _ _ w
theorem dX11_back_4 : decode cX11_back 4 = .ok (.iload_n 1, 1) := by decide +kernel
theorem dX11_back_5 : decode cX11_back 5 = .ok (.aload_n 0, 1) := by decide +kernel
theorem dX11_back_6 : decode cX11_back 6 = .ok (.getfield 12, 3) := by decide +kernel
theorem dX11_back_9 : decode cX11_back 9 = .ok (.getfield 78, 3) := by decide +kernel
theorem dX11_back_12 : decode cX11_back 12 = .ok (.if_icmp .le 5, 3) := by decide +kernel
theorem dX11_back_17 : decode cX11_back 17 = .ok (.aload_n 0, 1) := by decide +kernel
theorem dX11_back_18 : decode cX11_back 18 = .ok (.getfield 12, 3) := by decide +kernel
theorem dX11_back_21 : decode cX11_back 21 = .ok (.dup, 1) := by decide +kernel
theorem dX11_back_22 : decode cX11_back 22 = .ok (.getfield 78, 3) := by decide +kernel
theorem dX11_back_25 : decode cX11_back 25 = .ok (.iload_n 1, 1) := by decide +kernel
theorem dX11_back_26 : decode cX11_back 26 = .ok (.isub, 1) := by decide +kernel
theorem dX11_back_27 : decode cX11_back 27 = .ok (.putfield 78, 3) := by decide +kernel
theorem dX11_back_30 : decode cX11_back 30 = .ok (.aload_n 0, 1) := by decide +kernel
theorem dX11_back_31 : decode cX11_back 31 = .ok (.getfield 12, 3) := by decide +kernel
theorem dX11_back_34 : decode cX11_back 34 = .ok (.getfield 78, 3) := by decide +kernel
theorem dX11_back_37 : decode cX11_back 37 = .ok (.ireturn, 1) := by decide +kernel
set_option maxRecDepth 4000 in
theorem c_X11_back_68 {l : Launch} {D : va_G} {B : Nat} {cy : Nat → ClassId} {M : Mem} (h0 : M.1 1 1 = 0) : Ci l D B cy yX11_back cX11_back 2 (some .int) 0 0 [.ref (B + 0), .int 0] M (fun r M1 => r = 0 ∧ M1 = M) := by
  refine s_any (by decide) (Nat.le_of_ble_eq_true rfl) ?_
  intro p e s m below meth c ls F hr hlocks w hl
  have F : CallFix p m c cX11_back 2 s _ TB RX11 := F
  have hx := F.1
  have hb := F.2.1
  have hl : lv_has ls 2 [(0, .ref (B + 0)), (1, .int 0)] := hl
  refine lv_iload_n hx hb dX11_back_0 rfl (lv_at hl 1 rfl) ?_
  refine lv_if_lt (tgt := 15) hx hb dX11_back_1 (by decide) (fun c1 => absurd c1 (by decide)) (fun _ => ?_)
  refine lv_iload_n hx hb dX11_back_4 rfl (lv_at hl 1 rfl) ?_
  refine lv_aload_n hx hb dX11_back_5 rfl (lv_at hl 0 rfl) ?_
  refine f_11_0 F w (a := 0) rfl tb_11 dX11_back_6 ?_
  refine f_8_1 F w (a := 1) rfl tb_138 dX11_back_9 ?_
  refine r_val (v := 0) (h0) ?_
  refine lv_icmp_le (tgt := 17) hx hb dX11_back_12 (by decide) (fun _ => ?_) (fun c1 => absurd c1 (by decide))
  refine lv_aload_n hx hb dX11_back_17 rfl (lv_at hl 0 rfl) ?_
  refine f_11_0 F w (a := 0) rfl tb_11 dX11_back_18 ?_
  refine lv_dup hx hb dX11_back_21 rfl ?_
  refine f_8_1 F w (a := 1) rfl tb_138 dX11_back_22 ?_
  refine r_val (v := 0) (h0) ?_
  refine lv_iload_n hx hb dX11_back_25 rfl (lv_at hl 1 rfl) ?_
  refine lv_isub hx hb dX11_back_26 ?_
  refine r_val (v := 0) (by decide) ?_
  refine u_8_1 F w (a := 1) rfl tb_138 dX11_back_27 (fun H locs w => ?_)
  rw [st_same (h0)] at w
  refine lv_aload_n hx hb dX11_back_30 rfl (lv_at hl 0 rfl) ?_
  refine f_11_0 F w (a := 0) rfl tb_11 dX11_back_31 ?_
  refine f_8_1 F w (a := 1) rfl tb_138 dX11_back_34 ?_
  refine r_val (v := 0) (h0) ?_
  exact e_i F w hr hlocks ⟨rfl, rfl⟩ dX11_back_37
theorem dX12_in_5 : decode cX12_in 5 = .ok (.iload_n 0, 1) := by decide +kernel
theorem dX12_in_6 : decode cX12_in 6 = .ok (.iload_n 2, 1) := by decide +kernel
theorem dX12_in_7 : decode cX12_in 7 = .ok (.if_icmp .gt 7, 3) := by decide +kernel
theorem dX12_in_10 : decode cX12_in 10 = .ok (.iconst 1, 1) := by decide +kernel
theorem dX12_in_11 : decode cX12_in 11 = .ok (.goto 4, 3) := by decide +kernel
set_option maxRecDepth 4000 in
theorem c_X12_in_69 {l : Launch} {D : va_G} {B : Nat} {cy : Nat → ClassId} {M : Mem} : Ci l D B cy yX12_in cX12_in 3 (some .boolean) 0 0 [.int 0, .int 0, .int 0] M (fun r M1 => r = 1 ∧ M1 = M) := by
  refine s_any (by decide) (Nat.le_of_ble_eq_true rfl) ?_
  intro p e s m below meth c ls F hr hlocks w hl
  have F : CallFix p m c cX12_in 3 s _ TB RX12 := F
  have hx := F.1
  have hb := F.2.1
  have hl : lv_has ls 3 [(0, .int 0), (1, .int 0), (2, .int 0)] := hl
  refine lv_iload_n hx hb dX12_in_0 rfl (lv_at hl 0 rfl) ?_
  refine lv_iload_n hx hb dX12_in_1 rfl (lv_at hl 1 rfl) ?_
  refine lv_icmp_lt (tgt := 14) hx hb dX12_in_2 (by decide) (fun c1 => absurd c1 (by decide)) (fun _ => ?_)
  refine lv_iload_n hx hb dX12_in_5 rfl (lv_at hl 0 rfl) ?_
  refine lv_iload_n hx hb dX12_in_6 rfl (lv_at hl 2 rfl) ?_
  refine lv_icmp_gt (tgt := 14) hx hb dX12_in_7 (by decide) (fun c1 => absurd c1 (by decide)) (fun _ => ?_)
  refine lv_iconst (v := 1) hx hb dX12_in_10 (by decide) ?_
  refine lv_goto (tgt := 15) hx hb dX12_in_11 (by decide) ?_
  exact e_z F w hr hlocks (by decide) ⟨rfl, rfl⟩ dX12_in_15
theorem dX12_back_14 : decode cX12_back 14 = .ok (.aload_n 0, 1) := by decide +kernel
theorem dX12_back_15 : decode cX12_back 15 = .ok (.dup, 1) := by decide +kernel
theorem dX12_back_16 : decode cX12_back 16 = .ok (.getfield 169, 3) := by decide +kernel
theorem dX12_back_19 : decode cX12_back 19 = .ok (.iload_n 1, 1) := by decide +kernel
theorem dX12_back_20 : decode cX12_back 20 = .ok (.isub, 1) := by decide +kernel
theorem dX12_back_21 : decode cX12_back 21 = .ok (.putfield 169, 3) := by decide +kernel
theorem dX12_back_24 : decode cX12_back 24 = .ok (.aload_n 0, 1) := by decide +kernel
theorem dX12_back_25 : decode cX12_back 25 = .ok (.getfield 169, 3) := by decide +kernel
theorem dX12_back_28 : decode cX12_back 28 = .ok (.ireturn, 1) := by decide +kernel
set_option maxRecDepth 4000 in
theorem c_X12_back_70 {l : Launch} {D : va_G} {B : Nat} {cy : Nat → ClassId} {M : Mem} (h0 : M.1 146 8 = 0) : Ci l D B cy yX12_back cX12_back 2 (some .int) 1 22 [.ref (B + 146), .int 0] M (fun r M1 => r = 0 ∧ M1 = M) := by
  refine s_any (by decide) (Nat.le_of_ble_eq_true rfl) ?_
  intro p e s m below meth c ls F hr hlocks w hl
  have F : CallFix p m c cX12_back 2 s _ TB RX12 := F
  have hx := F.1
  have hb := F.2.1
  have hl : lv_has ls 2 [(0, .ref (B + 146)), (1, .int 0)] := hl
  refine lv_iload_n hx hb dX12_back_0 rfl (lv_at hl 1 rfl) ?_
  refine lv_iconst (v := 0) hx hb dX12_back_1 (by decide) ?_
  refine lv_aload_n hx hb dX12_back_2 rfl (lv_at hl 0 rfl) ?_
  refine f_12_8 F w (a := 146) rfl tb_146 dX12_back_3 ?_
  refine r_val (v := 0) (h0) ?_
  refine x_Si F w (As := [.int 0, .int 0, .int 0]) (rest := []) (c_X12_in_69) gs_X12_55 hs_X12_in ⟨Nat.le_of_ble_eq_true rfl, Nat.le_of_ble_eq_true rfl⟩ hl.1 rfl (Nat.le_of_ble_eq_true rfl) ⟨Nat.zero_le _, Nat.zero_le _⟩ dX12_back_6 (fun H locs w => ?_)
  refine lv_if_ne (tgt := 14) hx hb dX12_back_9 (by decide) (fun _ => ?_) (fun c1 => absurd c1 (by decide))
  refine lv_aload_n hx hb dX12_back_14 rfl (lv_at hl 0 rfl) ?_
  refine lv_dup hx hb dX12_back_15 rfl ?_
  refine f_12_8 F w (a := 146) rfl tb_146 dX12_back_16 ?_
  refine r_val (v := 0) (h0) ?_
  refine lv_iload_n hx hb dX12_back_19 rfl (lv_at hl 1 rfl) ?_
  refine lv_isub hx hb dX12_back_20 ?_
  refine r_val (v := 0) (by decide) ?_
  refine u_12_8 F w (a := 146) rfl tb_146 dX12_back_21 (fun H locs w => ?_)
  rw [st_same (h0)] at w
  refine lv_aload_n hx hb dX12_back_24 rfl (lv_at hl 0 rfl) ?_
  refine f_12_8 F w (a := 146) rfl tb_146 dX12_back_25 ?_
  refine r_val (v := 0) (h0) ?_
  exact e_i F w hr hlocks ⟨rfl, rfl⟩ dX12_back_28
set_option maxRecDepth 8000 in
theorem la_1_3 {p : Program} {l : Launch} {e : Env} {s : State} {m : MethodId} {below : List Frame} {meth : Method} {c : Code} {D : va_G} {B b : Nat} {cy : Nat → ClassId} {H : Heap} {locs : List Loc} {ls : Array Slot} {xs : Nat → Int32} {Q : State → Prop} (F : CallFix p m c code 4 s #[Value.ref b] TB RL) (hX : va_X b 6 xs s s.heap) (hbl : b < s.heap.size) (hbA : ¬ B ≤ b) (w : Wd D B cy s s.heap M0 H locs) (hl : lv_has ls 4 [(3, .int 0), (2, .ref (B + 146)), (1, .ref (B + 0)), (0, .ref b)]) (x1 : xs 1 = 0) (kk : ∀ (M1 : Mem) (H1 : Heap) (locs1 : List Loc), Wd D B cy s s.heap M1 H1 locs1 → W p l e room_1 s m #[Value.ref b] below meth c H1 locs1 159 13107 Q (F0 m 1065 ls [])) : W p l e room_1 s m #[Value.ref b] below meth c H locs 159 13107 Q (F0 m 227 ls []) := by
  have hx := F.1
  have hb := F.2.1
  refine lv_aload_n hx hb dL_law_227 rfl (lv_at hl 2 rfl) ?_
  refine lv_aload_n hx hb dL_law_228 rfl (lv_at hl 3 rfl) ?_
  refine lv_iload_n hx hb dL_law_229 rfl (lv_at hl 0 rfl) ?_
  refine lv_iconst (v := 1) hx hb dL_law_230 (by decide) ?_
  refine lv_iadd hx hb dL_law_231 ?_
  refine r_val (v := 1) (by decide) ?_
  refine va_sld hx hb hX hbl hbA w.2.2.1 (vpi (by decide) (by decide)) dL_law_232 ?_
  refine r_val (v := 0) ((congrArg xs (show (1 : Int32).toNatClampNeg = 1 by decide)).trans x1) ?_
  refine x_Vi F w (As := [.int 0]) (rest := []) (a := 0) (by decide) (sh_11 rfl _ _) rfl (c_X11_back_68 (rfl)) gv_L_18 hv_X11_back ⟨Nat.le_of_ble_eq_true rfl, Nat.le_of_ble_eq_true rfl⟩ hl.1 rfl (Nat.le_of_ble_eq_true rfl) ⟨Nat.le_of_ble_eq_true rfl, Nat.le_of_ble_eq_true rfl⟩ dL_law_233 (fun H locs w => ?_)
  refine lv_aload_n hx hb dL_law_236 rfl (lv_at hl 1 rfl) ?_
  refine lv_aload_n hx hb dL_law_237 rfl (lv_at hl 3 rfl) ?_
  refine lv_iload_n hx hb dL_law_238 rfl (lv_at hl 0 rfl) ?_
  refine lv_iconst (v := 1) hx hb dL_law_239 (by decide) ?_
  refine lv_iadd hx hb dL_law_240 ?_
  refine r_val (v := 1) (by decide) ?_
  refine va_sld hx hb hX hbl hbA w.2.2.1 (vpi (by decide) (by decide)) dL_law_241 ?_
  refine r_val (v := 0) ((congrArg xs (show (1 : Int32).toNatClampNeg = 1 by decide)).trans x1) ?_
  refine x_Vi F w (As := [.int 0]) (rest := [.int 0]) (a := 146) (by decide) (sh_12 rfl _ _) rfl (c_X12_back_70 (rfl)) gv_L_22 hv_X12_back ⟨Nat.le_of_ble_eq_true rfl, Nat.le_of_ble_eq_true rfl⟩ hl.1 rfl (Nat.le_of_ble_eq_true rfl) ⟨Nat.le_of_ble_eq_true rfl, Nat.le_of_ble_eq_true rfl⟩ dL_law_242 (fun H locs w => ?_)
  refine lv_icmp_eq (tgt := 1065) hx hb dL_law_245 (by decide) (fun _ => ?_) (fun c1 => absurd c1 (by decide))
  exact kk _ _ _ w
set_option maxRecDepth 4000 in
theorem c_X11_back_71 {l : Launch} {D : va_G} {B : Nat} {cy : Nat → ClassId} {M : Mem} {p1 : Int32} (h0 : ¬ p1 < 0) (h1 : M.1 1 1 = 0) (h2 : ¬ p1 ≤ 0) : Ci l D B cy yX11_back cX11_back 2 (some .int) 0 0 [.ref (B + 0), .int p1] M (fun r M1 => r = (-1) ∧ M1 = M) := by
  refine s_any (by decide) (Nat.le_of_ble_eq_true rfl) ?_
  intro p e s m below meth c ls F hr hlocks w hl
  have F : CallFix p m c cX11_back 2 s _ TB RX11 := F
  have hx := F.1
  have hb := F.2.1
  have hl : lv_has ls 2 [(0, .ref (B + 0)), (1, .int p1)] := hl
  refine lv_iload_n hx hb dX11_back_0 rfl (lv_at hl 1 rfl) ?_
  refine lv_if_lt (tgt := 15) hx hb dX11_back_1 (by decide) (fun c1 => absurd c1 h0) (fun _ => ?_)
  refine lv_iload_n hx hb dX11_back_4 rfl (lv_at hl 1 rfl) ?_
  refine lv_aload_n hx hb dX11_back_5 rfl (lv_at hl 0 rfl) ?_
  refine f_11_0 F w (a := 0) rfl tb_11 dX11_back_6 ?_
  refine f_8_1 F w (a := 1) rfl tb_138 dX11_back_9 ?_
  refine r_val (v := 0) (h1) ?_
  refine lv_icmp_le (tgt := 17) hx hb dX11_back_12 (by decide) (fun c1 => absurd c1 h2) (fun _ => ?_)
  refine lv_iconst (v := (-1)) hx hb dX11_back_15 (by decide) ?_
  exact e_i F w hr hlocks ⟨rfl, rfl⟩ dX11_back_16
set_option maxRecDepth 4000 in
theorem c_X12_in_72 {l : Launch} {D : va_G} {B : Nat} {cy : Nat → ClassId} {M : Mem} {p0 : Int32} (h0 : ¬ p0 < 0) (h1 : 0 < p0) : Ci l D B cy yX12_in cX12_in 3 (some .boolean) 0 0 [.int p0, .int 0, .int 0] M (fun r M1 => r = 0 ∧ M1 = M) := by
  refine s_any (by decide) (Nat.le_of_ble_eq_true rfl) ?_
  intro p e s m below meth c ls F hr hlocks w hl
  have F : CallFix p m c cX12_in 3 s _ TB RX12 := F
  have hx := F.1
  have hb := F.2.1
  have hl : lv_has ls 3 [(0, .int p0), (1, .int 0), (2, .int 0)] := hl
  refine lv_iload_n hx hb dX12_in_0 rfl (lv_at hl 0 rfl) ?_
  refine lv_iload_n hx hb dX12_in_1 rfl (lv_at hl 1 rfl) ?_
  refine lv_icmp_lt (tgt := 14) hx hb dX12_in_2 (by decide) (fun c1 => absurd c1 h0) (fun _ => ?_)
  refine lv_iload_n hx hb dX12_in_5 rfl (lv_at hl 0 rfl) ?_
  refine lv_iload_n hx hb dX12_in_6 rfl (lv_at hl 2 rfl) ?_
  refine lv_icmp_gt (tgt := 14) hx hb dX12_in_7 (by decide) (fun _ => ?_) (fun c1 => absurd h1 c1)
  refine lv_iconst (v := 0) hx hb dX12_in_14 (by decide) ?_
  exact e_z F w hr hlocks (by decide) ⟨rfl, rfl⟩ dX12_in_15
set_option maxRecDepth 4000 in
theorem c_X12_back_73 {l : Launch} {D : va_G} {B : Nat} {cy : Nat → ClassId} {M : Mem} {p1 : Int32} (h0 : M.1 146 8 = 0) (h1 : ¬ p1 < 0) (h2 : 0 < p1) : Ci l D B cy yX12_back cX12_back 2 (some .int) 1 22 [.ref (B + 146), .int p1] M (fun r M1 => r = (-1) ∧ M1 = M) := by
  refine s_any (by decide) (Nat.le_of_ble_eq_true rfl) ?_
  intro p e s m below meth c ls F hr hlocks w hl
  have F : CallFix p m c cX12_back 2 s _ TB RX12 := F
  have hx := F.1
  have hb := F.2.1
  have hl : lv_has ls 2 [(0, .ref (B + 146)), (1, .int p1)] := hl
  refine lv_iload_n hx hb dX12_back_0 rfl (lv_at hl 1 rfl) ?_
  refine lv_iconst (v := 0) hx hb dX12_back_1 (by decide) ?_
  refine lv_aload_n hx hb dX12_back_2 rfl (lv_at hl 0 rfl) ?_
  refine f_12_8 F w (a := 146) rfl tb_146 dX12_back_3 ?_
  refine r_val (v := 0) (h0) ?_
  refine x_Si F w (As := [.int p1, .int 0, .int 0]) (rest := []) (c_X12_in_72 h1 h2) gs_X12_55 hs_X12_in ⟨Nat.le_of_ble_eq_true rfl, Nat.le_of_ble_eq_true rfl⟩ hl.1 rfl (Nat.le_of_ble_eq_true rfl) ⟨Nat.zero_le _, Nat.zero_le _⟩ dX12_back_6 (fun H locs w => ?_)
  refine lv_if_ne (tgt := 14) hx hb dX12_back_9 (by decide) (fun c1 => absurd c1 (by decide)) (fun _ => ?_)
  refine lv_iconst (v := (-1)) hx hb dX12_back_12 (by decide) ?_
  exact e_i F w hr hlocks ⟨rfl, rfl⟩ dX12_back_13
set_option maxRecDepth 8000 in
theorem la_1_4 {p : Program} {l : Launch} {e : Env} {s : State} {m : MethodId} {below : List Frame} {meth : Method} {c : Code} {D : va_G} {B b : Nat} {cy : Nat → ClassId} {H : Heap} {locs : List Loc} {ls : Array Slot} {xs : Nat → Int32} {Q : State → Prop} (F : CallFix p m c code 4 s #[Value.ref b] TB RL) (hX : va_X b 6 xs s s.heap) (hbl : b < s.heap.size) (hbA : ¬ B ≤ b) (w : Wd D B cy s s.heap M0 H locs) (hl : lv_has ls 4 [(3, .int 0), (2, .ref (B + 146)), (1, .ref (B + 0)), (0, .ref b)]) (h0 : ¬ (xs 1) < 0) (h1 : ¬ (xs 1) ≤ 0) (h2 : 0 < (xs 1)) (kk : ∀ (M1 : Mem) (H1 : Heap) (locs1 : List Loc), Wd D B cy s s.heap M1 H1 locs1 → W p l e room_1 s m #[Value.ref b] below meth c H1 locs1 159 13107 Q (F0 m 1065 ls [])) : W p l e room_1 s m #[Value.ref b] below meth c H locs 159 13107 Q (F0 m 227 ls []) := by
  have hx := F.1
  have hb := F.2.1
  refine lv_aload_n hx hb dL_law_227 rfl (lv_at hl 2 rfl) ?_
  refine lv_aload_n hx hb dL_law_228 rfl (lv_at hl 3 rfl) ?_
  refine lv_iload_n hx hb dL_law_229 rfl (lv_at hl 0 rfl) ?_
  refine lv_iconst (v := 1) hx hb dL_law_230 (by decide) ?_
  refine lv_iadd hx hb dL_law_231 ?_
  refine r_val (v := 1) (by decide) ?_
  refine va_sld hx hb hX hbl hbA w.2.2.1 (vpi (by decide) (by decide)) dL_law_232 ?_
  refine r_val (v := xs 1) (congrArg xs (show (1 : Int32).toNatClampNeg = 1 by decide)) ?_
  refine x_Vi F w (As := [.int (xs 1)]) (rest := []) (a := 0) (by decide) (sh_11 rfl _ _) rfl (c_X11_back_71 h0 (rfl) h1) gv_L_18 hv_X11_back ⟨Nat.le_of_ble_eq_true rfl, Nat.le_of_ble_eq_true rfl⟩ hl.1 rfl (Nat.le_of_ble_eq_true rfl) ⟨Nat.le_of_ble_eq_true rfl, Nat.le_of_ble_eq_true rfl⟩ dL_law_233 (fun H locs w => ?_)
  refine lv_aload_n hx hb dL_law_236 rfl (lv_at hl 1 rfl) ?_
  refine lv_aload_n hx hb dL_law_237 rfl (lv_at hl 3 rfl) ?_
  refine lv_iload_n hx hb dL_law_238 rfl (lv_at hl 0 rfl) ?_
  refine lv_iconst (v := 1) hx hb dL_law_239 (by decide) ?_
  refine lv_iadd hx hb dL_law_240 ?_
  refine r_val (v := 1) (by decide) ?_
  refine va_sld hx hb hX hbl hbA w.2.2.1 (vpi (by decide) (by decide)) dL_law_241 ?_
  refine r_val (v := xs 1) (congrArg xs (show (1 : Int32).toNatClampNeg = 1 by decide)) ?_
  refine x_Vi F w (As := [.int (xs 1)]) (rest := [.int (-1)]) (a := 146) (by decide) (sh_12 rfl _ _) rfl (c_X12_back_73 (rfl) h0 h2) gv_L_22 hv_X12_back ⟨Nat.le_of_ble_eq_true rfl, Nat.le_of_ble_eq_true rfl⟩ hl.1 rfl (Nat.le_of_ble_eq_true rfl) ⟨Nat.le_of_ble_eq_true rfl, Nat.le_of_ble_eq_true rfl⟩ dL_law_242 (fun H locs w => ?_)
  refine lv_icmp_eq (tgt := 1065) hx hb dL_law_245 (by decide) (fun _ => ?_) (fun c1 => absurd c1 (by decide))
  exact kk _ _ _ w
set_option maxRecDepth 8000 in
theorem lc_1 {p : Program} {l : Launch} {e : Env} {s : State} {m : MethodId} {below : List Frame} {meth : Method} {c : Code} {D : va_G} {B b : Nat} {cy : Nat → ClassId} {H : Heap} {locs : List Loc} {ls : Array Slot} {xs : Nat → Int32} {Q : State → Prop} (F : CallFix p m c code 4 s #[Value.ref b] TB RL) (hX : va_X b 6 xs s s.heap) (hbl : b < s.heap.size) (hbA : ¬ B ≤ b) (w : Wd D B cy s s.heap M0 H locs) (hl : lv_has ls 4 [(3, .int 0), (2, .ref (B + 146)), (1, .ref (B + 0)), (0, .ref b)]) (kk : ∀ (M1 : Mem) (H1 : Heap) (locs1 : List Loc), Wd D B cy s s.heap M1 H1 locs1 → W p l e room_1 s m #[Value.ref b] below meth c H1 locs1 159 13107 Q (F0 m 1065 ls [])) : W p l e room_1 s m #[Value.ref b] below meth c H locs 159 13107 Q (F0 m 227 ls []) := by
  rcases (show (xs 1).toInt < 0 ∨ (xs 1).toInt = 0 ∨ 0 < (xs 1).toInt by omega) with h1 | h1 | h1
  · skip
    exact la_1_2 F hX hbl hbA w hl (by rw [Int32.lt_iff_toInt_lt, show (0 : Int32).toInt = 0 from by decide]; omega) kk
  · have x1 : xs 1 = 0 := Int32.toInt_inj.mp (h1.trans (by decide))
    exact la_1_3 F hX hbl hbA w hl x1 kk
  · skip
    exact la_1_4 F hX hbl hbA w hl (by rw [Int32.lt_iff_toInt_lt, show (0 : Int32).toInt = 0 from by decide]; omega) (by rw [Int32.le_iff_toInt_le, show (0 : Int32).toInt = 0 from by decide]; omega) (by rw [Int32.lt_iff_toInt_lt, show (0 : Int32).toInt = 0 from by decide]; omega) kk
theorem dL_law_250 : decode cL_law 250 = .ok (.aload_n 1, 1) := by decide +kernel
theorem dL_law_251 : decode cL_law 251 = .ok (.invokevirtual 23, 3) := by decide +kernel
theorem dX11_word_0 : decode cX11_word 0 = .ok (.aload_n 0, 1) := by decide +kernel
theorem dX11_word_1 : decode cX11_word 1 = .ok (.getfield 21, 3) := by decide +kernel
theorem dX11_word_4 : decode cX11_word 4 = .ok (.aload_n 0, 1) := by decide +kernel
theorem dX11_word_5 : decode cX11_word 5 = .ok (.getfield 75, 3) := by decide +kernel
theorem dX11_word_8 : decode cX11_word 8 = .ok (.invokevirtual 86, 3) := by decide +kernel
theorem dX10_faultOf_0 : decode cX10_faultOf 0 = .ok (.aload_n 1, 1) := by decide +kernel
theorem dX10_faultOf_1 : decode cX10_faultOf 1 = .ok (.invokevirtual 19, 3) := by decide +kernel
theorem dX9_clear_0 : decode cX9_clear 0 = .ok (.aload_n 0, 1) := by decide +kernel
theorem dX9_clear_1 : decode cX9_clear 1 = .ok (.iconst 0, 1) := by decide +kernel
theorem dX9_clear_2 : decode cX9_clear 2 = .ok (.putfield 9, 3) := by decide +kernel
theorem dX9_clear_5 : decode cX9_clear 5 = .ok (.aload_n 0, 1) := by decide +kernel
theorem dX9_clear_6 : decode cX9_clear 6 = .ok (.iconst 0, 1) := by decide +kernel
theorem dX9_clear_7 : decode cX9_clear 7 = .ok (.putfield 15, 3) := by decide +kernel
theorem dX9_clear_10 : decode cX9_clear 10 = .ok (.aload_n 0, 1) := by decide +kernel
theorem dX9_clear_11 : decode cX9_clear 11 = .ok (.iconst 0, 1) := by decide +kernel
theorem dX9_clear_12 : decode cX9_clear 12 = .ok (.putfield 18, 3) := by decide +kernel
theorem dX9_clear_15 : decode cX9_clear 15 = .ok (.aload_n 0, 1) := by decide +kernel
theorem dX9_clear_16 : decode cX9_clear 16 = .ok (.iconst 0, 1) := by decide +kernel
theorem dX9_clear_17 : decode cX9_clear 17 = .ok (.putfield 21, 3) := by decide +kernel
theorem dX9_clear_20 : decode cX9_clear 20 = .ok (.return_, 1) := by decide +kernel
set_option maxRecDepth 4000 in
theorem c_X9_clear_74 {l : Launch} {D : va_G} {B : Nat} {cy : Nat → ClassId} {M : Mem} (h0 : M.1 143 0 = 0) (h1 : M.1 143 1 = 0) (h2 : M.1 143 2 = 0) (h3 : M.1 143 3 = 0) : Cv l D B cy yX9_clear cX9_clear 1 0 0 [.ref (B + 143)] M (fun M1 => M1 = M) := by
  refine s_any (by decide) (Nat.le_of_ble_eq_true rfl) ?_
  intro p e s m below meth c ls F hr hlocks w hl
  have F : CallFix p m c cX9_clear 1 s _ TB RX9 := F
  have hx := F.1
  have hb := F.2.1
  have hl : lv_has ls 1 [(0, .ref (B + 143))] := hl
  refine lv_aload_n hx hb dX9_clear_0 rfl (lv_at hl 0 rfl) ?_
  refine lv_iconst (v := 0) hx hb dX9_clear_1 (by decide) ?_
  refine u_9_0 F w (a := 143) rfl tb_63 dX9_clear_2 (fun H locs w => ?_)
  rw [st_same (h0)] at w
  refine lv_aload_n hx hb dX9_clear_5 rfl (lv_at hl 0 rfl) ?_
  refine lv_iconst (v := 0) hx hb dX9_clear_6 (by decide) ?_
  refine u_9_1 F w (a := 143) rfl tb_64 dX9_clear_7 (fun H locs w => ?_)
  rw [st_same (h1)] at w
  refine lv_aload_n hx hb dX9_clear_10 rfl (lv_at hl 0 rfl) ?_
  refine lv_iconst (v := 0) hx hb dX9_clear_11 (by decide) ?_
  refine u_9_2 F w (a := 143) rfl tb_65 dX9_clear_12 (fun H locs w => ?_)
  rw [st_same (h2)] at w
  refine lv_aload_n hx hb dX9_clear_15 rfl (lv_at hl 0 rfl) ?_
  refine lv_iconst (v := 0) hx hb dX9_clear_16 (by decide) ?_
  refine u_9_3 F w (a := 143) rfl tb_66 dX9_clear_17 (fun H locs w => ?_)
  rw [st_same (h3)] at w
  exact e_v F w hr hlocks rfl dX9_clear_20
theorem tk_X9_clear : Cond.code yX9_clear cX9_clear 1 none ∈ TB := tbm (tc2 (List.mem_of_getElem? (i := 111) rfl)) rfl
theorem gc_X9_clear : GoodIn TB (cw yX9_clear cX9_clear 1 none) := goodIn_c2 tk_X9_clear
theorem tb_159 : Cond.methodLink "ToneLines$WordReader" 19 yX9_clear ∈ TB := tbm (tc2 (List.mem_of_getElem? (i := 108) rfl)) rfl
theorem tb_160 : Cond.instanceMethod yX9_clear ∈ TB := tbm (tc2 (List.mem_of_getElem? (i := 109) rfl)) rfl
theorem tb_161 : Cond.selects "ToneLines$Word" yX9_clear yX9_clear ∈ TB := tbm (tc2 (List.mem_of_getElem? (i := 110) rfl)) rfl
theorem gv_X10_19 : GoodIn TB (wsV RX10 19 RX9 yX9_clear (cw yX9_clear cX9_clear 1 none)) := goodIn_4 tb_159 tb_160 tb_161 tb_61 gc_X9_clear
theorem hv_X9_clear : yX9_clear.cls = RX9 ∧ yX9_clear.cls ≠ "java/lang/invoke/MethodHandle" ∧ yX9_clear.cls ≠ "java/lang/invoke/VarHandle" ∧ (parseMethodDescriptor yX9_clear.desc).map (fun d => d.parameters.length) = some 0 := by decide +kernel
theorem dX10_faultOf_4 : decode cX10_faultOf 4 = .ok (.aload_n 0, 1) := by decide +kernel
theorem dX10_faultOf_5 : decode cX10_faultOf 5 = .ok (.iconst 0, 1) := by decide +kernel
theorem dX10_faultOf_6 : decode cX10_faultOf 6 = .ok (.putfield 9, 3) := by decide +kernel
theorem dX10_faultOf_9 : decode cX10_faultOf 9 = .ok (.aload_n 0, 1) := by decide +kernel
theorem dX10_faultOf_10 : decode cX10_faultOf 10 = .ok (.aload_n 1, 1) := by decide +kernel
theorem dX10_faultOf_11 : decode cX10_faultOf 11 = .ok (.invokevirtual 24, 3) := by decide +kernel
theorem dX10_readTones_0 : decode cX10_readTones 0 = .ok (.aload_n 0, 1) := by decide +kernel
theorem dX10_readTones_1 : decode cX10_readTones 1 = .ok (.aload_n 0, 1) := by decide +kernel
theorem dX10_readTones_2 : decode cX10_readTones 2 = .ok (.getfield 15, 3) := by decide +kernel
theorem dX10_readTones_5 : decode cX10_readTones 5 = .ok (.aload_n 0, 1) := by decide +kernel
theorem dX10_readTones_6 : decode cX10_readTones 6 = .ok (.getfield 9, 3) := by decide +kernel
theorem dX10_readTones_9 : decode cX10_readTones 9 = .ok (.invokevirtual 34, 3) := by decide +kernel
theorem dX8_skipBlanks_0 : decode cX8_skipBlanks 0 = .ok (.iload_n 1, 1) := by decide +kernel
theorem dX8_skipBlanks_1 : decode cX8_skipBlanks 1 = .ok (.istore_n 2, 1) := by decide +kernel
theorem dX8_skipBlanks_2 : decode cX8_skipBlanks 2 = .ok (.iload_n 2, 1) := by decide +kernel
theorem dX8_skipBlanks_3 : decode cX8_skipBlanks 3 = .ok (.ifCond .lt 35, 3) := by decide +kernel
theorem dX8_skipBlanks_6 : decode cX8_skipBlanks 6 = .ok (.iload_n 2, 1) := by decide +kernel
theorem dX8_skipBlanks_7 : decode cX8_skipBlanks 7 = .ok (.aload_n 0, 1) := by decide +kernel
theorem dX8_skipBlanks_8 : decode cX8_skipBlanks 8 = .ok (.getfield 15, 3) := by decide +kernel
theorem dX8_skipBlanks_11 : decode cX8_skipBlanks 11 = .ok (.if_icmp .ge 27, 3) := by decide +kernel
theorem dX8_skipBlanks_38 : decode cX8_skipBlanks 38 = .ok (.iload_n 2, 1) := by decide +kernel
theorem dX8_skipBlanks_39 : decode cX8_skipBlanks 39 = .ok (.ireturn, 1) := by decide +kernel
set_option maxRecDepth 4000 in
theorem c_X8_skipBlanks_75 {l : Launch} {D : va_G} {B : Nat} {cy : Nat → ClassId} {M : Mem} (h0 : M.1 1 1 = 0) : Ci l D B cy yX8_skipBlanks cX8_skipBlanks 3 (some .int) 0 0 [.ref (B + 1), .int 0] M (fun r M1 => r = 0 ∧ M1 = M) := by
  refine s_any (by decide) (Nat.le_of_ble_eq_true rfl) ?_
  intro p e s m below meth c ls F hr hlocks w hl
  have F : CallFix p m c cX8_skipBlanks 3 s _ TB RX8 := F
  have hx := F.1
  have hb := F.2.1
  have hl : lv_has ls 3 [(0, .ref (B + 1)), (1, .int 0)] := hl
  refine lv_iload_n hx hb dX8_skipBlanks_0 rfl (lv_at hl 1 rfl) ?_
  refine lv_istore_n (lv' := [(2, .int 0), (0, .ref (B + 1)), (1, .int 0)]) hx hb dX8_skipBlanks_1 rfl hl (by decide) rfl (fun ls hl => ?_)
  refine lv_iload_n hx hb dX8_skipBlanks_2 rfl (lv_at hl 0 rfl) ?_
  refine lv_if_lt (tgt := 38) hx hb dX8_skipBlanks_3 (by decide) (fun c1 => absurd c1 (by decide)) (fun _ => ?_)
  refine lv_iload_n hx hb dX8_skipBlanks_6 rfl (lv_at hl 0 rfl) ?_
  refine lv_aload_n hx hb dX8_skipBlanks_7 rfl (lv_at hl 1 rfl) ?_
  refine f_8_1 F w (a := 1) rfl tb_9 dX8_skipBlanks_8 ?_
  refine r_val (v := 0) (h0) ?_
  refine lv_icmp_ge (tgt := 38) hx hb dX8_skipBlanks_11 (by decide) (fun _ => ?_) (fun c1 => absurd c1 (by decide))
  refine lv_iload_n hx hb dX8_skipBlanks_38 rfl (lv_at hl 0 rfl) ?_
  exact e_i F w hr hlocks ⟨rfl, rfl⟩ dX8_skipBlanks_39
theorem tk_X8_skipBlanks : Cond.code yX8_skipBlanks cX8_skipBlanks 3 (some .int) ∈ TB := tbm (tc2 (List.mem_of_getElem? (i := 119) rfl)) rfl
theorem gc_X8_skipBlanks : GoodIn TB (cw yX8_skipBlanks cX8_skipBlanks 3 (some .int)) := goodIn_c2 tk_X8_skipBlanks
theorem tb_162 : Cond.methodLink "ToneLines$WordReader" 34 yX8_skipBlanks ∈ TB := tbm (tc2 (List.mem_of_getElem? (i := 116) rfl)) rfl
theorem tb_163 : Cond.instanceMethod yX8_skipBlanks ∈ TB := tbm (tc2 (List.mem_of_getElem? (i := 117) rfl)) rfl
theorem tb_164 : Cond.selects "ToneLines$Tape" yX8_skipBlanks yX8_skipBlanks ∈ TB := tbm (tc2 (List.mem_of_getElem? (i := 118) rfl)) rfl
theorem gv_X10_34 : GoodIn TB (wsV RX10 34 RX8 yX8_skipBlanks (cw yX8_skipBlanks cX8_skipBlanks 3 (some .int))) := goodIn_4 tb_162 tb_163 tb_164 tb_5 gc_X8_skipBlanks
theorem hv_X8_skipBlanks : yX8_skipBlanks.cls = RX8 ∧ yX8_skipBlanks.cls ≠ "java/lang/invoke/MethodHandle" ∧ yX8_skipBlanks.cls ≠ "java/lang/invoke/VarHandle" ∧ (parseMethodDescriptor yX8_skipBlanks.desc).map (fun d => d.parameters.length) = some 1 := by decide +kernel
theorem dX10_readTones_12 : decode cX10_readTones 12 = .ok (.putfield 9, 3) := by decide +kernel
theorem dX10_readTones_15 : decode cX10_readTones 15 = .ok (.aload_n 0, 1) := by decide +kernel
theorem dX10_readTones_16 : decode cX10_readTones 16 = .ok (.getfield 9, 3) := by decide +kernel
theorem dX10_readTones_19 : decode cX10_readTones 19 = .ok (.aload_n 0, 1) := by decide +kernel
theorem dX10_readTones_20 : decode cX10_readTones 20 = .ok (.getfield 15, 3) := by decide +kernel
theorem dX10_readTones_23 : decode cX10_readTones 23 = .ok (.getfield 40, 3) := by decide +kernel
theorem tb_165 : Cond.fieldLink "ToneLines$WordReader" 40 "ToneLines$Tape" "size" "I" ∈ TB := tbm (tc1 (List.mem_of_getElem? (i := 41) rfl)) rfl
theorem dX10_readTones_26 : decode cX10_readTones 26 = .ok (.if_icmp .ge 85, 3) := by decide +kernel
theorem dX10_readTones_111 : decode cX10_readTones 111 = .ok (.iconst 0, 1) := by decide +kernel
theorem dX10_readTones_112 : decode cX10_readTones 112 = .ok (.ireturn, 1) := by decide +kernel
set_option maxRecDepth 4000 in
theorem c_X10_readTones_76 {l : Launch} {D : va_G} {B : Nat} {cy : Nat → ClassId} {M : Mem} (h0 : M.1 3 1 = 0) (h1 : M.1 1 1 = 0) : Ci l D B cy yX10_readTones cX10_readTones 4 (some .boolean) 1 22 [.ref (B + 3), .ref (B + 143)] M (fun r M1 => r = 0 ∧ M1 = M) := by
  refine s_any (by decide) (Nat.le_of_ble_eq_true rfl) ?_
  intro p e s m below meth c ls F hr hlocks w hl
  have F : CallFix p m c cX10_readTones 4 s _ TB RX10 := F
  have hx := F.1
  have hb := F.2.1
  have hl : lv_has ls 4 [(0, .ref (B + 3)), (1, .ref (B + 143))] := hl
  refine lv_aload_n hx hb dX10_readTones_0 rfl (lv_at hl 0 rfl) ?_
  refine lv_aload_n hx hb dX10_readTones_1 rfl (lv_at hl 0 rfl) ?_
  refine f_10_0 F w (a := 3) rfl tb_17 dX10_readTones_2 ?_
  refine lv_aload_n hx hb dX10_readTones_5 rfl (lv_at hl 0 rfl) ?_
  refine f_10_1 F w (a := 3) rfl tb_16 dX10_readTones_6 ?_
  refine r_val (v := 0) (h0) ?_
  refine x_Vi F w (As := [.int 0]) (rest := [.ref (B + 3)]) (a := 1) (by decide) (sh_8 rfl _ _) rfl (c_X8_skipBlanks_75 (h1)) gv_X10_34 hv_X8_skipBlanks ⟨Nat.le_of_ble_eq_true rfl, Nat.le_of_ble_eq_true rfl⟩ hl.1 rfl (Nat.le_of_ble_eq_true rfl) ⟨Nat.zero_le _, Nat.zero_le _⟩ dX10_readTones_9 (fun H locs w => ?_)
  refine u_10_1 F w (a := 3) rfl tb_16 dX10_readTones_12 (fun H locs w => ?_)
  rw [st_same (h0)] at w
  refine lv_aload_n hx hb dX10_readTones_15 rfl (lv_at hl 0 rfl) ?_
  refine f_10_1 F w (a := 3) rfl tb_16 dX10_readTones_16 ?_
  refine r_val (v := 0) (h0) ?_
  refine lv_aload_n hx hb dX10_readTones_19 rfl (lv_at hl 0 rfl) ?_
  refine f_10_0 F w (a := 3) rfl tb_17 dX10_readTones_20 ?_
  refine f_8_1 F w (a := 1) rfl tb_165 dX10_readTones_23 ?_
  refine r_val (v := 0) (h1) ?_
  refine lv_icmp_ge (tgt := 111) hx hb dX10_readTones_26 (by decide) (fun _ => ?_) (fun c1 => absurd c1 (by decide))
  refine lv_iconst (v := 0) hx hb dX10_readTones_111 (by decide) ?_
  exact e_z F w hr hlocks (by decide) ⟨rfl, rfl⟩ dX10_readTones_112
theorem tk_X10_readTones : Cond.code yX10_readTones cX10_readTones 4 (some .boolean) ∈ TB := tbm (tc2 (List.mem_of_getElem? (i := 115) rfl)) rfl
theorem gc_X10_readTones : GoodIn TB (cw yX10_readTones cX10_readTones 4 (some .boolean)) := goodIn_c2 tk_X10_readTones
theorem tb_166 : Cond.methodLink "ToneLines$WordReader" 24 yX10_readTones ∈ TB := tbm (tc2 (List.mem_of_getElem? (i := 112) rfl)) rfl
theorem tb_167 : Cond.instanceMethod yX10_readTones ∈ TB := tbm (tc2 (List.mem_of_getElem? (i := 114) rfl)) rfl
theorem tb_168 : Cond.selects "ToneLines$WordReader" yX10_readTones yX10_readTones ∈ TB := tbp (List.mem_of_getElem? (i := 0) rfl) rfl
theorem gv_X10_24 : GoodIn TB (wsV RX10 24 RX10 yX10_readTones (cw yX10_readTones cX10_readTones 4 (some .boolean))) := goodIn_4 tb_166 tb_167 tb_168 tb_14 gc_X10_readTones
theorem hv_X10_readTones : yX10_readTones.cls = RX10 ∧ yX10_readTones.cls ≠ "java/lang/invoke/MethodHandle" ∧ yX10_readTones.cls ≠ "java/lang/invoke/VarHandle" ∧ (parseMethodDescriptor yX10_readTones.desc).map (fun d => d.parameters.length) = some 1 := by decide +kernel
theorem dX10_faultOf_14 : decode cX10_faultOf 14 = .ok (.ifCond .eq 23, 3) := by decide +kernel
theorem dX10_faultOf_37 : decode cX10_faultOf 37 = .ok (.iconst 0, 1) := by decide +kernel
theorem dX10_faultOf_38 : decode cX10_faultOf 38 = .ok (.istore_n 2, 1) := by decide +kernel
theorem dX10_faultOf_39 : decode cX10_faultOf 39 = .ok (.iload_n 2, 1) := by decide +kernel
theorem dX10_faultOf_40 : decode cX10_faultOf 40 = .ok (.ifCond .eq 7, 3) := by decide +kernel
theorem dX10_faultOf_47 : decode cX10_faultOf 47 = .ok (.aload_n 0, 1) := by decide +kernel
theorem dX10_faultOf_48 : decode cX10_faultOf 48 = .ok (.getfield 9, 3) := by decide +kernel
theorem dX10_faultOf_51 : decode cX10_faultOf 51 = .ok (.ireturn, 1) := by decide +kernel
set_option maxRecDepth 4000 in
theorem c_X10_faultOf_77 {l : Launch} {D : va_G} {B : Nat} {cy : Nat → ClassId} {M : Mem} (h0 : M.1 143 0 = 0) (h1 : M.1 143 1 = 0) (h2 : M.1 143 2 = 0) (h3 : M.1 143 3 = 0) (h4 : M.1 3 1 = 0) (h5 : M.1 1 1 = 0) : Ci l D B cy yX10_faultOf cX10_faultOf 3 (some .int) 2 45 [.ref (B + 3), .ref (B + 143)] M (fun r M1 => r = 0 ∧ M1 = M) := by
  refine s_any (by decide) (Nat.le_of_ble_eq_true rfl) ?_
  intro p e s m below meth c ls F hr hlocks w hl
  have F : CallFix p m c cX10_faultOf 3 s _ TB RX10 := F
  have hx := F.1
  have hb := F.2.1
  have hl : lv_has ls 3 [(0, .ref (B + 3)), (1, .ref (B + 143))] := hl
  refine lv_aload_n hx hb dX10_faultOf_0 rfl (lv_at hl 1 rfl) ?_
  refine x_Vv F w (As := []) (rest := []) (a := 143) (by decide) (sh_9 rfl _ _) rfl (c_X9_clear_74 (h0) (h1) (h2) (h3)) gv_X10_19 hv_X9_clear ⟨Nat.le_of_ble_eq_true rfl, Nat.le_of_ble_eq_true rfl⟩ hl.1 rfl (Nat.le_of_ble_eq_true rfl) ⟨Nat.zero_le _, Nat.zero_le _⟩ dX10_faultOf_1 (fun H locs w => ?_)
  refine lv_aload_n hx hb dX10_faultOf_4 rfl (lv_at hl 0 rfl) ?_
  refine lv_iconst (v := 0) hx hb dX10_faultOf_5 (by decide) ?_
  refine u_10_1 F w (a := 3) rfl tb_16 dX10_faultOf_6 (fun H locs w => ?_)
  rw [st_same (h4)] at w
  refine lv_aload_n hx hb dX10_faultOf_9 rfl (lv_at hl 0 rfl) ?_
  refine lv_aload_n hx hb dX10_faultOf_10 rfl (lv_at hl 1 rfl) ?_
  refine x_Vi F w (As := [.ref (B + 143)]) (rest := []) (a := 3) (by decide) (sh_10 rfl _ _) rfl (c_X10_readTones_76 (h4) (h5)) gv_X10_24 hv_X10_readTones ⟨Nat.le_of_ble_eq_true rfl, Nat.le_of_ble_eq_true rfl⟩ hl.1 rfl (Nat.le_of_ble_eq_true rfl) ⟨Nat.zero_le _, Nat.zero_le _⟩ dX10_faultOf_11 (fun H locs w => ?_)
  refine lv_if_eq (tgt := 37) hx hb dX10_faultOf_14 (by decide) (fun _ => ?_) (fun c1 => absurd c1 (by decide))
  refine lv_iconst (v := 0) hx hb dX10_faultOf_37 (by decide) ?_
  refine lv_istore_n (lv' := [(2, .int 0), (0, .ref (B + 3)), (1, .ref (B + 143))]) hx hb dX10_faultOf_38 rfl hl (by decide) rfl (fun ls hl => ?_)
  refine lv_iload_n hx hb dX10_faultOf_39 rfl (lv_at hl 0 rfl) ?_
  refine lv_if_eq (tgt := 47) hx hb dX10_faultOf_40 (by decide) (fun _ => ?_) (fun c1 => absurd c1 (by decide))
  refine lv_aload_n hx hb dX10_faultOf_47 rfl (lv_at hl 1 rfl) ?_
  refine f_10_1 F w (a := 3) rfl tb_16 dX10_faultOf_48 ?_
  refine r_val (v := 0) (h4) ?_
  exact e_i F w hr hlocks ⟨rfl, rfl⟩ dX10_faultOf_51
theorem tk_X10_faultOf : Cond.code yX10_faultOf cX10_faultOf 3 (some .int) ∈ TB := tbm (tc2 (List.mem_of_getElem? (i := 107) rfl)) rfl
theorem gc_X10_faultOf : GoodIn TB (cw yX10_faultOf cX10_faultOf 3 (some .int)) := goodIn_c2 tk_X10_faultOf
theorem tb_169 : Cond.methodLink "ToneLines" 86 yX10_faultOf ∈ TB := tbm (tc2 (List.mem_of_getElem? (i := 104) rfl)) rfl
theorem tb_170 : Cond.instanceMethod yX10_faultOf ∈ TB := tbm (tc2 (List.mem_of_getElem? (i := 105) rfl)) rfl
theorem tb_171 : Cond.selects "ToneLines$WordReader" yX10_faultOf yX10_faultOf ∈ TB := tbm (tc2 (List.mem_of_getElem? (i := 106) rfl)) rfl
theorem gv_X11_86 : GoodIn TB (wsV RX11 86 RX10 yX10_faultOf (cw yX10_faultOf cX10_faultOf 3 (some .int))) := goodIn_4 tb_169 tb_170 tb_171 tb_14 gc_X10_faultOf
theorem hv_X10_faultOf : yX10_faultOf.cls = RX10 ∧ yX10_faultOf.cls ≠ "java/lang/invoke/MethodHandle" ∧ yX10_faultOf.cls ≠ "java/lang/invoke/VarHandle" ∧ (parseMethodDescriptor yX10_faultOf.desc).map (fun d => d.parameters.length) = some 1 := by decide +kernel
theorem dX11_word_11 : decode cX11_word 11 = .ok (.istore_n 1, 1) := by decide +kernel
theorem dX11_word_12 : decode cX11_word 12 = .ok (.aload_n 0, 1) := by decide +kernel
theorem dX11_word_13 : decode cX11_word 13 = .ok (.getfield 12, 3) := by decide +kernel
theorem dX11_word_16 : decode cX11_word 16 = .ok (.iconst 0, 1) := by decide +kernel
theorem dX11_word_17 : decode cX11_word 17 = .ok (.putfield 78, 3) := by decide +kernel
theorem dX11_word_20 : decode cX11_word 20 = .ok (.iload_n 1, 1) := by decide +kernel
theorem dX11_word_21 : decode cX11_word 21 = .ok (.iconst (-1), 1) := by decide +kernel
theorem dX11_word_22 : decode cX11_word 22 = .ok (.if_icmp .eq 8, 3) := by decide +kernel
theorem dX11_word_25 : decode cX11_word 25 = .ok (.bipush (-4), 2) := by decide +kernel
theorem dX11_word_27 : decode cX11_word 27 = .ok (.iload_n 1, 1) := by decide +kernel
theorem dX11_word_28 : decode cX11_word 28 = .ok (.isub, 1) := by decide +kernel
theorem dX11_word_29 : decode cX11_word 29 = .ok (.ireturn, 1) := by decide +kernel
set_option maxRecDepth 4000 in
theorem c_X11_word_78 {l : Launch} {D : va_G} {B : Nat} {cy : Nat → ClassId} {M : Mem} (h0 : M.1 143 0 = 0) (h1 : M.1 143 1 = 0) (h2 : M.1 143 2 = 0) (h3 : M.1 143 3 = 0) (h4 : M.1 3 1 = 0) (h5 : M.1 1 1 = 0) : Ci l D B cy yX11_word cX11_word 2 (some .int) 3 67 [.ref (B + 0)] M (fun r M1 => r = (-4) ∧ M1 = M) := by
  refine s_any (by decide) (Nat.le_of_ble_eq_true rfl) ?_
  intro p e s m below meth c ls F hr hlocks w hl
  have F : CallFix p m c cX11_word 2 s _ TB RX11 := F
  have hx := F.1
  have hb := F.2.1
  have hl : lv_has ls 2 [(0, .ref (B + 0))] := hl
  refine lv_aload_n hx hb dX11_word_0 rfl (lv_at hl 0 rfl) ?_
  refine f_11_1 F w (a := 0) rfl tb_20 dX11_word_1 ?_
  refine lv_aload_n hx hb dX11_word_4 rfl (lv_at hl 0 rfl) ?_
  refine f_11_9 F w (a := 0) rfl tb_124 dX11_word_5 ?_
  refine x_Vi F w (As := [.ref (B + 143)]) (rest := []) (a := 3) (by decide) (sh_10 rfl _ _) rfl (c_X10_faultOf_77 (h0) (h1) (h2) (h3) (h4) (h5)) gv_X11_86 hv_X10_faultOf ⟨Nat.le_of_ble_eq_true rfl, Nat.le_of_ble_eq_true rfl⟩ hl.1 rfl (Nat.le_of_ble_eq_true rfl) ⟨Nat.zero_le _, Nat.zero_le _⟩ dX11_word_8 (fun H locs w => ?_)
  refine lv_istore_n (lv' := [(1, .int 0), (0, .ref (B + 0))]) hx hb dX11_word_11 rfl hl (by decide) rfl (fun ls hl => ?_)
  refine lv_aload_n hx hb dX11_word_12 rfl (lv_at hl 1 rfl) ?_
  refine f_11_0 F w (a := 0) rfl tb_11 dX11_word_13 ?_
  refine lv_iconst (v := 0) hx hb dX11_word_16 (by decide) ?_
  refine u_8_1 F w (a := 1) rfl tb_138 dX11_word_17 (fun H locs w => ?_)
  rw [st_same (h5)] at w
  refine lv_iload_n hx hb dX11_word_20 rfl (lv_at hl 0 rfl) ?_
  refine lv_iconst (v := (-1)) hx hb dX11_word_21 (by decide) ?_
  refine lv_icmp_eq (tgt := 30) hx hb dX11_word_22 (by decide) (fun c1 => absurd c1 (by decide)) (fun _ => ?_)
  refine lv_bipush (v := (-4)) hx hb dX11_word_25 (by decide) ?_
  refine lv_iload_n hx hb dX11_word_27 rfl (lv_at hl 0 rfl) ?_
  refine lv_isub hx hb dX11_word_28 ?_
  refine r_val (v := (-4)) (by decide) ?_
  exact e_i F w hr hlocks ⟨rfl, rfl⟩ dX11_word_29
theorem tk_X11_word : Cond.code yX11_word cX11_word 2 (some .int) ∈ TB := tbm (tc2 (List.mem_of_getElem? (i := 103) rfl)) rfl
theorem gc_X11_word : GoodIn TB (cw yX11_word cX11_word 2 (some .int)) := goodIn_c2 tk_X11_word
theorem tb_172 : Cond.methodLink "ToneLinesLaw" 23 yX11_word ∈ TB := tbm (tc2 (List.mem_of_getElem? (i := 100) rfl)) rfl
theorem tb_173 : Cond.instanceMethod yX11_word ∈ TB := tbm (tc2 (List.mem_of_getElem? (i := 101) rfl)) rfl
theorem tb_174 : Cond.selects "ToneLines" yX11_word yX11_word ∈ TB := tbm (tc2 (List.mem_of_getElem? (i := 102) rfl)) rfl
theorem gv_L_23 : GoodIn TB (wsV RL 23 RX11 yX11_word (cw yX11_word cX11_word 2 (some .int))) := goodIn_4 tb_172 tb_173 tb_174 tb_145 gc_X11_word
theorem hv_X11_word : yX11_word.cls = RX11 ∧ yX11_word.cls ≠ "java/lang/invoke/MethodHandle" ∧ yX11_word.cls ≠ "java/lang/invoke/VarHandle" ∧ (parseMethodDescriptor yX11_word.desc).map (fun d => d.parameters.length) = some 0 := by decide +kernel
theorem dL_law_254 : decode cL_law 254 = .ok (.aload_n 2, 1) := by decide +kernel
theorem dL_law_255 : decode cL_law 255 = .ok (.invokevirtual 27, 3) := by decide +kernel
theorem dX12_word_0 : decode cX12_word 0 = .ok (.iconst 0, 1) := by decide +kernel
theorem dX12_word_1 : decode cX12_word 1 = .ok (.istore_n 1, 1) := by decide +kernel
theorem dX12_word_2 : decode cX12_word 2 = .ok (.iload_n 1, 1) := by decide +kernel
theorem dX12_word_3 : decode cX12_word 3 = .ok (.bipush 28, 2) := by decide +kernel
theorem dX12_word_5 : decode cX12_word 5 = .ok (.if_icmp .ge 16, 3) := by decide +kernel
theorem dX12_word_8 : decode cX12_word 8 = .ok (.aload_n 0, 1) := by decide +kernel
theorem dX12_word_9 : decode cX12_word 9 = .ok (.getfield 26, 3) := by decide +kernel
theorem dX12_word_12 : decode cX12_word 12 = .ok (.iload_n 1, 1) := by decide +kernel
theorem dX12_word_13 : decode cX12_word 13 = .ok (.iconst 0, 1) := by decide +kernel
theorem dX12_word_14 : decode cX12_word 14 = .ok (.iastore, 1) := by decide +kernel
theorem dX12_word_15 : decode cX12_word 15 = .ok (.iinc 1 1, 3) := by decide +kernel
theorem dX12_word_18 : decode cX12_word 18 = .ok (.goto (-16), 3) := by decide +kernel
theorem dX12_word_21 : decode cX12_word 21 = .ok (.aload_n 0, 1) := by decide +kernel
theorem dX12_word_22 : decode cX12_word 22 = .ok (.iconst 0, 1) := by decide +kernel
theorem dX12_word_23 : decode cX12_word 23 = .ok (.putfield 172, 3) := by decide +kernel
theorem tb_175 : Cond.fieldLink "ToneLinesModel" 172 "ToneLinesModel" "at" "I" ∈ TB := tbm (tc5 (List.mem_of_getElem? (i := 65) rfl)) rfl
theorem dX12_word_26 : decode cX12_word 26 = .ok (.aload_n 0, 1) := by decide +kernel
theorem dX12_word_27 : decode cX12_word 27 = .ok (.invokevirtual 191, 3) := by decide +kernel
theorem dX12_readsTones_0 : decode cX12_readsTones 0 = .ok (.aload_n 0, 1) := by decide +kernel
theorem dX12_readsTones_1 : decode cX12_readsTones 1 = .ok (.invokevirtual 179, 3) := by decide +kernel
theorem dX12_blanks_0 : decode cX12_blanks 0 = .ok (.aload_n 0, 1) := by decide +kernel
theorem dX12_blanks_1 : decode cX12_blanks 1 = .ok (.invokevirtual 175, 3) := by decide +kernel
theorem dX12_here_0 : decode cX12_here 0 = .ok (.aload_n 0, 1) := by decide +kernel
theorem dX12_here_1 : decode cX12_here 1 = .ok (.getfield 172, 3) := by decide +kernel
theorem dX12_here_4 : decode cX12_here 4 = .ok (.aload_n 0, 1) := by decide +kernel
theorem dX12_here_5 : decode cX12_here 5 = .ok (.getfield 169, 3) := by decide +kernel
theorem dX12_here_8 : decode cX12_here 8 = .ok (.if_icmp .ge 15, 3) := by decide +kernel
theorem dX12_here_23 : decode cX12_here 23 = .ok (.iconst (-1), 1) := by decide +kernel
theorem dX12_here_24 : decode cX12_here 24 = .ok (.ireturn, 1) := by decide +kernel
set_option maxRecDepth 4000 in
theorem c_X12_here_79 {l : Launch} {D : va_G} {B : Nat} {cy : Nat → ClassId} {M : Mem} (h0 : M.1 146 9 = 0) (h1 : M.1 146 8 = 0) : Ci l D B cy yX12_here cX12_here 1 (some .int) 0 0 [.ref (B + 146)] M (fun r M1 => r = (-1) ∧ M1 = M) := by
  refine s_any (by decide) (Nat.le_of_ble_eq_true rfl) ?_
  intro p e s m below meth c ls F hr hlocks w hl
  have F : CallFix p m c cX12_here 1 s _ TB RX12 := F
  have hx := F.1
  have hb := F.2.1
  have hl : lv_has ls 1 [(0, .ref (B + 146))] := hl
  refine lv_aload_n hx hb dX12_here_0 rfl (lv_at hl 0 rfl) ?_
  refine f_12_9 F w (a := 146) rfl tb_175 dX12_here_1 ?_
  refine r_val (v := 0) (h0) ?_
  refine lv_aload_n hx hb dX12_here_4 rfl (lv_at hl 0 rfl) ?_
  refine f_12_8 F w (a := 146) rfl tb_146 dX12_here_5 ?_
  refine r_val (v := 0) (h1) ?_
  refine lv_icmp_ge (tgt := 23) hx hb dX12_here_8 (by decide) (fun _ => ?_) (fun c1 => absurd c1 (by decide))
  refine lv_iconst (v := (-1)) hx hb dX12_here_23 (by decide) ?_
  exact e_i F w hr hlocks ⟨rfl, rfl⟩ dX12_here_24
theorem tk_X12_here : Cond.code yX12_here cX12_here 1 (some .int) ∈ TB := tbm (tc5 (List.mem_of_getElem? (i := 164) rfl)) rfl
theorem gc_X12_here : GoodIn TB (cw yX12_here cX12_here 1 (some .int)) := goodIn_c2 tk_X12_here
theorem tb_176 : Cond.methodLink "ToneLinesModel" 175 yX12_here ∈ TB := tbm (tc5 (List.mem_of_getElem? (i := 161) rfl)) rfl
theorem tb_177 : Cond.instanceMethod yX12_here ∈ TB := tbm (tc5 (List.mem_of_getElem? (i := 163) rfl)) rfl
theorem tb_178 : Cond.selects "ToneLinesModel" yX12_here yX12_here ∈ TB := tbp (List.mem_of_getElem? (i := 39) rfl) rfl
theorem gv_X12_175 : GoodIn TB (wsV RX12 175 RX12 yX12_here (cw yX12_here cX12_here 1 (some .int))) := goodIn_4 tb_176 tb_177 tb_178 tb_150 gc_X12_here
theorem hv_X12_here : yX12_here.cls = RX12 ∧ yX12_here.cls ≠ "java/lang/invoke/MethodHandle" ∧ yX12_here.cls ≠ "java/lang/invoke/VarHandle" ∧ (parseMethodDescriptor yX12_here.desc).map (fun d => d.parameters.length) = some 0 := by decide +kernel
theorem dX12_blanks_4 : decode cX12_blanks 4 = .ok (.bipush 32, 2) := by decide +kernel
theorem dX12_blanks_6 : decode cX12_blanks 6 = .ok (.if_icmp .ne 16, 3) := by decide +kernel
theorem dX12_blanks_22 : decode cX12_blanks 22 = .ok (.return_, 1) := by decide +kernel
set_option maxRecDepth 4000 in
theorem c_X12_blanks_80 {l : Launch} {D : va_G} {B : Nat} {cy : Nat → ClassId} {M : Mem} (h0 : M.1 146 9 = 0) (h1 : M.1 146 8 = 0) : Cv l D B cy yX12_blanks cX12_blanks 1 1 20 [.ref (B + 146)] M (fun M1 => M1 = M) := by
  refine s_any (by decide) (Nat.le_of_ble_eq_true rfl) ?_
  intro p e s m below meth c ls F hr hlocks w hl
  have F : CallFix p m c cX12_blanks 1 s _ TB RX12 := F
  have hx := F.1
  have hb := F.2.1
  have hl : lv_has ls 1 [(0, .ref (B + 146))] := hl
  refine lv_aload_n hx hb dX12_blanks_0 rfl (lv_at hl 0 rfl) ?_
  refine x_Vi F w (As := []) (rest := []) (a := 146) (by decide) (sh_12 rfl _ _) rfl (c_X12_here_79 (h0) (h1)) gv_X12_175 hv_X12_here ⟨Nat.le_of_ble_eq_true rfl, Nat.le_of_ble_eq_true rfl⟩ hl.1 rfl (Nat.le_of_ble_eq_true rfl) ⟨Nat.zero_le _, Nat.zero_le _⟩ dX12_blanks_1 (fun H locs w => ?_)
  refine lv_bipush (v := 32) hx hb dX12_blanks_4 (by decide) ?_
  refine lv_icmp_ne (tgt := 22) hx hb dX12_blanks_6 (by decide) (fun _ => ?_) (fun c1 => absurd c1 (by decide))
  exact e_v F w hr hlocks rfl dX12_blanks_22
theorem tk_X12_blanks : Cond.code yX12_blanks cX12_blanks 1 none ∈ TB := tbm (tc5 (List.mem_of_getElem? (i := 160) rfl)) rfl
theorem gc_X12_blanks : GoodIn TB (cw yX12_blanks cX12_blanks 1 none) := goodIn_c2 tk_X12_blanks
theorem tb_179 : Cond.methodLink "ToneLinesModel" 179 yX12_blanks ∈ TB := tbm (tc5 (List.mem_of_getElem? (i := 157) rfl)) rfl
theorem tb_180 : Cond.instanceMethod yX12_blanks ∈ TB := tbm (tc5 (List.mem_of_getElem? (i := 159) rfl)) rfl
theorem tb_181 : Cond.selects "ToneLinesModel" yX12_blanks yX12_blanks ∈ TB := tbp (List.mem_of_getElem? (i := 38) rfl) rfl
theorem gv_X12_179 : GoodIn TB (wsV RX12 179 RX12 yX12_blanks (cw yX12_blanks cX12_blanks 1 none)) := goodIn_4 tb_179 tb_180 tb_181 tb_150 gc_X12_blanks
theorem hv_X12_blanks : yX12_blanks.cls = RX12 ∧ yX12_blanks.cls ≠ "java/lang/invoke/MethodHandle" ∧ yX12_blanks.cls ≠ "java/lang/invoke/VarHandle" ∧ (parseMethodDescriptor yX12_blanks.desc).map (fun d => d.parameters.length) = some 0 := by decide +kernel
theorem dX12_readsTones_4 : decode cX12_readsTones 4 = .ok (.aload_n 0, 1) := by decide +kernel
theorem dX12_readsTones_5 : decode cX12_readsTones 5 = .ok (.invokevirtual 175, 3) := by decide +kernel
theorem dX12_readsTones_8 : decode cX12_readsTones 8 = .ok (.bipush 47, 2) := by decide +kernel
theorem dX12_readsTones_10 : decode cX12_readsTones 10 = .ok (.if_icmp .eq 89, 3) := by decide +kernel
theorem dX12_readsTones_13 : decode cX12_readsTones 13 = .ok (.aload_n 0, 1) := by decide +kernel
theorem dX12_readsTones_14 : decode cX12_readsTones 14 = .ok (.invokevirtual 175, 3) := by decide +kernel
theorem dX12_readsTones_17 : decode cX12_readsTones 17 = .ok (.istore_n 1, 1) := by decide +kernel
theorem dX12_readsTones_18 : decode cX12_readsTones 18 = .ok (.iload_n 1, 1) := by decide +kernel
theorem dX12_readsTones_19 : decode cX12_readsTones 19 = .ok (.bipush 108, 2) := by decide +kernel
theorem dX12_readsTones_21 : decode cX12_readsTones 21 = .ok (.if_icmp .ne 7, 3) := by decide +kernel
theorem dX12_readsTones_28 : decode cX12_readsTones 28 = .ok (.iload_n 1, 1) := by decide +kernel
theorem dX12_readsTones_29 : decode cX12_readsTones 29 = .ok (.bipush 109, 2) := by decide +kernel
theorem dX12_readsTones_31 : decode cX12_readsTones 31 = .ok (.if_icmp .ne 7, 3) := by decide +kernel
theorem dX12_readsTones_38 : decode cX12_readsTones 38 = .ok (.iload_n 1, 1) := by decide +kernel
theorem dX12_readsTones_39 : decode cX12_readsTones 39 = .ok (.bipush 104, 2) := by decide +kernel
theorem dX12_readsTones_41 : decode cX12_readsTones 41 = .ok (.if_icmp .ne 7, 3) := by decide +kernel
theorem dX12_readsTones_48 : decode cX12_readsTones 48 = .ok (.iconst (-1), 1) := by decide +kernel
theorem dX12_readsTones_49 : decode cX12_readsTones 49 = .ok (.istore_n 2, 1) := by decide +kernel
theorem dX12_readsTones_50 : decode cX12_readsTones 50 = .ok (.iload_n 2, 1) := by decide +kernel
theorem dX12_readsTones_51 : decode cX12_readsTones 51 = .ok (.iconst (-1), 1) := by decide +kernel
theorem dX12_readsTones_52 : decode cX12_readsTones 52 = .ok (.if_icmp .eq 14, 3) := by decide +kernel
theorem dX12_readsTones_66 : decode cX12_readsTones 66 = .ok (.iconst 0, 1) := by decide +kernel
theorem dX12_readsTones_67 : decode cX12_readsTones 67 = .ok (.ireturn, 1) := by decide +kernel
set_option maxRecDepth 4000 in
theorem c_X12_readsTones_81 {l : Launch} {D : va_G} {B : Nat} {cy : Nat → ClassId} {M : Mem} (h0 : M.1 146 9 = 0) (h1 : M.1 146 8 = 0) : Ci l D B cy yX12_readsTones cX12_readsTones 3 (some .boolean) 2 40 [.ref (B + 146)] M (fun r M1 => r = 0 ∧ M1 = M) := by
  refine s_any (by decide) (Nat.le_of_ble_eq_true rfl) ?_
  intro p e s m below meth c ls F hr hlocks w hl
  have F : CallFix p m c cX12_readsTones 3 s _ TB RX12 := F
  have hx := F.1
  have hb := F.2.1
  have hl : lv_has ls 3 [(0, .ref (B + 146))] := hl
  refine lv_aload_n hx hb dX12_readsTones_0 rfl (lv_at hl 0 rfl) ?_
  refine x_Vv F w (As := []) (rest := []) (a := 146) (by decide) (sh_12 rfl _ _) rfl (c_X12_blanks_80 (h0) (h1)) gv_X12_179 hv_X12_blanks ⟨Nat.le_of_ble_eq_true rfl, Nat.le_of_ble_eq_true rfl⟩ hl.1 rfl (Nat.le_of_ble_eq_true rfl) ⟨Nat.zero_le _, Nat.zero_le _⟩ dX12_readsTones_1 (fun H locs w => ?_)
  refine lv_aload_n hx hb dX12_readsTones_4 rfl (lv_at hl 0 rfl) ?_
  refine x_Vi F w (As := []) (rest := []) (a := 146) (by decide) (sh_12 rfl _ _) rfl (c_X12_here_79 (h0) (h1)) gv_X12_175 hv_X12_here ⟨Nat.le_of_ble_eq_true rfl, Nat.le_of_ble_eq_true rfl⟩ hl.1 rfl (Nat.le_of_ble_eq_true rfl) ⟨Nat.zero_le _, Nat.zero_le _⟩ dX12_readsTones_5 (fun H locs w => ?_)
  refine lv_bipush (v := 47) hx hb dX12_readsTones_8 (by decide) ?_
  refine lv_icmp_eq (tgt := 99) hx hb dX12_readsTones_10 (by decide) (fun c1 => absurd c1 (by decide)) (fun _ => ?_)
  refine lv_aload_n hx hb dX12_readsTones_13 rfl (lv_at hl 0 rfl) ?_
  refine x_Vi F w (As := []) (rest := []) (a := 146) (by decide) (sh_12 rfl _ _) rfl (c_X12_here_79 (h0) (h1)) gv_X12_175 hv_X12_here ⟨Nat.le_of_ble_eq_true rfl, Nat.le_of_ble_eq_true rfl⟩ hl.1 rfl (Nat.le_of_ble_eq_true rfl) ⟨Nat.zero_le _, Nat.zero_le _⟩ dX12_readsTones_14 (fun H locs w => ?_)
  refine lv_istore_n (lv' := [(1, .int (-1)), (0, .ref (B + 146))]) hx hb dX12_readsTones_17 rfl hl (by decide) rfl (fun ls hl => ?_)
  refine lv_iload_n hx hb dX12_readsTones_18 rfl (lv_at hl 0 rfl) ?_
  refine lv_bipush (v := 108) hx hb dX12_readsTones_19 (by decide) ?_
  refine lv_icmp_ne (tgt := 28) hx hb dX12_readsTones_21 (by decide) (fun _ => ?_) (fun c1 => absurd c1 (by decide))
  refine lv_iload_n hx hb dX12_readsTones_28 rfl (lv_at hl 0 rfl) ?_
  refine lv_bipush (v := 109) hx hb dX12_readsTones_29 (by decide) ?_
  refine lv_icmp_ne (tgt := 38) hx hb dX12_readsTones_31 (by decide) (fun _ => ?_) (fun c1 => absurd c1 (by decide))
  refine lv_iload_n hx hb dX12_readsTones_38 rfl (lv_at hl 0 rfl) ?_
  refine lv_bipush (v := 104) hx hb dX12_readsTones_39 (by decide) ?_
  refine lv_icmp_ne (tgt := 48) hx hb dX12_readsTones_41 (by decide) (fun _ => ?_) (fun c1 => absurd c1 (by decide))
  refine lv_iconst (v := (-1)) hx hb dX12_readsTones_48 (by decide) ?_
  refine lv_istore_n (lv' := [(2, .int (-1)), (1, .int (-1)), (0, .ref (B + 146))]) hx hb dX12_readsTones_49 rfl hl (by decide) rfl (fun ls hl => ?_)
  refine lv_iload_n hx hb dX12_readsTones_50 rfl (lv_at hl 0 rfl) ?_
  refine lv_iconst (v := (-1)) hx hb dX12_readsTones_51 (by decide) ?_
  refine lv_icmp_eq (tgt := 66) hx hb dX12_readsTones_52 (by decide) (fun _ => ?_) (fun c1 => absurd c1 (by decide))
  refine lv_iconst (v := 0) hx hb dX12_readsTones_66 (by decide) ?_
  exact e_z F w hr hlocks (by decide) ⟨rfl, rfl⟩ dX12_readsTones_67
theorem tk_X12_readsTones : Cond.code yX12_readsTones cX12_readsTones 3 (some .boolean) ∈ TB := tbm (tc5 (List.mem_of_getElem? (i := 156) rfl)) rfl
theorem gc_X12_readsTones : GoodIn TB (cw yX12_readsTones cX12_readsTones 3 (some .boolean)) := goodIn_c2 tk_X12_readsTones
theorem tb_182 : Cond.methodLink "ToneLinesModel" 191 yX12_readsTones ∈ TB := tbm (tc5 (List.mem_of_getElem? (i := 153) rfl)) rfl
theorem tb_183 : Cond.instanceMethod yX12_readsTones ∈ TB := tbm (tc5 (List.mem_of_getElem? (i := 155) rfl)) rfl
theorem tb_184 : Cond.selects "ToneLinesModel" yX12_readsTones yX12_readsTones ∈ TB := tbp (List.mem_of_getElem? (i := 37) rfl) rfl
theorem gv_X12_191 : GoodIn TB (wsV RX12 191 RX12 yX12_readsTones (cw yX12_readsTones cX12_readsTones 3 (some .boolean))) := goodIn_4 tb_182 tb_183 tb_184 tb_150 gc_X12_readsTones
theorem hv_X12_readsTones : yX12_readsTones.cls = RX12 ∧ yX12_readsTones.cls ≠ "java/lang/invoke/MethodHandle" ∧ yX12_readsTones.cls ≠ "java/lang/invoke/VarHandle" ∧ (parseMethodDescriptor yX12_readsTones.desc).map (fun d => d.parameters.length) = some 0 := by decide +kernel
theorem dX12_word_30 : decode cX12_word 30 = .ok (.ifCond .eq 21, 3) := by decide +kernel
theorem dX12_word_51 : decode cX12_word 51 = .ok (.iconst 0, 1) := by decide +kernel
theorem dX12_word_52 : decode cX12_word 52 = .ok (.istore_n 1, 1) := by decide +kernel
theorem dX12_word_53 : decode cX12_word 53 = .ok (.aload_n 0, 1) := by decide +kernel
theorem dX12_word_54 : decode cX12_word 54 = .ok (.iconst 0, 1) := by decide +kernel
theorem dX12_word_55 : decode cX12_word 55 = .ok (.putfield 169, 3) := by decide +kernel
theorem dX12_word_58 : decode cX12_word 58 = .ok (.iload_n 1, 1) := by decide +kernel
theorem dX12_word_59 : decode cX12_word 59 = .ok (.ifCond .ne 11, 3) := by decide +kernel
theorem dX12_word_62 : decode cX12_word 62 = .ok (.bipush (-4), 2) := by decide +kernel
theorem dX12_word_64 : decode cX12_word 64 = .ok (.aload_n 0, 1) := by decide +kernel
theorem dX12_word_65 : decode cX12_word 65 = .ok (.getfield 172, 3) := by decide +kernel
theorem dX12_word_68 : decode cX12_word 68 = .ok (.isub, 1) := by decide +kernel
theorem dX12_word_69 : decode cX12_word 69 = .ok (.ireturn, 1) := by decide +kernel
set_option maxRecDepth 4000 in
theorem c_X12_word_82 {l : Launch} {D : va_G} {B : Nat} {cy : Nat → ClassId} {M : Mem} (h0 : M.1 151 0 = 0) (h1 : M.1 151 1 = 0) (h2 : M.1 151 2 = 0) (h3 : M.1 151 3 = 0) (h4 : M.1 151 4 = 0) (h5 : M.1 151 5 = 0) (h6 : M.1 151 6 = 0) (h7 : M.1 151 7 = 0) (h8 : M.1 151 8 = 0) (h9 : M.1 151 9 = 0) (h10 : M.1 151 10 = 0) (h11 : M.1 151 11 = 0) (h12 : M.1 151 12 = 0) (h13 : M.1 151 13 = 0) (h14 : M.1 151 14 = 0) (h15 : M.1 151 15 = 0) (h16 : M.1 151 16 = 0) (h17 : M.1 151 17 = 0) (h18 : M.1 151 18 = 0) (h19 : M.1 151 19 = 0) (h20 : M.1 151 20 = 0) (h21 : M.1 151 21 = 0) (h22 : M.1 151 22 = 0) (h23 : M.1 151 23 = 0) (h24 : M.1 151 24 = 0) (h25 : M.1 151 25 = 0) (h26 : M.1 151 26 = 0) (h27 : M.1 151 27 = 0) (h28 : M.1 146 9 = 0) (h29 : M.1 146 8 = 0) : Ci l D B cy yX12_word cX12_word 2 (some .int) 3 62 [.ref (B + 146)] M (fun r M1 => r = (-4) ∧ M1 = M) := by
  refine s_any (by decide) (Nat.le_of_ble_eq_true rfl) ?_
  intro p e s m below meth c ls F hr hlocks w hl
  have F : CallFix p m c cX12_word 2 s _ TB RX12 := F
  have hx := F.1
  have hb := F.2.1
  have hl : lv_has ls 2 [(0, .ref (B + 146))] := hl
  refine lv_iconst (v := 0) hx hb dX12_word_0 (by decide) ?_
  refine lv_istore_n (lv' := [(1, .int 0), (0, .ref (B + 146))]) hx hb dX12_word_1 rfl hl (by decide) rfl (fun ls hl => ?_)
  refine lv_iload_n hx hb dX12_word_2 rfl (lv_at hl 0 rfl) ?_
  refine lv_bipush (v := 28) hx hb dX12_word_3 (by decide) ?_
  refine lv_icmp_ge (tgt := 21) hx hb dX12_word_5 (by decide) (fun c1 => absurd c1 (by decide)) (fun _ => ?_)
  refine lv_aload_n hx hb dX12_word_8 rfl (lv_at hl 1 rfl) ?_
  refine f_12_10 F w (a := 146) rfl tb_130 dX12_word_9 ?_
  refine lv_iload_n hx hb dX12_word_12 rfl (lv_at hl 0 rfl) ?_
  refine lv_iconst (v := 0) hx hb dX12_word_13 (by decide) ?_
  refine g_iast F w (a := 151) rfl (j := 0) ⟨by decide, by decide⟩ (by decide) dX12_word_14 (fun H locs w => ?_)
  rw [st_same (h0)] at w
  refine lv_iinc (v := 1) (lv' := [(1, .int 1), (0, .ref (B + 146))]) hx hb dX12_word_15 hl (k := 0) rfl (by decide) (by decide) rfl (fun ls hl => ?_)
  refine lv_goto (tgt := 2) hx hb dX12_word_18 (by decide) ?_
  refine lv_iload_n hx hb dX12_word_2 rfl (lv_at hl 0 rfl) ?_
  refine lv_bipush (v := 28) hx hb dX12_word_3 (by decide) ?_
  refine lv_icmp_ge (tgt := 21) hx hb dX12_word_5 (by decide) (fun c1 => absurd c1 (by decide)) (fun _ => ?_)
  refine lv_aload_n hx hb dX12_word_8 rfl (lv_at hl 1 rfl) ?_
  refine f_12_10 F w (a := 146) rfl tb_130 dX12_word_9 ?_
  refine lv_iload_n hx hb dX12_word_12 rfl (lv_at hl 0 rfl) ?_
  refine lv_iconst (v := 0) hx hb dX12_word_13 (by decide) ?_
  refine g_iast F w (a := 151) rfl (j := 1) ⟨by decide, by decide⟩ (by decide) dX12_word_14 (fun H locs w => ?_)
  rw [st_same (h1)] at w
  refine lv_iinc (v := 2) (lv' := [(1, .int 2), (0, .ref (B + 146))]) hx hb dX12_word_15 hl (k := 0) rfl (by decide) (by decide) rfl (fun ls hl => ?_)
  refine lv_goto (tgt := 2) hx hb dX12_word_18 (by decide) ?_
  refine lv_iload_n hx hb dX12_word_2 rfl (lv_at hl 0 rfl) ?_
  refine lv_bipush (v := 28) hx hb dX12_word_3 (by decide) ?_
  refine lv_icmp_ge (tgt := 21) hx hb dX12_word_5 (by decide) (fun c1 => absurd c1 (by decide)) (fun _ => ?_)
  refine lv_aload_n hx hb dX12_word_8 rfl (lv_at hl 1 rfl) ?_
  refine f_12_10 F w (a := 146) rfl tb_130 dX12_word_9 ?_
  refine lv_iload_n hx hb dX12_word_12 rfl (lv_at hl 0 rfl) ?_
  refine lv_iconst (v := 0) hx hb dX12_word_13 (by decide) ?_
  refine g_iast F w (a := 151) rfl (j := 2) ⟨by decide, by decide⟩ (by decide) dX12_word_14 (fun H locs w => ?_)
  rw [st_same (h2)] at w
  refine lv_iinc (v := 3) (lv' := [(1, .int 3), (0, .ref (B + 146))]) hx hb dX12_word_15 hl (k := 0) rfl (by decide) (by decide) rfl (fun ls hl => ?_)
  refine lv_goto (tgt := 2) hx hb dX12_word_18 (by decide) ?_
  refine lv_iload_n hx hb dX12_word_2 rfl (lv_at hl 0 rfl) ?_
  refine lv_bipush (v := 28) hx hb dX12_word_3 (by decide) ?_
  refine lv_icmp_ge (tgt := 21) hx hb dX12_word_5 (by decide) (fun c1 => absurd c1 (by decide)) (fun _ => ?_)
  refine lv_aload_n hx hb dX12_word_8 rfl (lv_at hl 1 rfl) ?_
  refine f_12_10 F w (a := 146) rfl tb_130 dX12_word_9 ?_
  refine lv_iload_n hx hb dX12_word_12 rfl (lv_at hl 0 rfl) ?_
  refine lv_iconst (v := 0) hx hb dX12_word_13 (by decide) ?_
  refine g_iast F w (a := 151) rfl (j := 3) ⟨by decide, by decide⟩ (by decide) dX12_word_14 (fun H locs w => ?_)
  rw [st_same (h3)] at w
  refine lv_iinc (v := 4) (lv' := [(1, .int 4), (0, .ref (B + 146))]) hx hb dX12_word_15 hl (k := 0) rfl (by decide) (by decide) rfl (fun ls hl => ?_)
  refine lv_goto (tgt := 2) hx hb dX12_word_18 (by decide) ?_
  refine lv_iload_n hx hb dX12_word_2 rfl (lv_at hl 0 rfl) ?_
  refine lv_bipush (v := 28) hx hb dX12_word_3 (by decide) ?_
  refine lv_icmp_ge (tgt := 21) hx hb dX12_word_5 (by decide) (fun c1 => absurd c1 (by decide)) (fun _ => ?_)
  refine lv_aload_n hx hb dX12_word_8 rfl (lv_at hl 1 rfl) ?_
  refine f_12_10 F w (a := 146) rfl tb_130 dX12_word_9 ?_
  refine lv_iload_n hx hb dX12_word_12 rfl (lv_at hl 0 rfl) ?_
  refine lv_iconst (v := 0) hx hb dX12_word_13 (by decide) ?_
  refine g_iast F w (a := 151) rfl (j := 4) ⟨by decide, by decide⟩ (by decide) dX12_word_14 (fun H locs w => ?_)
  rw [st_same (h4)] at w
  refine lv_iinc (v := 5) (lv' := [(1, .int 5), (0, .ref (B + 146))]) hx hb dX12_word_15 hl (k := 0) rfl (by decide) (by decide) rfl (fun ls hl => ?_)
  refine lv_goto (tgt := 2) hx hb dX12_word_18 (by decide) ?_
  refine lv_iload_n hx hb dX12_word_2 rfl (lv_at hl 0 rfl) ?_
  refine lv_bipush (v := 28) hx hb dX12_word_3 (by decide) ?_
  refine lv_icmp_ge (tgt := 21) hx hb dX12_word_5 (by decide) (fun c1 => absurd c1 (by decide)) (fun _ => ?_)
  refine lv_aload_n hx hb dX12_word_8 rfl (lv_at hl 1 rfl) ?_
  refine f_12_10 F w (a := 146) rfl tb_130 dX12_word_9 ?_
  refine lv_iload_n hx hb dX12_word_12 rfl (lv_at hl 0 rfl) ?_
  refine lv_iconst (v := 0) hx hb dX12_word_13 (by decide) ?_
  refine g_iast F w (a := 151) rfl (j := 5) ⟨by decide, by decide⟩ (by decide) dX12_word_14 (fun H locs w => ?_)
  rw [st_same (h5)] at w
  refine lv_iinc (v := 6) (lv' := [(1, .int 6), (0, .ref (B + 146))]) hx hb dX12_word_15 hl (k := 0) rfl (by decide) (by decide) rfl (fun ls hl => ?_)
  refine lv_goto (tgt := 2) hx hb dX12_word_18 (by decide) ?_
  refine lv_iload_n hx hb dX12_word_2 rfl (lv_at hl 0 rfl) ?_
  refine lv_bipush (v := 28) hx hb dX12_word_3 (by decide) ?_
  refine lv_icmp_ge (tgt := 21) hx hb dX12_word_5 (by decide) (fun c1 => absurd c1 (by decide)) (fun _ => ?_)
  refine lv_aload_n hx hb dX12_word_8 rfl (lv_at hl 1 rfl) ?_
  refine f_12_10 F w (a := 146) rfl tb_130 dX12_word_9 ?_
  refine lv_iload_n hx hb dX12_word_12 rfl (lv_at hl 0 rfl) ?_
  refine lv_iconst (v := 0) hx hb dX12_word_13 (by decide) ?_
  refine g_iast F w (a := 151) rfl (j := 6) ⟨by decide, by decide⟩ (by decide) dX12_word_14 (fun H locs w => ?_)
  rw [st_same (h6)] at w
  refine lv_iinc (v := 7) (lv' := [(1, .int 7), (0, .ref (B + 146))]) hx hb dX12_word_15 hl (k := 0) rfl (by decide) (by decide) rfl (fun ls hl => ?_)
  refine lv_goto (tgt := 2) hx hb dX12_word_18 (by decide) ?_
  refine lv_iload_n hx hb dX12_word_2 rfl (lv_at hl 0 rfl) ?_
  refine lv_bipush (v := 28) hx hb dX12_word_3 (by decide) ?_
  refine lv_icmp_ge (tgt := 21) hx hb dX12_word_5 (by decide) (fun c1 => absurd c1 (by decide)) (fun _ => ?_)
  refine lv_aload_n hx hb dX12_word_8 rfl (lv_at hl 1 rfl) ?_
  refine f_12_10 F w (a := 146) rfl tb_130 dX12_word_9 ?_
  refine lv_iload_n hx hb dX12_word_12 rfl (lv_at hl 0 rfl) ?_
  refine lv_iconst (v := 0) hx hb dX12_word_13 (by decide) ?_
  refine g_iast F w (a := 151) rfl (j := 7) ⟨by decide, by decide⟩ (by decide) dX12_word_14 (fun H locs w => ?_)
  rw [st_same (h7)] at w
  refine lv_iinc (v := 8) (lv' := [(1, .int 8), (0, .ref (B + 146))]) hx hb dX12_word_15 hl (k := 0) rfl (by decide) (by decide) rfl (fun ls hl => ?_)
  refine lv_goto (tgt := 2) hx hb dX12_word_18 (by decide) ?_
  refine lv_iload_n hx hb dX12_word_2 rfl (lv_at hl 0 rfl) ?_
  refine lv_bipush (v := 28) hx hb dX12_word_3 (by decide) ?_
  refine lv_icmp_ge (tgt := 21) hx hb dX12_word_5 (by decide) (fun c1 => absurd c1 (by decide)) (fun _ => ?_)
  refine lv_aload_n hx hb dX12_word_8 rfl (lv_at hl 1 rfl) ?_
  refine f_12_10 F w (a := 146) rfl tb_130 dX12_word_9 ?_
  refine lv_iload_n hx hb dX12_word_12 rfl (lv_at hl 0 rfl) ?_
  refine lv_iconst (v := 0) hx hb dX12_word_13 (by decide) ?_
  refine g_iast F w (a := 151) rfl (j := 8) ⟨by decide, by decide⟩ (by decide) dX12_word_14 (fun H locs w => ?_)
  rw [st_same (h8)] at w
  refine lv_iinc (v := 9) (lv' := [(1, .int 9), (0, .ref (B + 146))]) hx hb dX12_word_15 hl (k := 0) rfl (by decide) (by decide) rfl (fun ls hl => ?_)
  refine lv_goto (tgt := 2) hx hb dX12_word_18 (by decide) ?_
  refine lv_iload_n hx hb dX12_word_2 rfl (lv_at hl 0 rfl) ?_
  refine lv_bipush (v := 28) hx hb dX12_word_3 (by decide) ?_
  refine lv_icmp_ge (tgt := 21) hx hb dX12_word_5 (by decide) (fun c1 => absurd c1 (by decide)) (fun _ => ?_)
  refine lv_aload_n hx hb dX12_word_8 rfl (lv_at hl 1 rfl) ?_
  refine f_12_10 F w (a := 146) rfl tb_130 dX12_word_9 ?_
  refine lv_iload_n hx hb dX12_word_12 rfl (lv_at hl 0 rfl) ?_
  refine lv_iconst (v := 0) hx hb dX12_word_13 (by decide) ?_
  refine g_iast F w (a := 151) rfl (j := 9) ⟨by decide, by decide⟩ (by decide) dX12_word_14 (fun H locs w => ?_)
  rw [st_same (h9)] at w
  refine lv_iinc (v := 10) (lv' := [(1, .int 10), (0, .ref (B + 146))]) hx hb dX12_word_15 hl (k := 0) rfl (by decide) (by decide) rfl (fun ls hl => ?_)
  refine lv_goto (tgt := 2) hx hb dX12_word_18 (by decide) ?_
  refine lv_iload_n hx hb dX12_word_2 rfl (lv_at hl 0 rfl) ?_
  refine lv_bipush (v := 28) hx hb dX12_word_3 (by decide) ?_
  refine lv_icmp_ge (tgt := 21) hx hb dX12_word_5 (by decide) (fun c1 => absurd c1 (by decide)) (fun _ => ?_)
  refine lv_aload_n hx hb dX12_word_8 rfl (lv_at hl 1 rfl) ?_
  refine f_12_10 F w (a := 146) rfl tb_130 dX12_word_9 ?_
  refine lv_iload_n hx hb dX12_word_12 rfl (lv_at hl 0 rfl) ?_
  refine lv_iconst (v := 0) hx hb dX12_word_13 (by decide) ?_
  refine g_iast F w (a := 151) rfl (j := 10) ⟨by decide, by decide⟩ (by decide) dX12_word_14 (fun H locs w => ?_)
  rw [st_same (h10)] at w
  refine lv_iinc (v := 11) (lv' := [(1, .int 11), (0, .ref (B + 146))]) hx hb dX12_word_15 hl (k := 0) rfl (by decide) (by decide) rfl (fun ls hl => ?_)
  refine lv_goto (tgt := 2) hx hb dX12_word_18 (by decide) ?_
  refine lv_iload_n hx hb dX12_word_2 rfl (lv_at hl 0 rfl) ?_
  refine lv_bipush (v := 28) hx hb dX12_word_3 (by decide) ?_
  refine lv_icmp_ge (tgt := 21) hx hb dX12_word_5 (by decide) (fun c1 => absurd c1 (by decide)) (fun _ => ?_)
  refine lv_aload_n hx hb dX12_word_8 rfl (lv_at hl 1 rfl) ?_
  refine f_12_10 F w (a := 146) rfl tb_130 dX12_word_9 ?_
  refine lv_iload_n hx hb dX12_word_12 rfl (lv_at hl 0 rfl) ?_
  refine lv_iconst (v := 0) hx hb dX12_word_13 (by decide) ?_
  refine g_iast F w (a := 151) rfl (j := 11) ⟨by decide, by decide⟩ (by decide) dX12_word_14 (fun H locs w => ?_)
  rw [st_same (h11)] at w
  refine lv_iinc (v := 12) (lv' := [(1, .int 12), (0, .ref (B + 146))]) hx hb dX12_word_15 hl (k := 0) rfl (by decide) (by decide) rfl (fun ls hl => ?_)
  refine lv_goto (tgt := 2) hx hb dX12_word_18 (by decide) ?_
  refine lv_iload_n hx hb dX12_word_2 rfl (lv_at hl 0 rfl) ?_
  refine lv_bipush (v := 28) hx hb dX12_word_3 (by decide) ?_
  refine lv_icmp_ge (tgt := 21) hx hb dX12_word_5 (by decide) (fun c1 => absurd c1 (by decide)) (fun _ => ?_)
  refine lv_aload_n hx hb dX12_word_8 rfl (lv_at hl 1 rfl) ?_
  refine f_12_10 F w (a := 146) rfl tb_130 dX12_word_9 ?_
  refine lv_iload_n hx hb dX12_word_12 rfl (lv_at hl 0 rfl) ?_
  refine lv_iconst (v := 0) hx hb dX12_word_13 (by decide) ?_
  refine g_iast F w (a := 151) rfl (j := 12) ⟨by decide, by decide⟩ (by decide) dX12_word_14 (fun H locs w => ?_)
  rw [st_same (h12)] at w
  refine lv_iinc (v := 13) (lv' := [(1, .int 13), (0, .ref (B + 146))]) hx hb dX12_word_15 hl (k := 0) rfl (by decide) (by decide) rfl (fun ls hl => ?_)
  refine lv_goto (tgt := 2) hx hb dX12_word_18 (by decide) ?_
  refine lv_iload_n hx hb dX12_word_2 rfl (lv_at hl 0 rfl) ?_
  refine lv_bipush (v := 28) hx hb dX12_word_3 (by decide) ?_
  refine lv_icmp_ge (tgt := 21) hx hb dX12_word_5 (by decide) (fun c1 => absurd c1 (by decide)) (fun _ => ?_)
  refine lv_aload_n hx hb dX12_word_8 rfl (lv_at hl 1 rfl) ?_
  refine f_12_10 F w (a := 146) rfl tb_130 dX12_word_9 ?_
  refine lv_iload_n hx hb dX12_word_12 rfl (lv_at hl 0 rfl) ?_
  refine lv_iconst (v := 0) hx hb dX12_word_13 (by decide) ?_
  refine g_iast F w (a := 151) rfl (j := 13) ⟨by decide, by decide⟩ (by decide) dX12_word_14 (fun H locs w => ?_)
  rw [st_same (h13)] at w
  refine lv_iinc (v := 14) (lv' := [(1, .int 14), (0, .ref (B + 146))]) hx hb dX12_word_15 hl (k := 0) rfl (by decide) (by decide) rfl (fun ls hl => ?_)
  refine lv_goto (tgt := 2) hx hb dX12_word_18 (by decide) ?_
  refine lv_iload_n hx hb dX12_word_2 rfl (lv_at hl 0 rfl) ?_
  refine lv_bipush (v := 28) hx hb dX12_word_3 (by decide) ?_
  refine lv_icmp_ge (tgt := 21) hx hb dX12_word_5 (by decide) (fun c1 => absurd c1 (by decide)) (fun _ => ?_)
  refine lv_aload_n hx hb dX12_word_8 rfl (lv_at hl 1 rfl) ?_
  refine f_12_10 F w (a := 146) rfl tb_130 dX12_word_9 ?_
  refine lv_iload_n hx hb dX12_word_12 rfl (lv_at hl 0 rfl) ?_
  refine lv_iconst (v := 0) hx hb dX12_word_13 (by decide) ?_
  refine g_iast F w (a := 151) rfl (j := 14) ⟨by decide, by decide⟩ (by decide) dX12_word_14 (fun H locs w => ?_)
  rw [st_same (h14)] at w
  refine lv_iinc (v := 15) (lv' := [(1, .int 15), (0, .ref (B + 146))]) hx hb dX12_word_15 hl (k := 0) rfl (by decide) (by decide) rfl (fun ls hl => ?_)
  refine lv_goto (tgt := 2) hx hb dX12_word_18 (by decide) ?_
  refine lv_iload_n hx hb dX12_word_2 rfl (lv_at hl 0 rfl) ?_
  refine lv_bipush (v := 28) hx hb dX12_word_3 (by decide) ?_
  refine lv_icmp_ge (tgt := 21) hx hb dX12_word_5 (by decide) (fun c1 => absurd c1 (by decide)) (fun _ => ?_)
  refine lv_aload_n hx hb dX12_word_8 rfl (lv_at hl 1 rfl) ?_
  refine f_12_10 F w (a := 146) rfl tb_130 dX12_word_9 ?_
  refine lv_iload_n hx hb dX12_word_12 rfl (lv_at hl 0 rfl) ?_
  refine lv_iconst (v := 0) hx hb dX12_word_13 (by decide) ?_
  refine g_iast F w (a := 151) rfl (j := 15) ⟨by decide, by decide⟩ (by decide) dX12_word_14 (fun H locs w => ?_)
  rw [st_same (h15)] at w
  refine lv_iinc (v := 16) (lv' := [(1, .int 16), (0, .ref (B + 146))]) hx hb dX12_word_15 hl (k := 0) rfl (by decide) (by decide) rfl (fun ls hl => ?_)
  refine lv_goto (tgt := 2) hx hb dX12_word_18 (by decide) ?_
  refine lv_iload_n hx hb dX12_word_2 rfl (lv_at hl 0 rfl) ?_
  refine lv_bipush (v := 28) hx hb dX12_word_3 (by decide) ?_
  refine lv_icmp_ge (tgt := 21) hx hb dX12_word_5 (by decide) (fun c1 => absurd c1 (by decide)) (fun _ => ?_)
  refine lv_aload_n hx hb dX12_word_8 rfl (lv_at hl 1 rfl) ?_
  refine f_12_10 F w (a := 146) rfl tb_130 dX12_word_9 ?_
  refine lv_iload_n hx hb dX12_word_12 rfl (lv_at hl 0 rfl) ?_
  refine lv_iconst (v := 0) hx hb dX12_word_13 (by decide) ?_
  refine g_iast F w (a := 151) rfl (j := 16) ⟨by decide, by decide⟩ (by decide) dX12_word_14 (fun H locs w => ?_)
  rw [st_same (h16)] at w
  refine lv_iinc (v := 17) (lv' := [(1, .int 17), (0, .ref (B + 146))]) hx hb dX12_word_15 hl (k := 0) rfl (by decide) (by decide) rfl (fun ls hl => ?_)
  refine lv_goto (tgt := 2) hx hb dX12_word_18 (by decide) ?_
  refine lv_iload_n hx hb dX12_word_2 rfl (lv_at hl 0 rfl) ?_
  refine lv_bipush (v := 28) hx hb dX12_word_3 (by decide) ?_
  refine lv_icmp_ge (tgt := 21) hx hb dX12_word_5 (by decide) (fun c1 => absurd c1 (by decide)) (fun _ => ?_)
  refine lv_aload_n hx hb dX12_word_8 rfl (lv_at hl 1 rfl) ?_
  refine f_12_10 F w (a := 146) rfl tb_130 dX12_word_9 ?_
  refine lv_iload_n hx hb dX12_word_12 rfl (lv_at hl 0 rfl) ?_
  refine lv_iconst (v := 0) hx hb dX12_word_13 (by decide) ?_
  refine g_iast F w (a := 151) rfl (j := 17) ⟨by decide, by decide⟩ (by decide) dX12_word_14 (fun H locs w => ?_)
  rw [st_same (h17)] at w
  refine lv_iinc (v := 18) (lv' := [(1, .int 18), (0, .ref (B + 146))]) hx hb dX12_word_15 hl (k := 0) rfl (by decide) (by decide) rfl (fun ls hl => ?_)
  refine lv_goto (tgt := 2) hx hb dX12_word_18 (by decide) ?_
  refine lv_iload_n hx hb dX12_word_2 rfl (lv_at hl 0 rfl) ?_
  refine lv_bipush (v := 28) hx hb dX12_word_3 (by decide) ?_
  refine lv_icmp_ge (tgt := 21) hx hb dX12_word_5 (by decide) (fun c1 => absurd c1 (by decide)) (fun _ => ?_)
  refine lv_aload_n hx hb dX12_word_8 rfl (lv_at hl 1 rfl) ?_
  refine f_12_10 F w (a := 146) rfl tb_130 dX12_word_9 ?_
  refine lv_iload_n hx hb dX12_word_12 rfl (lv_at hl 0 rfl) ?_
  refine lv_iconst (v := 0) hx hb dX12_word_13 (by decide) ?_
  refine g_iast F w (a := 151) rfl (j := 18) ⟨by decide, by decide⟩ (by decide) dX12_word_14 (fun H locs w => ?_)
  rw [st_same (h18)] at w
  refine lv_iinc (v := 19) (lv' := [(1, .int 19), (0, .ref (B + 146))]) hx hb dX12_word_15 hl (k := 0) rfl (by decide) (by decide) rfl (fun ls hl => ?_)
  refine lv_goto (tgt := 2) hx hb dX12_word_18 (by decide) ?_
  refine lv_iload_n hx hb dX12_word_2 rfl (lv_at hl 0 rfl) ?_
  refine lv_bipush (v := 28) hx hb dX12_word_3 (by decide) ?_
  refine lv_icmp_ge (tgt := 21) hx hb dX12_word_5 (by decide) (fun c1 => absurd c1 (by decide)) (fun _ => ?_)
  refine lv_aload_n hx hb dX12_word_8 rfl (lv_at hl 1 rfl) ?_
  refine f_12_10 F w (a := 146) rfl tb_130 dX12_word_9 ?_
  refine lv_iload_n hx hb dX12_word_12 rfl (lv_at hl 0 rfl) ?_
  refine lv_iconst (v := 0) hx hb dX12_word_13 (by decide) ?_
  refine g_iast F w (a := 151) rfl (j := 19) ⟨by decide, by decide⟩ (by decide) dX12_word_14 (fun H locs w => ?_)
  rw [st_same (h19)] at w
  refine lv_iinc (v := 20) (lv' := [(1, .int 20), (0, .ref (B + 146))]) hx hb dX12_word_15 hl (k := 0) rfl (by decide) (by decide) rfl (fun ls hl => ?_)
  refine lv_goto (tgt := 2) hx hb dX12_word_18 (by decide) ?_
  refine lv_iload_n hx hb dX12_word_2 rfl (lv_at hl 0 rfl) ?_
  refine lv_bipush (v := 28) hx hb dX12_word_3 (by decide) ?_
  refine lv_icmp_ge (tgt := 21) hx hb dX12_word_5 (by decide) (fun c1 => absurd c1 (by decide)) (fun _ => ?_)
  refine lv_aload_n hx hb dX12_word_8 rfl (lv_at hl 1 rfl) ?_
  refine f_12_10 F w (a := 146) rfl tb_130 dX12_word_9 ?_
  refine lv_iload_n hx hb dX12_word_12 rfl (lv_at hl 0 rfl) ?_
  refine lv_iconst (v := 0) hx hb dX12_word_13 (by decide) ?_
  refine g_iast F w (a := 151) rfl (j := 20) ⟨by decide, by decide⟩ (by decide) dX12_word_14 (fun H locs w => ?_)
  rw [st_same (h20)] at w
  refine lv_iinc (v := 21) (lv' := [(1, .int 21), (0, .ref (B + 146))]) hx hb dX12_word_15 hl (k := 0) rfl (by decide) (by decide) rfl (fun ls hl => ?_)
  refine lv_goto (tgt := 2) hx hb dX12_word_18 (by decide) ?_
  refine lv_iload_n hx hb dX12_word_2 rfl (lv_at hl 0 rfl) ?_
  refine lv_bipush (v := 28) hx hb dX12_word_3 (by decide) ?_
  refine lv_icmp_ge (tgt := 21) hx hb dX12_word_5 (by decide) (fun c1 => absurd c1 (by decide)) (fun _ => ?_)
  refine lv_aload_n hx hb dX12_word_8 rfl (lv_at hl 1 rfl) ?_
  refine f_12_10 F w (a := 146) rfl tb_130 dX12_word_9 ?_
  refine lv_iload_n hx hb dX12_word_12 rfl (lv_at hl 0 rfl) ?_
  refine lv_iconst (v := 0) hx hb dX12_word_13 (by decide) ?_
  refine g_iast F w (a := 151) rfl (j := 21) ⟨by decide, by decide⟩ (by decide) dX12_word_14 (fun H locs w => ?_)
  rw [st_same (h21)] at w
  refine lv_iinc (v := 22) (lv' := [(1, .int 22), (0, .ref (B + 146))]) hx hb dX12_word_15 hl (k := 0) rfl (by decide) (by decide) rfl (fun ls hl => ?_)
  refine lv_goto (tgt := 2) hx hb dX12_word_18 (by decide) ?_
  refine lv_iload_n hx hb dX12_word_2 rfl (lv_at hl 0 rfl) ?_
  refine lv_bipush (v := 28) hx hb dX12_word_3 (by decide) ?_
  refine lv_icmp_ge (tgt := 21) hx hb dX12_word_5 (by decide) (fun c1 => absurd c1 (by decide)) (fun _ => ?_)
  refine lv_aload_n hx hb dX12_word_8 rfl (lv_at hl 1 rfl) ?_
  refine f_12_10 F w (a := 146) rfl tb_130 dX12_word_9 ?_
  refine lv_iload_n hx hb dX12_word_12 rfl (lv_at hl 0 rfl) ?_
  refine lv_iconst (v := 0) hx hb dX12_word_13 (by decide) ?_
  refine g_iast F w (a := 151) rfl (j := 22) ⟨by decide, by decide⟩ (by decide) dX12_word_14 (fun H locs w => ?_)
  rw [st_same (h22)] at w
  refine lv_iinc (v := 23) (lv' := [(1, .int 23), (0, .ref (B + 146))]) hx hb dX12_word_15 hl (k := 0) rfl (by decide) (by decide) rfl (fun ls hl => ?_)
  refine lv_goto (tgt := 2) hx hb dX12_word_18 (by decide) ?_
  refine lv_iload_n hx hb dX12_word_2 rfl (lv_at hl 0 rfl) ?_
  refine lv_bipush (v := 28) hx hb dX12_word_3 (by decide) ?_
  refine lv_icmp_ge (tgt := 21) hx hb dX12_word_5 (by decide) (fun c1 => absurd c1 (by decide)) (fun _ => ?_)
  refine lv_aload_n hx hb dX12_word_8 rfl (lv_at hl 1 rfl) ?_
  refine f_12_10 F w (a := 146) rfl tb_130 dX12_word_9 ?_
  refine lv_iload_n hx hb dX12_word_12 rfl (lv_at hl 0 rfl) ?_
  refine lv_iconst (v := 0) hx hb dX12_word_13 (by decide) ?_
  refine g_iast F w (a := 151) rfl (j := 23) ⟨by decide, by decide⟩ (by decide) dX12_word_14 (fun H locs w => ?_)
  rw [st_same (h23)] at w
  refine lv_iinc (v := 24) (lv' := [(1, .int 24), (0, .ref (B + 146))]) hx hb dX12_word_15 hl (k := 0) rfl (by decide) (by decide) rfl (fun ls hl => ?_)
  refine lv_goto (tgt := 2) hx hb dX12_word_18 (by decide) ?_
  refine lv_iload_n hx hb dX12_word_2 rfl (lv_at hl 0 rfl) ?_
  refine lv_bipush (v := 28) hx hb dX12_word_3 (by decide) ?_
  refine lv_icmp_ge (tgt := 21) hx hb dX12_word_5 (by decide) (fun c1 => absurd c1 (by decide)) (fun _ => ?_)
  refine lv_aload_n hx hb dX12_word_8 rfl (lv_at hl 1 rfl) ?_
  refine f_12_10 F w (a := 146) rfl tb_130 dX12_word_9 ?_
  refine lv_iload_n hx hb dX12_word_12 rfl (lv_at hl 0 rfl) ?_
  refine lv_iconst (v := 0) hx hb dX12_word_13 (by decide) ?_
  refine g_iast F w (a := 151) rfl (j := 24) ⟨by decide, by decide⟩ (by decide) dX12_word_14 (fun H locs w => ?_)
  rw [st_same (h24)] at w
  refine lv_iinc (v := 25) (lv' := [(1, .int 25), (0, .ref (B + 146))]) hx hb dX12_word_15 hl (k := 0) rfl (by decide) (by decide) rfl (fun ls hl => ?_)
  refine lv_goto (tgt := 2) hx hb dX12_word_18 (by decide) ?_
  refine lv_iload_n hx hb dX12_word_2 rfl (lv_at hl 0 rfl) ?_
  refine lv_bipush (v := 28) hx hb dX12_word_3 (by decide) ?_
  refine lv_icmp_ge (tgt := 21) hx hb dX12_word_5 (by decide) (fun c1 => absurd c1 (by decide)) (fun _ => ?_)
  refine lv_aload_n hx hb dX12_word_8 rfl (lv_at hl 1 rfl) ?_
  refine f_12_10 F w (a := 146) rfl tb_130 dX12_word_9 ?_
  refine lv_iload_n hx hb dX12_word_12 rfl (lv_at hl 0 rfl) ?_
  refine lv_iconst (v := 0) hx hb dX12_word_13 (by decide) ?_
  refine g_iast F w (a := 151) rfl (j := 25) ⟨by decide, by decide⟩ (by decide) dX12_word_14 (fun H locs w => ?_)
  rw [st_same (h25)] at w
  refine lv_iinc (v := 26) (lv' := [(1, .int 26), (0, .ref (B + 146))]) hx hb dX12_word_15 hl (k := 0) rfl (by decide) (by decide) rfl (fun ls hl => ?_)
  refine lv_goto (tgt := 2) hx hb dX12_word_18 (by decide) ?_
  refine lv_iload_n hx hb dX12_word_2 rfl (lv_at hl 0 rfl) ?_
  refine lv_bipush (v := 28) hx hb dX12_word_3 (by decide) ?_
  refine lv_icmp_ge (tgt := 21) hx hb dX12_word_5 (by decide) (fun c1 => absurd c1 (by decide)) (fun _ => ?_)
  refine lv_aload_n hx hb dX12_word_8 rfl (lv_at hl 1 rfl) ?_
  refine f_12_10 F w (a := 146) rfl tb_130 dX12_word_9 ?_
  refine lv_iload_n hx hb dX12_word_12 rfl (lv_at hl 0 rfl) ?_
  refine lv_iconst (v := 0) hx hb dX12_word_13 (by decide) ?_
  refine g_iast F w (a := 151) rfl (j := 26) ⟨by decide, by decide⟩ (by decide) dX12_word_14 (fun H locs w => ?_)
  rw [st_same (h26)] at w
  refine lv_iinc (v := 27) (lv' := [(1, .int 27), (0, .ref (B + 146))]) hx hb dX12_word_15 hl (k := 0) rfl (by decide) (by decide) rfl (fun ls hl => ?_)
  refine lv_goto (tgt := 2) hx hb dX12_word_18 (by decide) ?_
  refine lv_iload_n hx hb dX12_word_2 rfl (lv_at hl 0 rfl) ?_
  refine lv_bipush (v := 28) hx hb dX12_word_3 (by decide) ?_
  refine lv_icmp_ge (tgt := 21) hx hb dX12_word_5 (by decide) (fun c1 => absurd c1 (by decide)) (fun _ => ?_)
  refine lv_aload_n hx hb dX12_word_8 rfl (lv_at hl 1 rfl) ?_
  refine f_12_10 F w (a := 146) rfl tb_130 dX12_word_9 ?_
  refine lv_iload_n hx hb dX12_word_12 rfl (lv_at hl 0 rfl) ?_
  refine lv_iconst (v := 0) hx hb dX12_word_13 (by decide) ?_
  refine g_iast F w (a := 151) rfl (j := 27) ⟨by decide, by decide⟩ (by decide) dX12_word_14 (fun H locs w => ?_)
  rw [st_same (h27)] at w
  refine lv_iinc (v := 28) (lv' := [(1, .int 28), (0, .ref (B + 146))]) hx hb dX12_word_15 hl (k := 0) rfl (by decide) (by decide) rfl (fun ls hl => ?_)
  refine lv_goto (tgt := 2) hx hb dX12_word_18 (by decide) ?_
  refine lv_iload_n hx hb dX12_word_2 rfl (lv_at hl 0 rfl) ?_
  refine lv_bipush (v := 28) hx hb dX12_word_3 (by decide) ?_
  refine lv_icmp_ge (tgt := 21) hx hb dX12_word_5 (by decide) (fun _ => ?_) (fun c1 => absurd c1 (by decide))
  refine lv_aload_n hx hb dX12_word_21 rfl (lv_at hl 1 rfl) ?_
  refine lv_iconst (v := 0) hx hb dX12_word_22 (by decide) ?_
  refine u_12_9 F w (a := 146) rfl tb_175 dX12_word_23 (fun H locs w => ?_)
  rw [st_same (h28)] at w
  refine lv_aload_n hx hb dX12_word_26 rfl (lv_at hl 1 rfl) ?_
  refine x_Vi F w (As := []) (rest := []) (a := 146) (by decide) (sh_12 rfl _ _) rfl (c_X12_readsTones_81 (h28) (h29)) gv_X12_191 hv_X12_readsTones ⟨Nat.le_of_ble_eq_true rfl, Nat.le_of_ble_eq_true rfl⟩ hl.1 rfl (Nat.le_of_ble_eq_true rfl) ⟨Nat.zero_le _, Nat.zero_le _⟩ dX12_word_27 (fun H locs w => ?_)
  refine lv_if_eq (tgt := 51) hx hb dX12_word_30 (by decide) (fun _ => ?_) (fun c1 => absurd c1 (by decide))
  refine lv_iconst (v := 0) hx hb dX12_word_51 (by decide) ?_
  refine lv_istore_n (lv' := [(1, .int 0), (0, .ref (B + 146))]) hx hb dX12_word_52 rfl hl (by decide) rfl (fun ls hl => ?_)
  refine lv_aload_n hx hb dX12_word_53 rfl (lv_at hl 1 rfl) ?_
  refine lv_iconst (v := 0) hx hb dX12_word_54 (by decide) ?_
  refine u_12_8 F w (a := 146) rfl tb_146 dX12_word_55 (fun H locs w => ?_)
  rw [st_same (h29)] at w
  refine lv_iload_n hx hb dX12_word_58 rfl (lv_at hl 0 rfl) ?_
  refine lv_if_ne (tgt := 70) hx hb dX12_word_59 (by decide) (fun c1 => absurd c1 (by decide)) (fun _ => ?_)
  refine lv_bipush (v := (-4)) hx hb dX12_word_62 (by decide) ?_
  refine lv_aload_n hx hb dX12_word_64 rfl (lv_at hl 1 rfl) ?_
  refine f_12_9 F w (a := 146) rfl tb_175 dX12_word_65 ?_
  refine r_val (v := 0) (h28) ?_
  refine lv_isub hx hb dX12_word_68 ?_
  refine r_val (v := (-4)) (by decide) ?_
  exact e_i F w hr hlocks ⟨rfl, rfl⟩ dX12_word_69
theorem tk_X12_word : Cond.code yX12_word cX12_word 2 (some .int) ∈ TB := tbm (tc5 (List.mem_of_getElem? (i := 152) rfl)) rfl
theorem gc_X12_word : GoodIn TB (cw yX12_word cX12_word 2 (some .int)) := goodIn_c2 tk_X12_word
theorem tb_185 : Cond.methodLink "ToneLinesLaw" 27 yX12_word ∈ TB := tbm (tc5 (List.mem_of_getElem? (i := 149) rfl)) rfl
theorem tb_186 : Cond.instanceMethod yX12_word ∈ TB := tbm (tc5 (List.mem_of_getElem? (i := 150) rfl)) rfl
theorem tb_187 : Cond.selects "ToneLinesModel" yX12_word yX12_word ∈ TB := tbm (tc5 (List.mem_of_getElem? (i := 151) rfl)) rfl
theorem gv_L_27 : GoodIn TB (wsV RL 27 RX12 yX12_word (cw yX12_word cX12_word 2 (some .int))) := goodIn_4 tb_185 tb_186 tb_187 tb_150 gc_X12_word
theorem hv_X12_word : yX12_word.cls = RX12 ∧ yX12_word.cls ≠ "java/lang/invoke/MethodHandle" ∧ yX12_word.cls ≠ "java/lang/invoke/VarHandle" ∧ (parseMethodDescriptor yX12_word.desc).map (fun d => d.parameters.length) = some 0 := by decide +kernel
theorem dL_law_258 : decode cL_law 258 = .ok (.if_icmp .eq 807, 3) := by decide +kernel
set_option maxRecDepth 8000 in
theorem la_2_5 {p : Program} {l : Launch} {e : Env} {s : State} {m : MethodId} {below : List Frame} {meth : Method} {c : Code} {D : va_G} {B b : Nat} {cy : Nat → ClassId} {H : Heap} {locs : List Loc} {ls : Array Slot} {xs : Nat → Int32} {Q : State → Prop} (F : CallFix p m c code 4 s #[Value.ref b] TB RL) (hX : va_X b 6 xs s s.heap) (hbl : b < s.heap.size) (hbA : ¬ B ≤ b) (w : Wd D B cy s s.heap M0 H locs) (hl : lv_has ls 4 [(3, .int 0), (2, .ref (B + 146)), (1, .ref (B + 0)), (0, .ref b)]) (kk : ∀ (M1 : Mem) (H1 : Heap) (locs1 : List Loc), Wd D B cy s s.heap M1 H1 locs1 → W p l e room_1 s m #[Value.ref b] below meth c H1 locs1 159 13107 Q (F0 m 1065 ls [])) : W p l e room_1 s m #[Value.ref b] below meth c H locs 159 13107 Q (F0 m 250 ls []) := by
  have hx := F.1
  have hb := F.2.1
  refine lv_aload_n hx hb dL_law_250 rfl (lv_at hl 2 rfl) ?_
  refine x_Vi F w (As := []) (rest := []) (a := 0) (by decide) (sh_11 rfl _ _) rfl (c_X11_word_78 (rfl) (rfl) (rfl) (rfl) (rfl) (rfl)) gv_L_23 hv_X11_word ⟨Nat.le_of_ble_eq_true rfl, Nat.le_of_ble_eq_true rfl⟩ hl.1 rfl (Nat.le_of_ble_eq_true rfl) ⟨Nat.le_of_ble_eq_true rfl, Nat.le_of_ble_eq_true rfl⟩ dL_law_251 (fun H locs w => ?_)
  refine lv_aload_n hx hb dL_law_254 rfl (lv_at hl 1 rfl) ?_
  refine x_Vi F w (As := []) (rest := [.int (-4)]) (a := 146) (by decide) (sh_12 rfl _ _) rfl (c_X12_word_82 (rfl) (rfl) (rfl) (rfl) (rfl) (rfl) (rfl) (rfl) (rfl) (rfl) (rfl) (rfl) (rfl) (rfl) (rfl) (rfl) (rfl) (rfl) (rfl) (rfl) (rfl) (rfl) (rfl) (rfl) (rfl) (rfl) (rfl) (rfl) (rfl) (rfl)) gv_L_27 hv_X12_word ⟨Nat.le_of_ble_eq_true rfl, Nat.le_of_ble_eq_true rfl⟩ hl.1 rfl (Nat.le_of_ble_eq_true rfl) ⟨Nat.le_of_ble_eq_true rfl, Nat.le_of_ble_eq_true rfl⟩ dL_law_255 (fun H locs w => ?_)
  refine lv_icmp_eq (tgt := 1065) hx hb dL_law_258 (by decide) (fun _ => ?_) (fun c1 => absurd c1 (by decide))
  exact kk _ _ _ w
set_option maxRecDepth 8000 in
theorem lc_2 {p : Program} {l : Launch} {e : Env} {s : State} {m : MethodId} {below : List Frame} {meth : Method} {c : Code} {D : va_G} {B b : Nat} {cy : Nat → ClassId} {H : Heap} {locs : List Loc} {ls : Array Slot} {xs : Nat → Int32} {Q : State → Prop} (F : CallFix p m c code 4 s #[Value.ref b] TB RL) (hX : va_X b 6 xs s s.heap) (hbl : b < s.heap.size) (hbA : ¬ B ≤ b) (w : Wd D B cy s s.heap M0 H locs) (hl : lv_has ls 4 [(3, .int 0), (2, .ref (B + 146)), (1, .ref (B + 0)), (0, .ref b)]) (kk : ∀ (M1 : Mem) (H1 : Heap) (locs1 : List Loc), Wd D B cy s s.heap M1 H1 locs1 → W p l e room_1 s m #[Value.ref b] below meth c H1 locs1 159 13107 Q (F0 m 1065 ls [])) : W p l e room_1 s m #[Value.ref b] below meth c H locs 159 13107 Q (F0 m 250 ls []) := by
  exact la_2_5 F hX hbl hbA w hl  kk
theorem dL_law_263 : decode cL_law 263 = .ok (.aload_n 1, 1) := by decide +kernel
theorem dL_law_264 : decode cL_law 264 = .ok (.invokevirtual 28, 3) := by decide +kernel
theorem dX11_rules_0 : decode cX11_rules 0 = .ok (.aload_n 0, 1) := by decide +kernel
theorem dX11_rules_1 : decode cX11_rules 1 = .ok (.getfield 28, 3) := by decide +kernel
theorem dX11_rules_4 : decode cX11_rules 4 = .ok (.invokevirtual 103, 3) := by decide +kernel
theorem dX5_faultOfText_0 : decode cX5_faultOfText 0 = .ok (.aload_n 0, 1) := by decide +kernel
theorem dX5_faultOfText_1 : decode cX5_faultOfText 1 = .ok (.iconst 0, 1) := by decide +kernel
theorem dX5_faultOfText_2 : decode cX5_faultOfText 2 = .ok (.putfield 17, 3) := by decide +kernel
theorem dX5_faultOfText_5 : decode cX5_faultOfText 5 = .ok (.aload_n 0, 1) := by decide +kernel
theorem dX5_faultOfText_6 : decode cX5_faultOfText 6 = .ok (.iconst 0, 1) := by decide +kernel
theorem dX5_faultOfText_7 : decode cX5_faultOfText 7 = .ok (.putfield 24, 3) := by decide +kernel
theorem dX5_faultOfText_10 : decode cX5_faultOfText 10 = .ok (.aload_n 0, 1) := by decide +kernel
theorem dX5_faultOfText_11 : decode cX5_faultOfText 11 = .ok (.invokevirtual 36, 3) := by decide +kernel
theorem dX5_step_0 : decode cX5_step 0 = .ok (.aload_n 0, 1) := by decide +kernel
theorem dX5_step_1 : decode cX5_step 1 = .ok (.getfield 24, 3) := by decide +kernel
theorem dX5_step_4 : decode cX5_step 4 = .ok (.istore_n 1, 1) := by decide +kernel
theorem dX5_step_5 : decode cX5_step 5 = .ok (.aload_n 0, 1) := by decide +kernel
theorem dX5_step_6 : decode cX5_step 6 = .ok (.aload_n 0, 1) := by decide +kernel
theorem dX5_step_7 : decode cX5_step 7 = .ok (.getfield 31, 3) := by decide +kernel
theorem dX5_step_10 : decode cX5_step 10 = .ok (.iload_n 1, 1) := by decide +kernel
theorem dX5_step_11 : decode cX5_step 11 = .ok (.invokevirtual 48, 3) := by decide +kernel
theorem tb_188 : Cond.methodLink "ToneLines$RuleReader" 48 yX8_skipBlanks ∈ TB := tbm (tc3 (List.mem_of_getElem? (i := 45) rfl)) rfl
theorem gv_X5_48 : GoodIn TB (wsV RX5 48 RX8 yX8_skipBlanks (cw yX8_skipBlanks cX8_skipBlanks 3 (some .int))) := goodIn_4 tb_188 tb_163 tb_164 tb_5 gc_X8_skipBlanks
theorem dX5_step_14 : decode cX5_step 14 = .ok (.putfield 21, 3) := by decide +kernel
theorem dX5_step_17 : decode cX5_step 17 = .ok (.aload_n 0, 1) := by decide +kernel
theorem dX5_step_18 : decode cX5_step 18 = .ok (.aload_n 0, 1) := by decide +kernel
theorem dX5_step_19 : decode cX5_step 19 = .ok (.getfield 21, 3) := by decide +kernel
theorem dX5_step_22 : decode cX5_step 22 = .ok (.putfield 24, 3) := by decide +kernel
theorem dX5_step_25 : decode cX5_step 25 = .ok (.aload_n 0, 1) := by decide +kernel
theorem dX5_step_26 : decode cX5_step 26 = .ok (.getfield 24, 3) := by decide +kernel
theorem dX5_step_29 : decode cX5_step 29 = .ok (.aload_n 0, 1) := by decide +kernel
theorem dX5_step_30 : decode cX5_step 30 = .ok (.getfield 31, 3) := by decide +kernel
theorem dX5_step_33 : decode cX5_step 33 = .ok (.getfield 39, 3) := by decide +kernel
theorem tb_189 : Cond.fieldLink "ToneLines$RuleReader" 39 "ToneLines$Tape" "size" "I" ∈ TB := tbm (tc1 (List.mem_of_getElem? (i := 40) rfl)) rfl
theorem dX5_step_36 : decode cX5_step 36 = .ok (.if_icmp .ge 33, 3) := by decide +kernel
theorem dX5_step_69 : decode cX5_step 69 = .ok (.aload_n 0, 1) := by decide +kernel
theorem dX5_step_70 : decode cX5_step 70 = .ok (.getfield 24, 3) := by decide +kernel
theorem dX5_step_73 : decode cX5_step 73 = .ok (.aload_n 0, 1) := by decide +kernel
theorem dX5_step_74 : decode cX5_step 74 = .ok (.getfield 21, 3) := by decide +kernel
theorem dX5_step_77 : decode cX5_step 77 = .ok (.if_icmp .ne 27, 3) := by decide +kernel
theorem dX5_step_80 : decode cX5_step 80 = .ok (.aload_n 0, 1) := by decide +kernel
theorem dX5_step_81 : decode cX5_step 81 = .ok (.getfield 24, 3) := by decide +kernel
theorem dX5_step_84 : decode cX5_step 84 = .ok (.aload_n 0, 1) := by decide +kernel
theorem dX5_step_85 : decode cX5_step 85 = .ok (.getfield 31, 3) := by decide +kernel
theorem dX5_step_88 : decode cX5_step 88 = .ok (.getfield 39, 3) := by decide +kernel
theorem dX5_step_91 : decode cX5_step 91 = .ok (.if_icmp .ge 13, 3) := by decide +kernel
theorem dX5_step_104 : decode cX5_step 104 = .ok (.aload_n 0, 1) := by decide +kernel
theorem dX5_step_105 : decode cX5_step 105 = .ok (.aload_n 0, 1) := by decide +kernel
theorem dX5_step_106 : decode cX5_step 106 = .ok (.getfield 21, 3) := by decide +kernel
theorem dX5_step_109 : decode cX5_step 109 = .ok (.iload_n 1, 1) := by decide +kernel
theorem dX5_step_110 : decode cX5_step 110 = .ok (.if_icmp .ne 40, 3) := by decide +kernel
theorem dX5_step_113 : decode cX5_step 113 = .ok (.aload_n 0, 1) := by decide +kernel
theorem dX5_step_114 : decode cX5_step 114 = .ok (.getfield 31, 3) := by decide +kernel
theorem dX5_step_117 : decode cX5_step 117 = .ok (.iload_n 1, 1) := by decide +kernel
theorem dX5_step_118 : decode cX5_step 118 = .ok (.iconst 1, 1) := by decide +kernel
theorem dX5_step_119 : decode cX5_step 119 = .ok (.isub, 1) := by decide +kernel
theorem dX5_step_120 : decode cX5_step 120 = .ok (.invokevirtual 52, 3) := by decide +kernel
theorem dX8_signAt_0 : decode cX8_signAt 0 = .ok (.iload_n 1, 1) := by decide +kernel
theorem dX8_signAt_1 : decode cX8_signAt 1 = .ok (.ifCond .lt 31, 3) := by decide +kernel
theorem dX8_signAt_32 : decode cX8_signAt 32 = .ok (.iconst (-1), 1) := by decide +kernel
theorem dX8_signAt_33 : decode cX8_signAt 33 = .ok (.ireturn, 1) := by decide +kernel
set_option maxRecDepth 4000 in
theorem c_X8_signAt_83 {l : Launch} {D : va_G} {B : Nat} {cy : Nat → ClassId} {M : Mem} : Ci l D B cy yX8_signAt cX8_signAt 2 (some .int) 0 0 [.ref (B + 1), .int (-1)] M (fun r M1 => r = (-1) ∧ M1 = M) := by
  refine s_any (by decide) (Nat.le_of_ble_eq_true rfl) ?_
  intro p e s m below meth c ls F hr hlocks w hl
  have F : CallFix p m c cX8_signAt 2 s _ TB RX8 := F
  have hx := F.1
  have hb := F.2.1
  have hl : lv_has ls 2 [(0, .ref (B + 1)), (1, .int (-1))] := hl
  refine lv_iload_n hx hb dX8_signAt_0 rfl (lv_at hl 1 rfl) ?_
  refine lv_if_lt (tgt := 32) hx hb dX8_signAt_1 (by decide) (fun _ => ?_) (fun c1 => absurd c1 (by decide))
  refine lv_iconst (v := (-1)) hx hb dX8_signAt_32 (by decide) ?_
  exact e_i F w hr hlocks ⟨rfl, rfl⟩ dX8_signAt_33
theorem tk_X8_signAt : Cond.code yX8_signAt cX8_signAt 2 (some .int) ∈ TB := tbm (tc2 (List.mem_of_getElem? (i := 123) rfl)) rfl
theorem gc_X8_signAt : GoodIn TB (cw yX8_signAt cX8_signAt 2 (some .int)) := goodIn_c2 tk_X8_signAt
theorem tb_190 : Cond.methodLink "ToneLines$RuleReader" 52 yX8_signAt ∈ TB := tbm (tc3 (List.mem_of_getElem? (i := 46) rfl)) rfl
theorem tb_191 : Cond.instanceMethod yX8_signAt ∈ TB := tbm (tc2 (List.mem_of_getElem? (i := 121) rfl)) rfl
theorem tb_192 : Cond.selects "ToneLines$Tape" yX8_signAt yX8_signAt ∈ TB := tbm (tc2 (List.mem_of_getElem? (i := 122) rfl)) rfl
theorem gv_X5_52 : GoodIn TB (wsV RX5 52 RX8 yX8_signAt (cw yX8_signAt cX8_signAt 2 (some .int))) := goodIn_4 tb_190 tb_191 tb_192 tb_5 gc_X8_signAt
theorem hv_X8_signAt : yX8_signAt.cls = RX8 ∧ yX8_signAt.cls ≠ "java/lang/invoke/MethodHandle" ∧ yX8_signAt.cls ≠ "java/lang/invoke/VarHandle" ∧ (parseMethodDescriptor yX8_signAt.desc).map (fun d => d.parameters.length) = some 1 := by decide +kernel
theorem dX5_step_123 : decode cX5_step 123 = .ok (.invokestatic 59, 3) := by decide +kernel
theorem dX5_needsBlank_0 : decode cX5_needsBlank 0 = .ok (.iload_n 0, 1) := by decide +kernel
theorem dX5_needsBlank_1 : decode cX5_needsBlank 1 = .ok (.bipush 97, 2) := by decide +kernel
theorem dX5_needsBlank_3 : decode cX5_needsBlank 3 = .ok (.if_icmp .lt 9, 3) := by decide +kernel
theorem dX5_needsBlank_12 : decode cX5_needsBlank 12 = .ok (.iload_n 0, 1) := by decide +kernel
theorem dX5_needsBlank_13 : decode cX5_needsBlank 13 = .ok (.bipush 48, 2) := by decide +kernel
theorem dX5_needsBlank_15 : decode cX5_needsBlank 15 = .ok (.if_icmp .lt 13, 3) := by decide +kernel
theorem dX5_needsBlank_28 : decode cX5_needsBlank 28 = .ok (.iconst 0, 1) := by decide +kernel
theorem dX5_needsBlank_29 : decode cX5_needsBlank 29 = .ok (.ireturn, 1) := by decide +kernel
set_option maxRecDepth 4000 in
theorem c_X5_needsBlank_84 {l : Launch} {D : va_G} {B : Nat} {cy : Nat → ClassId} {M : Mem} : Ci l D B cy yX5_needsBlank cX5_needsBlank 1 (some .boolean) 0 0 [.int (-1)] M (fun r M1 => r = 0 ∧ M1 = M) := by
  refine s_any (by decide) (Nat.le_of_ble_eq_true rfl) ?_
  intro p e s m below meth c ls F hr hlocks w hl
  have F : CallFix p m c cX5_needsBlank 1 s _ TB RX5 := F
  have hx := F.1
  have hb := F.2.1
  have hl : lv_has ls 1 [(0, .int (-1))] := hl
  refine lv_iload_n hx hb dX5_needsBlank_0 rfl (lv_at hl 0 rfl) ?_
  refine lv_bipush (v := 97) hx hb dX5_needsBlank_1 (by decide) ?_
  refine lv_icmp_lt (tgt := 12) hx hb dX5_needsBlank_3 (by decide) (fun _ => ?_) (fun c1 => absurd c1 (by decide))
  refine lv_iload_n hx hb dX5_needsBlank_12 rfl (lv_at hl 0 rfl) ?_
  refine lv_bipush (v := 48) hx hb dX5_needsBlank_13 (by decide) ?_
  refine lv_icmp_lt (tgt := 28) hx hb dX5_needsBlank_15 (by decide) (fun _ => ?_) (fun c1 => absurd c1 (by decide))
  refine lv_iconst (v := 0) hx hb dX5_needsBlank_28 (by decide) ?_
  exact e_z F w hr hlocks (by decide) ⟨rfl, rfl⟩ dX5_needsBlank_29
theorem tk_X5_needsBlank : Cond.code yX5_needsBlank cX5_needsBlank 1 (some .boolean) ∈ TB := tbm (tc3 (List.mem_of_getElem? (i := 52) rfl)) rfl
theorem gc_X5_needsBlank : GoodIn TB (cw yX5_needsBlank cX5_needsBlank 1 (some .boolean)) := goodIn_c2 tk_X5_needsBlank
theorem tb_193 : Cond.methodLink "ToneLines$RuleReader" 59 yX5_needsBlank ∈ TB := tbm (tc3 (List.mem_of_getElem? (i := 50) rfl)) rfl
theorem tb_194 : Cond.static yX5_needsBlank ∈ TB := tbm (tc3 (List.mem_of_getElem? (i := 51) rfl)) rfl
theorem gs_X5_59 : GoodIn TB (va_wsS RX5 59 yX5_needsBlank (cw yX5_needsBlank cX5_needsBlank 1 (some .boolean))) := goodIn_3 tb_193 tb_194 tb_23 gc_X5_needsBlank
theorem hs_X5_needsBlank : yX5_needsBlank.cls ≠ "java/lang/invoke/MethodHandle" ∧ yX5_needsBlank.cls ≠ "java/lang/invoke/VarHandle" ∧ (parseMethodDescriptor yX5_needsBlank.desc).map (fun d => d.parameters.length) = some 1 := by decide +kernel
theorem dX5_step_126 : decode cX5_step 126 = .ok (.ifCond .eq 24, 3) := by decide +kernel
theorem dX5_step_150 : decode cX5_step 150 = .ok (.iconst 0, 1) := by decide +kernel
theorem dX5_step_151 : decode cX5_step 151 = .ok (.putfield 27, 3) := by decide +kernel
theorem dX5_step_154 : decode cX5_step 154 = .ok (.return_, 1) := by decide +kernel
set_option maxRecDepth 4000 in
theorem c_X5_step_85 {l : Launch} {D : va_G} {B : Nat} {cy : Nat → ClassId} {M : Mem} (h0 : M.1 4 4 = 0) (h1 : M.1 1 1 = 0) (h2 : M.1 4 3 = 0) (h3 : M.1 4 5 = 0) : Cv l D B cy yX5_step cX5_step 2 1 22 [.ref (B + 4)] M (fun M1 => M1 = M) := by
  refine s_any (by decide) (Nat.le_of_ble_eq_true rfl) ?_
  intro p e s m below meth c ls F hr hlocks w hl
  have F : CallFix p m c cX5_step 2 s _ TB RX5 := F
  have hx := F.1
  have hb := F.2.1
  have hl : lv_has ls 2 [(0, .ref (B + 4))] := hl
  refine lv_aload_n hx hb dX5_step_0 rfl (lv_at hl 0 rfl) ?_
  refine f_5_4 F w (a := 4) rfl tb_29 dX5_step_1 ?_
  refine r_val (v := 0) (h0) ?_
  refine lv_istore_n (lv' := [(1, .int 0), (0, .ref (B + 4))]) hx hb dX5_step_4 rfl hl (by decide) rfl (fun ls hl => ?_)
  refine lv_aload_n hx hb dX5_step_5 rfl (lv_at hl 1 rfl) ?_
  refine lv_aload_n hx hb dX5_step_6 rfl (lv_at hl 1 rfl) ?_
  refine f_5_0 F w (a := 4) rfl tb_31 dX5_step_7 ?_
  refine lv_iload_n hx hb dX5_step_10 rfl (lv_at hl 0 rfl) ?_
  refine x_Vi F w (As := [.int 0]) (rest := [.ref (B + 4)]) (a := 1) (by decide) (sh_8 rfl _ _) rfl (c_X8_skipBlanks_75 (h1)) gv_X5_48 hv_X8_skipBlanks ⟨Nat.le_of_ble_eq_true rfl, Nat.le_of_ble_eq_true rfl⟩ hl.1 rfl (Nat.le_of_ble_eq_true rfl) ⟨Nat.zero_le _, Nat.zero_le _⟩ dX5_step_11 (fun H locs w => ?_)
  refine u_5_3 F w (a := 4) rfl tb_28 dX5_step_14 (fun H locs w => ?_)
  rw [st_same (h2)] at w
  refine lv_aload_n hx hb dX5_step_17 rfl (lv_at hl 1 rfl) ?_
  refine lv_aload_n hx hb dX5_step_18 rfl (lv_at hl 1 rfl) ?_
  refine f_5_3 F w (a := 4) rfl tb_28 dX5_step_19 ?_
  refine r_val (v := 0) (h2) ?_
  refine u_5_4 F w (a := 4) rfl tb_29 dX5_step_22 (fun H locs w => ?_)
  rw [st_same (h0)] at w
  refine lv_aload_n hx hb dX5_step_25 rfl (lv_at hl 1 rfl) ?_
  refine f_5_4 F w (a := 4) rfl tb_29 dX5_step_26 ?_
  refine r_val (v := 0) (h0) ?_
  refine lv_aload_n hx hb dX5_step_29 rfl (lv_at hl 1 rfl) ?_
  refine f_5_0 F w (a := 4) rfl tb_31 dX5_step_30 ?_
  refine f_8_1 F w (a := 1) rfl tb_189 dX5_step_33 ?_
  refine r_val (v := 0) (h1) ?_
  refine lv_icmp_ge (tgt := 69) hx hb dX5_step_36 (by decide) (fun _ => ?_) (fun c1 => absurd c1 (by decide))
  refine lv_aload_n hx hb dX5_step_69 rfl (lv_at hl 1 rfl) ?_
  refine f_5_4 F w (a := 4) rfl tb_29 dX5_step_70 ?_
  refine r_val (v := 0) (h0) ?_
  refine lv_aload_n hx hb dX5_step_73 rfl (lv_at hl 1 rfl) ?_
  refine f_5_3 F w (a := 4) rfl tb_28 dX5_step_74 ?_
  refine r_val (v := 0) (h2) ?_
  refine lv_icmp_ne (tgt := 104) hx hb dX5_step_77 (by decide) (fun c1 => absurd c1 (by decide)) (fun _ => ?_)
  refine lv_aload_n hx hb dX5_step_80 rfl (lv_at hl 1 rfl) ?_
  refine f_5_4 F w (a := 4) rfl tb_29 dX5_step_81 ?_
  refine r_val (v := 0) (h0) ?_
  refine lv_aload_n hx hb dX5_step_84 rfl (lv_at hl 1 rfl) ?_
  refine f_5_0 F w (a := 4) rfl tb_31 dX5_step_85 ?_
  refine f_8_1 F w (a := 1) rfl tb_189 dX5_step_88 ?_
  refine r_val (v := 0) (h1) ?_
  refine lv_icmp_ge (tgt := 104) hx hb dX5_step_91 (by decide) (fun _ => ?_) (fun c1 => absurd c1 (by decide))
  refine lv_aload_n hx hb dX5_step_104 rfl (lv_at hl 1 rfl) ?_
  refine lv_aload_n hx hb dX5_step_105 rfl (lv_at hl 1 rfl) ?_
  refine f_5_3 F w (a := 4) rfl tb_28 dX5_step_106 ?_
  refine r_val (v := 0) (h2) ?_
  refine lv_iload_n hx hb dX5_step_109 rfl (lv_at hl 0 rfl) ?_
  refine lv_icmp_ne (tgt := 150) hx hb dX5_step_110 (by decide) (fun c1 => absurd c1 (by decide)) (fun _ => ?_)
  refine lv_aload_n hx hb dX5_step_113 rfl (lv_at hl 1 rfl) ?_
  refine f_5_0 F w (a := 4) rfl tb_31 dX5_step_114 ?_
  refine lv_iload_n hx hb dX5_step_117 rfl (lv_at hl 0 rfl) ?_
  refine lv_iconst (v := 1) hx hb dX5_step_118 (by decide) ?_
  refine lv_isub hx hb dX5_step_119 ?_
  refine r_val (v := (-1)) (by decide) ?_
  refine x_Vi F w (As := [.int (-1)]) (rest := [.ref (B + 4)]) (a := 1) (by decide) (sh_8 rfl _ _) rfl (c_X8_signAt_83) gv_X5_52 hv_X8_signAt ⟨Nat.le_of_ble_eq_true rfl, Nat.le_of_ble_eq_true rfl⟩ hl.1 rfl (Nat.le_of_ble_eq_true rfl) ⟨Nat.zero_le _, Nat.zero_le _⟩ dX5_step_120 (fun H locs w => ?_)
  refine x_Si F w (As := [.int (-1)]) (rest := [.ref (B + 4)]) (c_X5_needsBlank_84) gs_X5_59 hs_X5_needsBlank ⟨Nat.le_of_ble_eq_true rfl, Nat.le_of_ble_eq_true rfl⟩ hl.1 rfl (Nat.le_of_ble_eq_true rfl) ⟨Nat.zero_le _, Nat.zero_le _⟩ dX5_step_123 (fun H locs w => ?_)
  refine lv_if_eq (tgt := 150) hx hb dX5_step_126 (by decide) (fun _ => ?_) (fun c1 => absurd c1 (by decide))
  refine lv_iconst (v := 0) hx hb dX5_step_150 (by decide) ?_
  refine u_5_5 F w (a := 4) rfl (by decide) (by decide) tb_30 dX5_step_151 (fun H locs w => ?_)
  rw [st_same (h3)] at w
  exact e_v F w hr hlocks rfl dX5_step_154
theorem tk_X5_step : Cond.code yX5_step cX5_step 2 none ∈ TB := tbm (tc3 (List.mem_of_getElem? (i := 44) rfl)) rfl
theorem gc_X5_step : GoodIn TB (cw yX5_step cX5_step 2 none) := goodIn_c2 tk_X5_step
theorem tb_195 : Cond.methodLink "ToneLines$RuleReader" 36 yX5_step ∈ TB := tbm (tc3 (List.mem_of_getElem? (i := 41) rfl)) rfl
theorem tb_196 : Cond.instanceMethod yX5_step ∈ TB := tbm (tc3 (List.mem_of_getElem? (i := 43) rfl)) rfl
theorem tb_197 : Cond.selects "ToneLines$RuleReader" yX5_step yX5_step ∈ TB := tbp (List.mem_of_getElem? (i := 6) rfl) rfl
theorem gv_X5_36 : GoodIn TB (wsV RX5 36 RX5 yX5_step (cw yX5_step cX5_step 2 none)) := goodIn_4 tb_195 tb_196 tb_197 tb_23 gc_X5_step
theorem hv_X5_step : yX5_step.cls = RX5 ∧ yX5_step.cls ≠ "java/lang/invoke/MethodHandle" ∧ yX5_step.cls ≠ "java/lang/invoke/VarHandle" ∧ (parseMethodDescriptor yX5_step.desc).map (fun d => d.parameters.length) = some 0 := by decide +kernel
theorem dX5_faultOfText_14 : decode cX5_faultOfText 14 = .ok (.aload_n 0, 1) := by decide +kernel
theorem dX5_faultOfText_15 : decode cX5_faultOfText 15 = .ok (.getfield 21, 3) := by decide +kernel
theorem dX5_faultOfText_18 : decode cX5_faultOfText 18 = .ok (.aload_n 0, 1) := by decide +kernel
theorem dX5_faultOfText_19 : decode cX5_faultOfText 19 = .ok (.getfield 31, 3) := by decide +kernel
theorem dX5_faultOfText_22 : decode cX5_faultOfText 22 = .ok (.getfield 39, 3) := by decide +kernel
theorem dX5_faultOfText_25 : decode cX5_faultOfText 25 = .ok (.if_icmp .ge 46, 3) := by decide +kernel
theorem dX5_faultOfText_71 : decode cX5_faultOfText 71 = .ok (.iconst (-1), 1) := by decide +kernel
theorem dX5_faultOfText_72 : decode cX5_faultOfText 72 = .ok (.ireturn, 1) := by decide +kernel
set_option maxRecDepth 4000 in
theorem c_X5_faultOfText_86 {l : Launch} {D : va_G} {B : Nat} {cy : Nat → ClassId} {M : Mem} (h0 : M.1 4 2 = 0) (h1 : M.1 4 4 = 0) (h2 : M.1 1 1 = 0) (h3 : M.1 4 3 = 0) (h4 : M.1 4 5 = 0) : Ci l D B cy yX5_faultOfText cX5_faultOfText 1 (some .int) 2 43 [.ref (B + 4)] M (fun r M1 => r = (-1) ∧ M1 = M) := by
  refine s_any (by decide) (Nat.le_of_ble_eq_true rfl) ?_
  intro p e s m below meth c ls F hr hlocks w hl
  have F : CallFix p m c cX5_faultOfText 1 s _ TB RX5 := F
  have hx := F.1
  have hb := F.2.1
  have hl : lv_has ls 1 [(0, .ref (B + 4))] := hl
  refine lv_aload_n hx hb dX5_faultOfText_0 rfl (lv_at hl 0 rfl) ?_
  refine lv_iconst (v := 0) hx hb dX5_faultOfText_1 (by decide) ?_
  refine u_5_2 F w (a := 4) rfl tb_27 dX5_faultOfText_2 (fun H locs w => ?_)
  rw [st_same (h0)] at w
  refine lv_aload_n hx hb dX5_faultOfText_5 rfl (lv_at hl 0 rfl) ?_
  refine lv_iconst (v := 0) hx hb dX5_faultOfText_6 (by decide) ?_
  refine u_5_4 F w (a := 4) rfl tb_29 dX5_faultOfText_7 (fun H locs w => ?_)
  rw [st_same (h1)] at w
  refine lv_aload_n hx hb dX5_faultOfText_10 rfl (lv_at hl 0 rfl) ?_
  refine x_Vv F w (As := []) (rest := []) (a := 4) (by decide) (sh_5 rfl _ _) rfl (c_X5_step_85 (h1) (h2) (h3) (h4)) gv_X5_36 hv_X5_step ⟨Nat.le_of_ble_eq_true rfl, Nat.le_of_ble_eq_true rfl⟩ hl.1 rfl (Nat.le_of_ble_eq_true rfl) ⟨Nat.zero_le _, Nat.zero_le _⟩ dX5_faultOfText_11 (fun H locs w => ?_)
  refine lv_aload_n hx hb dX5_faultOfText_14 rfl (lv_at hl 0 rfl) ?_
  refine f_5_3 F w (a := 4) rfl tb_28 dX5_faultOfText_15 ?_
  refine r_val (v := 0) (h3) ?_
  refine lv_aload_n hx hb dX5_faultOfText_18 rfl (lv_at hl 0 rfl) ?_
  refine f_5_0 F w (a := 4) rfl tb_31 dX5_faultOfText_19 ?_
  refine f_8_1 F w (a := 1) rfl tb_189 dX5_faultOfText_22 ?_
  refine r_val (v := 0) (h2) ?_
  refine lv_icmp_ge (tgt := 71) hx hb dX5_faultOfText_25 (by decide) (fun _ => ?_) (fun c1 => absurd c1 (by decide))
  refine lv_iconst (v := (-1)) hx hb dX5_faultOfText_71 (by decide) ?_
  exact e_i F w hr hlocks ⟨rfl, rfl⟩ dX5_faultOfText_72
theorem tk_X5_faultOfText : Cond.code yX5_faultOfText cX5_faultOfText 1 (some .int) ∈ TB := tbm (tc3 (List.mem_of_getElem? (i := 40) rfl)) rfl
theorem gc_X5_faultOfText : GoodIn TB (cw yX5_faultOfText cX5_faultOfText 1 (some .int)) := goodIn_c2 tk_X5_faultOfText
theorem tb_198 : Cond.methodLink "ToneLines" 103 yX5_faultOfText ∈ TB := tbm (tc3 (List.mem_of_getElem? (i := 37) rfl)) rfl
theorem tb_199 : Cond.instanceMethod yX5_faultOfText ∈ TB := tbm (tc3 (List.mem_of_getElem? (i := 38) rfl)) rfl
theorem tb_200 : Cond.selects "ToneLines$RuleReader" yX5_faultOfText yX5_faultOfText ∈ TB := tbm (tc3 (List.mem_of_getElem? (i := 39) rfl)) rfl
theorem gv_X11_103 : GoodIn TB (wsV RX11 103 RX5 yX5_faultOfText (cw yX5_faultOfText cX5_faultOfText 1 (some .int))) := goodIn_4 tb_198 tb_199 tb_200 tb_23 gc_X5_faultOfText
theorem hv_X5_faultOfText : yX5_faultOfText.cls = RX5 ∧ yX5_faultOfText.cls ≠ "java/lang/invoke/MethodHandle" ∧ yX5_faultOfText.cls ≠ "java/lang/invoke/VarHandle" ∧ (parseMethodDescriptor yX5_faultOfText.desc).map (fun d => d.parameters.length) = some 0 := by decide +kernel
theorem dX11_rules_7 : decode cX11_rules 7 = .ok (.istore_n 1, 1) := by decide +kernel
theorem dX11_rules_8 : decode cX11_rules 8 = .ok (.aload_n 0, 1) := by decide +kernel
theorem dX11_rules_9 : decode cX11_rules 9 = .ok (.getfield 12, 3) := by decide +kernel
theorem dX11_rules_12 : decode cX11_rules 12 = .ok (.iconst 0, 1) := by decide +kernel
theorem dX11_rules_13 : decode cX11_rules 13 = .ok (.putfield 78, 3) := by decide +kernel
theorem dX11_rules_16 : decode cX11_rules 16 = .ok (.iload_n 1, 1) := by decide +kernel
theorem dX11_rules_17 : decode cX11_rules 17 = .ok (.iconst (-1), 1) := by decide +kernel
theorem dX11_rules_18 : decode cX11_rules 18 = .ok (.if_icmp .eq 8, 3) := by decide +kernel
theorem dX11_rules_26 : decode cX11_rules 26 = .ok (.aload_n 0, 1) := by decide +kernel
theorem dX11_rules_27 : decode cX11_rules 27 = .ok (.getfield 35, 3) := by decide +kernel
theorem dX11_rules_30 : decode cX11_rules 30 = .ok (.aload_n 0, 1) := by decide +kernel
theorem dX11_rules_31 : decode cX11_rules 31 = .ok (.getfield 28, 3) := by decide +kernel
theorem dX11_rules_34 : decode cX11_rules 34 = .ok (.getfield 107, 3) := by decide +kernel
theorem tb_201 : Cond.fieldLink "ToneLines" 107 "ToneLines$RuleReader" "drafts" "[LToneLines$Rule;" ∈ TB := tbm (tc1 (List.mem_of_getElem? (i := 84) rfl)) rfl
theorem dX11_rules_37 : decode cX11_rules 37 = .ok (.aload_n 0, 1) := by decide +kernel
theorem dX11_rules_38 : decode cX11_rules 38 = .ok (.getfield 28, 3) := by decide +kernel
theorem dX11_rules_41 : decode cX11_rules 41 = .ok (.getfield 111, 3) := by decide +kernel
theorem tb_202 : Cond.fieldLink "ToneLines" 111 "ToneLines$RuleReader" "read" "I" ∈ TB := tbm (tc1 (List.mem_of_getElem? (i := 86) rfl)) rfl
theorem dX11_rules_44 : decode cX11_rules 44 = .ok (.invokevirtual 114, 3) := by decide +kernel
theorem dX0_takeRules_0 : decode cX0_takeRules 0 = .ok (.aload_n 0, 1) := by decide +kernel
theorem dX0_takeRules_1 : decode cX0_takeRules 1 = .ok (.iload_n 2, 1) := by decide +kernel
theorem dX0_takeRules_2 : decode cX0_takeRules 2 = .ok (.bipush 8, 2) := by decide +kernel
theorem dX0_takeRules_4 : decode cX0_takeRules 4 = .ok (.invokestatic 50, 3) := by decide +kernel
theorem tb_203 : Cond.methodLink "ToneLines$Derivation" 50 yJ9_min_7cf53 ∈ TB := tbm (tc3 (List.mem_of_getElem? (i := 127) rfl)) rfl
theorem tb_204 : Cond.static yJ9_min_7cf53 ∈ TB := tbm (tc2 (List.mem_of_getElem? (i := 157) rfl)) rfl
theorem tb_205 : Cond.initialized "java/lang/Math" ∈ TB := tbm (tc1 (List.mem_of_getElem? (i := 16) rfl)) rfl
theorem tq_min : Cond.code Lib.Math.min.name Lib.Math.min.code 2 (some .int) ∈ TB := tbm (tc2 (List.mem_of_getElem? (i := 158) rfl)) rfl
theorem dX0_takeRules_7 : decode cX0_takeRules 7 = .ok (.putfield 24, 3) := by decide +kernel
theorem dX0_takeRules_10 : decode cX0_takeRules 10 = .ok (.iconst 0, 1) := by decide +kernel
theorem dX0_takeRules_11 : decode cX0_takeRules 11 = .ok (.istore_n 3, 1) := by decide +kernel
theorem dX0_takeRules_12 : decode cX0_takeRules 12 = .ok (.iload_n 3, 1) := by decide +kernel
theorem dX0_takeRules_13 : decode cX0_takeRules 13 = .ok (.aload_n 0, 1) := by decide +kernel
theorem dX0_takeRules_14 : decode cX0_takeRules 14 = .ok (.getfield 24, 3) := by decide +kernel
theorem dX0_takeRules_17 : decode cX0_takeRules 17 = .ok (.if_icmp .ge 27, 3) := by decide +kernel
theorem dX0_takeRules_44 : decode cX0_takeRules 44 = .ok (.return_, 1) := by decide +kernel
set_option maxRecDepth 4000 in
theorem c_X0_takeRules_87 {l : Launch} {D : va_G} {B : Nat} {cy : Nat → ClassId} {M : Mem} (h0 : M.1 22 2 = 0) : Cv l D B cy yX0_takeRules cX0_takeRules 4 1 14 [.ref (B + 22), .ref (B + 5), .int 0] M (fun M1 => M1 = M) := by
  refine s_any (by decide) (Nat.le_of_ble_eq_true rfl) ?_
  intro p e s m below meth c ls F hr hlocks w hl
  have F : CallFix p m c cX0_takeRules 4 s _ TB RX0 := F
  have hx := F.1
  have hb := F.2.1
  have hl : lv_has ls 4 [(0, .ref (B + 22)), (1, .ref (B + 5)), (2, .int 0)] := hl
  refine lv_aload_n hx hb dX0_takeRules_0 rfl (lv_at hl 0 rfl) ?_
  refine lv_iload_n hx hb dX0_takeRules_1 rfl (lv_at hl 2 rfl) ?_
  refine lv_bipush (v := 8) hx hb dX0_takeRules_2 (by decide) ?_
  refine g_min F hl.1 tb_203 tb_204 tb_205 tq_min (Nat.le_of_ble_eq_true rfl) (Nat.le_of_ble_eq_true rfl) (Nat.zero_le _) (Nat.zero_le _) (v := 0) (by decide) dX0_takeRules_4 ?_
  refine u_0_2 F w (a := 22) rfl tb_54 dX0_takeRules_7 (fun H locs w => ?_)
  rw [st_same (h0)] at w
  refine lv_iconst (v := 0) hx hb dX0_takeRules_10 (by decide) ?_
  refine lv_istore_n (lv' := [(3, .int 0), (0, .ref (B + 22)), (1, .ref (B + 5)), (2, .int 0)]) hx hb dX0_takeRules_11 rfl hl (by decide) rfl (fun ls hl => ?_)
  refine lv_iload_n hx hb dX0_takeRules_12 rfl (lv_at hl 0 rfl) ?_
  refine lv_aload_n hx hb dX0_takeRules_13 rfl (lv_at hl 1 rfl) ?_
  refine f_0_2 F w (a := 22) rfl tb_54 dX0_takeRules_14 ?_
  refine r_val (v := 0) (h0) ?_
  refine lv_icmp_ge (tgt := 44) hx hb dX0_takeRules_17 (by decide) (fun _ => ?_) (fun c1 => absurd c1 (by decide))
  exact e_v F w hr hlocks rfl dX0_takeRules_44
theorem tk_X0_takeRules : Cond.code yX0_takeRules cX0_takeRules 4 none ∈ TB := tbm (tc3 (List.mem_of_getElem? (i := 126) rfl)) rfl
theorem gc_X0_takeRules : GoodIn TB (cw yX0_takeRules cX0_takeRules 4 none) := goodIn_c2 tk_X0_takeRules
theorem tb_207 : Cond.methodLink "ToneLines" 114 yX0_takeRules ∈ TB := tbm (tc3 (List.mem_of_getElem? (i := 123) rfl)) rfl
theorem tb_208 : Cond.instanceMethod yX0_takeRules ∈ TB := tbm (tc3 (List.mem_of_getElem? (i := 124) rfl)) rfl
theorem tb_209 : Cond.selects "ToneLines$Derivation" yX0_takeRules yX0_takeRules ∈ TB := tbm (tc3 (List.mem_of_getElem? (i := 125) rfl)) rfl
theorem gv_X11_114 : GoodIn TB (wsV RX11 114 RX0 yX0_takeRules (cw yX0_takeRules cX0_takeRules 4 none)) := goodIn_4 tb_207 tb_208 tb_209 tb_43 gc_X0_takeRules
theorem hv_X0_takeRules : yX0_takeRules.cls = RX0 ∧ yX0_takeRules.cls ≠ "java/lang/invoke/MethodHandle" ∧ yX0_takeRules.cls ≠ "java/lang/invoke/VarHandle" ∧ (parseMethodDescriptor yX0_takeRules.desc).map (fun d => d.parameters.length) = some 2 := by decide +kernel
theorem dX11_rules_47 : decode cX11_rules 47 = .ok (.aload_n 0, 1) := by decide +kernel
theorem dX11_rules_48 : decode cX11_rules 48 = .ok (.invokevirtual 97, 3) := by decide +kernel
theorem dX11_outdate_0 : decode cX11_outdate 0 = .ok (.aload_n 0, 1) := by decide +kernel
theorem dX11_outdate_1 : decode cX11_outdate 1 = .ok (.getfield 35, 3) := by decide +kernel
theorem dX11_outdate_4 : decode cX11_outdate 4 = .ok (.iconst 0, 1) := by decide +kernel
theorem dX11_outdate_5 : decode cX11_outdate 5 = .ok (.putfield 301, 3) := by decide +kernel
theorem tb_210 : Cond.fieldLink "ToneLines" 301 "ToneLines$Derivation" "ready" "I" ∈ TB := tbm (tc1 (List.mem_of_getElem? (i := 184) rfl)) rfl
theorem dX11_outdate_8 : decode cX11_outdate 8 = .ok (.aload_n 0, 1) := by decide +kernel
theorem dX11_outdate_9 : decode cX11_outdate 9 = .ok (.getfield 54, 3) := by decide +kernel
theorem dX11_outdate_12 : decode cX11_outdate 12 = .ok (.iconst 0, 1) := by decide +kernel
theorem dX11_outdate_13 : decode cX11_outdate 13 = .ok (.putfield 271, 3) := by decide +kernel
theorem tb_211 : Cond.fieldLink "ToneLines" 271 "ToneLines$Orders" "inDate" "Z" ∈ TB := tbm (tc1 (List.mem_of_getElem? (i := 230) rfl)) rfl
theorem dX11_outdate_16 : decode cX11_outdate 16 = .ok (.aload_n 0, 1) := by decide +kernel
theorem dX11_outdate_17 : decode cX11_outdate 17 = .ok (.getfield 61, 3) := by decide +kernel
theorem dX11_outdate_20 : decode cX11_outdate 20 = .ok (.iconst 0, 1) := by decide +kernel
theorem dX11_outdate_21 : decode cX11_outdate 21 = .ok (.putfield 304, 3) := by decide +kernel
theorem tb_212 : Cond.fieldLink "ToneLines" 304 "ToneLines$Sources" "known" "I" ∈ TB := tbm (tc2 (List.mem_of_getElem? (i := 24) rfl)) rfl
theorem dX11_outdate_24 : decode cX11_outdate 24 = .ok (.return_, 1) := by decide +kernel
set_option maxRecDepth 4000 in
theorem c_X11_outdate_88 {l : Launch} {D : va_G} {B : Nat} {cy : Nat → ClassId} {M : Mem} (h0 : M.1 22 7 = 0) (h1 : M.1 109 0 = 0) (h2 : M.1 135 0 = 0) : Cv l D B cy yX11_outdate cX11_outdate 1 0 0 [.ref (B + 0)] M (fun M1 => M1 = M) := by
  refine s_any (by decide) (Nat.le_of_ble_eq_true rfl) ?_
  intro p e s m below meth c ls F hr hlocks w hl
  have F : CallFix p m c cX11_outdate 1 s _ TB RX11 := F
  have hx := F.1
  have hb := F.2.1
  have hl : lv_has ls 1 [(0, .ref (B + 0))] := hl
  refine lv_aload_n hx hb dX11_outdate_0 rfl (lv_at hl 0 rfl) ?_
  refine f_11_3 F w (a := 0) rfl tb_73 dX11_outdate_1 ?_
  refine lv_iconst (v := 0) hx hb dX11_outdate_4 (by decide) ?_
  refine u_0_7 F w (a := 22) rfl tb_210 dX11_outdate_5 (fun H locs w => ?_)
  rw [st_same (h0)] at w
  refine lv_aload_n hx hb dX11_outdate_8 rfl (lv_at hl 0 rfl) ?_
  refine f_11_6 F w (a := 0) rfl tb_102 dX11_outdate_9 ?_
  refine lv_iconst (v := 0) hx hb dX11_outdate_12 (by decide) ?_
  refine u_3_0 F w (a := 109) rfl (by decide) (by decide) tb_211 dX11_outdate_13 (fun H locs w => ?_)
  rw [st_same (h1)] at w
  refine lv_aload_n hx hb dX11_outdate_16 rfl (lv_at hl 0 rfl) ?_
  refine f_11_7 F w (a := 0) rfl tb_113 dX11_outdate_17 ?_
  refine lv_iconst (v := 0) hx hb dX11_outdate_20 (by decide) ?_
  refine u_6_0 F w (a := 135) rfl tb_212 dX11_outdate_21 (fun H locs w => ?_)
  rw [st_same (h2)] at w
  exact e_v F w hr hlocks rfl dX11_outdate_24
theorem tk_X11_outdate : Cond.code yX11_outdate cX11_outdate 1 none ∈ TB := tbm (tc3 (List.mem_of_getElem? (i := 32) rfl)) rfl
theorem gc_X11_outdate : GoodIn TB (cw yX11_outdate cX11_outdate 1 none) := goodIn_c2 tk_X11_outdate
theorem tb_213 : Cond.methodLink "ToneLines" 97 yX11_outdate ∈ TB := tbm (tc3 (List.mem_of_getElem? (i := 29) rfl)) rfl
theorem tb_214 : Cond.instanceMethod yX11_outdate ∈ TB := tbm (tc3 (List.mem_of_getElem? (i := 31) rfl)) rfl
theorem tb_215 : Cond.selects "ToneLines" yX11_outdate yX11_outdate ∈ TB := tbp (List.mem_of_getElem? (i := 5) rfl) rfl
theorem gv_X11_97 : GoodIn TB (wsV RX11 97 RX11 yX11_outdate (cw yX11_outdate cX11_outdate 1 none)) := goodIn_4 tb_213 tb_214 tb_215 tb_145 gc_X11_outdate
theorem hv_X11_outdate : yX11_outdate.cls = RX11 ∧ yX11_outdate.cls ≠ "java/lang/invoke/MethodHandle" ∧ yX11_outdate.cls ≠ "java/lang/invoke/VarHandle" ∧ (parseMethodDescriptor yX11_outdate.desc).map (fun d => d.parameters.length) = some 0 := by decide +kernel
theorem dX11_rules_51 : decode cX11_rules 51 = .ok (.aload_n 0, 1) := by decide +kernel
theorem dX11_rules_52 : decode cX11_rules 52 = .ok (.getfield 35, 3) := by decide +kernel
theorem dX11_rules_55 : decode cX11_rules 55 = .ok (.getfield 118, 3) := by decide +kernel
theorem tb_216 : Cond.fieldLink "ToneLines" 118 "ToneLines$Derivation" "size" "I" ∈ TB := tbm (tc1 (List.mem_of_getElem? (i := 173) rfl)) rfl
theorem dX11_rules_58 : decode cX11_rules 58 = .ok (.ireturn, 1) := by decide +kernel
set_option maxRecDepth 4000 in
theorem c_X11_rules_89 {l : Launch} {D : va_G} {B : Nat} {cy : Nat → ClassId} {M : Mem} (h0 : M.1 4 2 = 0) (h1 : M.1 4 4 = 0) (h2 : M.1 1 1 = 0) (h3 : M.1 4 3 = 0) (h4 : M.1 4 5 = 0) (h5 : M.1 22 2 = 0) (h6 : M.1 22 7 = 0) (h7 : M.1 109 0 = 0) (h8 : M.1 135 0 = 0) : Ci l D B cy yX11_rules cX11_rules 2 (some .int) 3 63 [.ref (B + 0)] M (fun r M1 => r = 0 ∧ M1 = M) := by
  refine s_any (by decide) (Nat.le_of_ble_eq_true rfl) ?_
  intro p e s m below meth c ls F hr hlocks w hl
  have F : CallFix p m c cX11_rules 2 s _ TB RX11 := F
  have hx := F.1
  have hb := F.2.1
  have hl : lv_has ls 2 [(0, .ref (B + 0))] := hl
  refine lv_aload_n hx hb dX11_rules_0 rfl (lv_at hl 0 rfl) ?_
  refine f_11_2 F w (a := 0) rfl tb_40 dX11_rules_1 ?_
  refine x_Vi F w (As := []) (rest := []) (a := 4) (by decide) (sh_5 rfl _ _) rfl (c_X5_faultOfText_86 (h0) (h1) (h2) (h3) (h4)) gv_X11_103 hv_X5_faultOfText ⟨Nat.le_of_ble_eq_true rfl, Nat.le_of_ble_eq_true rfl⟩ hl.1 rfl (Nat.le_of_ble_eq_true rfl) ⟨Nat.zero_le _, Nat.zero_le _⟩ dX11_rules_4 (fun H locs w => ?_)
  refine lv_istore_n (lv' := [(1, .int (-1)), (0, .ref (B + 0))]) hx hb dX11_rules_7 rfl hl (by decide) rfl (fun ls hl => ?_)
  refine lv_aload_n hx hb dX11_rules_8 rfl (lv_at hl 1 rfl) ?_
  refine f_11_0 F w (a := 0) rfl tb_11 dX11_rules_9 ?_
  refine lv_iconst (v := 0) hx hb dX11_rules_12 (by decide) ?_
  refine u_8_1 F w (a := 1) rfl tb_138 dX11_rules_13 (fun H locs w => ?_)
  rw [st_same (h2)] at w
  refine lv_iload_n hx hb dX11_rules_16 rfl (lv_at hl 0 rfl) ?_
  refine lv_iconst (v := (-1)) hx hb dX11_rules_17 (by decide) ?_
  refine lv_icmp_eq (tgt := 26) hx hb dX11_rules_18 (by decide) (fun _ => ?_) (fun c1 => absurd c1 (by decide))
  refine lv_aload_n hx hb dX11_rules_26 rfl (lv_at hl 1 rfl) ?_
  refine f_11_3 F w (a := 0) rfl tb_73 dX11_rules_27 ?_
  refine lv_aload_n hx hb dX11_rules_30 rfl (lv_at hl 1 rfl) ?_
  refine f_11_2 F w (a := 0) rfl tb_40 dX11_rules_31 ?_
  refine f_5_1 F w (a := 4) rfl tb_201 dX11_rules_34 ?_
  refine lv_aload_n hx hb dX11_rules_37 rfl (lv_at hl 1 rfl) ?_
  refine f_11_2 F w (a := 0) rfl tb_40 dX11_rules_38 ?_
  refine f_5_2 F w (a := 4) rfl tb_202 dX11_rules_41 ?_
  refine r_val (v := 0) (h0) ?_
  refine x_Vv F w (As := [.ref (B + 5), .int 0]) (rest := []) (a := 22) (by decide) (sh_0 rfl _ _) rfl (c_X0_takeRules_87 (h5)) gv_X11_114 hv_X0_takeRules ⟨Nat.le_of_ble_eq_true rfl, Nat.le_of_ble_eq_true rfl⟩ hl.1 rfl (Nat.le_of_ble_eq_true rfl) ⟨Nat.zero_le _, Nat.zero_le _⟩ dX11_rules_44 (fun H locs w => ?_)
  refine lv_aload_n hx hb dX11_rules_47 rfl (lv_at hl 1 rfl) ?_
  refine x_Vv F w (As := []) (rest := []) (a := 0) (by decide) (sh_11 rfl _ _) rfl (c_X11_outdate_88 (h6) (h7) (h8)) gv_X11_97 hv_X11_outdate ⟨Nat.le_of_ble_eq_true rfl, Nat.le_of_ble_eq_true rfl⟩ hl.1 rfl (Nat.le_of_ble_eq_true rfl) ⟨Nat.zero_le _, Nat.zero_le _⟩ dX11_rules_48 (fun H locs w => ?_)
  refine lv_aload_n hx hb dX11_rules_51 rfl (lv_at hl 1 rfl) ?_
  refine f_11_3 F w (a := 0) rfl tb_73 dX11_rules_52 ?_
  refine f_0_2 F w (a := 22) rfl tb_216 dX11_rules_55 ?_
  refine r_val (v := 0) (h5) ?_
  exact e_i F w hr hlocks ⟨rfl, rfl⟩ dX11_rules_58
theorem tk_X11_rules : Cond.code yX11_rules cX11_rules 2 (some .int) ∈ TB := tbm (tc3 (List.mem_of_getElem? (i := 36) rfl)) rfl
theorem gc_X11_rules : GoodIn TB (cw yX11_rules cX11_rules 2 (some .int)) := goodIn_c2 tk_X11_rules
theorem tb_217 : Cond.methodLink "ToneLinesLaw" 28 yX11_rules ∈ TB := tbm (tc3 (List.mem_of_getElem? (i := 33) rfl)) rfl
theorem tb_218 : Cond.instanceMethod yX11_rules ∈ TB := tbm (tc3 (List.mem_of_getElem? (i := 34) rfl)) rfl
theorem tb_219 : Cond.selects "ToneLines" yX11_rules yX11_rules ∈ TB := tbm (tc3 (List.mem_of_getElem? (i := 35) rfl)) rfl
theorem gv_L_28 : GoodIn TB (wsV RL 28 RX11 yX11_rules (cw yX11_rules cX11_rules 2 (some .int))) := goodIn_4 tb_217 tb_218 tb_219 tb_145 gc_X11_rules
theorem hv_X11_rules : yX11_rules.cls = RX11 ∧ yX11_rules.cls ≠ "java/lang/invoke/MethodHandle" ∧ yX11_rules.cls ≠ "java/lang/invoke/VarHandle" ∧ (parseMethodDescriptor yX11_rules.desc).map (fun d => d.parameters.length) = some 0 := by decide +kernel
theorem dL_law_267 : decode cL_law 267 = .ok (.aload_n 2, 1) := by decide +kernel
theorem dL_law_268 : decode cL_law 268 = .ok (.invokevirtual 31, 3) := by decide +kernel
theorem dX12_rules_0 : decode cX12_rules 0 = .ok (.aload_n 0, 1) := by decide +kernel
theorem dX12_rules_1 : decode cX12_rules 1 = .ok (.iconst 0, 1) := by decide +kernel
theorem dX12_rules_2 : decode cX12_rules 2 = .ok (.putfield 172, 3) := by decide +kernel
theorem dX12_rules_5 : decode cX12_rules 5 = .ok (.aload_n 0, 1) := by decide +kernel
theorem dX12_rules_6 : decode cX12_rules 6 = .ok (.iconst 3, 1) := by decide +kernel
theorem dX12_rules_7 : decode cX12_rules 7 = .ok (.putfield 204, 3) := by decide +kernel
theorem tb_220 : Cond.fieldLink "ToneLinesModel" 204 "ToneLinesModel" "token" "I" ∈ TB := tbm (tc5 (List.mem_of_getElem? (i := 69) rfl)) rfl
theorem dX12_rules_10 : decode cX12_rules 10 = .ok (.aload_n 0, 1) := by decide +kernel
theorem dX12_rules_11 : decode cX12_rules 11 = .ok (.iconst 0, 1) := by decide +kernel
theorem dX12_rules_12 : decode cX12_rules 12 = .ok (.putfield 217, 3) := by decide +kernel
theorem tb_221 : Cond.fieldLink "ToneLinesModel" 217 "ToneLinesModel" "wrong" "Z" ∈ TB := tbm (tc5 (List.mem_of_getElem? (i := 72) rfl)) rfl
theorem dX12_rules_15 : decode cX12_rules 15 = .ok (.iconst 0, 1) := by decide +kernel
theorem dX12_rules_16 : decode cX12_rules 16 = .ok (.istore_n 1, 1) := by decide +kernel
theorem dX12_rules_17 : decode cX12_rules 17 = .ok (.aload_n 0, 1) := by decide +kernel
theorem dX12_rules_18 : decode cX12_rules 18 = .ok (.invokevirtual 221, 3) := by decide +kernel
theorem dX12_goesOn_0 : decode cX12_goesOn 0 = .ok (.aload_n 0, 1) := by decide +kernel
theorem dX12_goesOn_1 : decode cX12_goesOn 1 = .ok (.getfield 204, 3) := by decide +kernel
theorem dX12_goesOn_4 : decode cX12_goesOn 4 = .ok (.istore_n 1, 1) := by decide +kernel
theorem dX12_goesOn_5 : decode cX12_goesOn 5 = .ok (.aload_n 0, 1) := by decide +kernel
theorem dX12_goesOn_6 : decode cX12_goesOn 6 = .ok (.getfield 172, 3) := by decide +kernel
theorem dX12_goesOn_9 : decode cX12_goesOn 9 = .ok (.istore_n 2, 1) := by decide +kernel
theorem dX12_goesOn_10 : decode cX12_goesOn 10 = .ok (.aload_n 0, 1) := by decide +kernel
theorem dX12_goesOn_11 : decode cX12_goesOn 11 = .ok (.invokevirtual 179, 3) := by decide +kernel
theorem dX12_goesOn_14 : decode cX12_goesOn 14 = .ok (.aload_n 0, 1) := by decide +kernel
theorem dX12_goesOn_15 : decode cX12_goesOn 15 = .ok (.aload_n 0, 1) := by decide +kernel
theorem dX12_goesOn_16 : decode cX12_goesOn 16 = .ok (.getfield 172, 3) := by decide +kernel
theorem dX12_goesOn_19 : decode cX12_goesOn 19 = .ok (.putfield 207, 3) := by decide +kernel
theorem tb_222 : Cond.fieldLink "ToneLinesModel" 207 "ToneLinesModel" "begun" "I" ∈ TB := tbm (tc5 (List.mem_of_getElem? (i := 70) rfl)) rfl
theorem dX12_goesOn_22 : decode cX12_goesOn 22 = .ok (.aload_n 0, 1) := by decide +kernel
theorem dX12_goesOn_23 : decode cX12_goesOn 23 = .ok (.getfield 207, 3) := by decide +kernel
theorem dX12_goesOn_26 : decode cX12_goesOn 26 = .ok (.iload_n 2, 1) := by decide +kernel
theorem dX12_goesOn_27 : decode cX12_goesOn 27 = .ok (.if_icmp .ne 17, 3) := by decide +kernel
theorem dX12_goesOn_30 : decode cX12_goesOn 30 = .ok (.iload_n 1, 1) := by decide +kernel
theorem dX12_goesOn_31 : decode cX12_goesOn 31 = .ok (.iconst 1, 1) := by decide +kernel
theorem dX12_goesOn_32 : decode cX12_goesOn 32 = .ok (.if_icmp .eq 8, 3) := by decide +kernel
theorem dX12_goesOn_35 : decode cX12_goesOn 35 = .ok (.iload_n 1, 1) := by decide +kernel
theorem dX12_goesOn_36 : decode cX12_goesOn 36 = .ok (.iconst 2, 1) := by decide +kernel
theorem dX12_goesOn_37 : decode cX12_goesOn 37 = .ok (.if_icmp .ne 7, 3) := by decide +kernel
theorem dX12_goesOn_44 : decode cX12_goesOn 44 = .ok (.iconst 0, 1) := by decide +kernel
theorem dX12_goesOn_45 : decode cX12_goesOn 45 = .ok (.istore_n 3, 1) := by decide +kernel
theorem dX12_goesOn_46 : decode cX12_goesOn 46 = .ok (.aload_n 0, 1) := by decide +kernel
theorem dX12_goesOn_47 : decode cX12_goesOn 47 = .ok (.invokevirtual 175, 3) := by decide +kernel
theorem dX12_goesOn_50 : decode cX12_goesOn 50 = .ok (.istore 4, 2) := by decide +kernel
theorem dX12_goesOn_52 : decode cX12_goesOn 52 = .ok (.aload_n 0, 1) := by decide +kernel
theorem dX12_goesOn_53 : decode cX12_goesOn 53 = .ok (.bipush 29, 2) := by decide +kernel
theorem dX12_goesOn_55 : decode cX12_goesOn 55 = .ok (.putfield 210, 3) := by decide +kernel
theorem tb_223 : Cond.fieldLink "ToneLinesModel" 210 "ToneLinesModel" "spelt" "I" ∈ TB := tbm (tc5 (List.mem_of_getElem? (i := 71) rfl)) rfl
theorem dX12_goesOn_58 : decode cX12_goesOn 58 = .ok (.iload 4, 2) := by decide +kernel
theorem dX12_goesOn_60 : decode cX12_goesOn 60 = .ok (.iconst (-1), 1) := by decide +kernel
theorem dX12_goesOn_61 : decode cX12_goesOn 61 = .ok (.if_icmp .ne 11, 3) := by decide +kernel
theorem dX12_goesOn_64 : decode cX12_goesOn 64 = .ok (.aload_n 0, 1) := by decide +kernel
theorem dX12_goesOn_65 : decode cX12_goesOn 65 = .ok (.iconst 0, 1) := by decide +kernel
theorem dX12_goesOn_66 : decode cX12_goesOn 66 = .ok (.putfield 204, 3) := by decide +kernel
theorem dX12_goesOn_69 : decode cX12_goesOn 69 = .ok (.goto 129, 3) := by decide +kernel
theorem dX12_goesOn_198 : decode cX12_goesOn 198 = .ok (.return_, 1) := by decide +kernel
set_option maxRecDepth 4000 in
theorem c_X12_goesOn_90 {l : Launch} {D : va_G} {B : Nat} {cy : Nat → ClassId} {M : Mem} (h0 : M.1 146 13 = 3) (h1 : M.1 146 9 = 0) (h2 : M.1 146 8 = 0) (h3 : M.1 146 14 = 0) (h4 : M.1 146 15 = 0) : Cv l D B cy yX12_goesOn cX12_goesOn 5 2 40 [.ref (B + 146)] M (fun M1 => M1 = (st (st M 146 15 29) 146 13 0)) := by
  refine s_any (by decide) (Nat.le_of_ble_eq_true rfl) ?_
  intro p e s m below meth c ls F hr hlocks w hl
  have F : CallFix p m c cX12_goesOn 5 s _ TB RX12 := F
  have hx := F.1
  have hb := F.2.1
  have hl : lv_has ls 5 [(0, .ref (B + 146))] := hl
  refine lv_aload_n hx hb dX12_goesOn_0 rfl (lv_at hl 0 rfl) ?_
  refine f_12_13 F w (a := 146) rfl tb_220 dX12_goesOn_1 ?_
  refine r_val (v := 3) (h0) ?_
  refine lv_istore_n (lv' := [(1, .int 3), (0, .ref (B + 146))]) hx hb dX12_goesOn_4 rfl hl (by decide) rfl (fun ls hl => ?_)
  refine lv_aload_n hx hb dX12_goesOn_5 rfl (lv_at hl 1 rfl) ?_
  refine f_12_9 F w (a := 146) rfl tb_175 dX12_goesOn_6 ?_
  refine r_val (v := 0) (h1) ?_
  refine lv_istore_n (lv' := [(2, .int 0), (1, .int 3), (0, .ref (B + 146))]) hx hb dX12_goesOn_9 rfl hl (by decide) rfl (fun ls hl => ?_)
  refine lv_aload_n hx hb dX12_goesOn_10 rfl (lv_at hl 2 rfl) ?_
  refine x_Vv F w (As := []) (rest := []) (a := 146) (by decide) (sh_12 rfl _ _) rfl (c_X12_blanks_80 (h1) (h2)) gv_X12_179 hv_X12_blanks ⟨Nat.le_of_ble_eq_true rfl, Nat.le_of_ble_eq_true rfl⟩ hl.1 rfl (Nat.le_of_ble_eq_true rfl) ⟨Nat.zero_le _, Nat.zero_le _⟩ dX12_goesOn_11 (fun H locs w => ?_)
  refine lv_aload_n hx hb dX12_goesOn_14 rfl (lv_at hl 2 rfl) ?_
  refine lv_aload_n hx hb dX12_goesOn_15 rfl (lv_at hl 2 rfl) ?_
  refine f_12_9 F w (a := 146) rfl tb_175 dX12_goesOn_16 ?_
  refine r_val (v := 0) (h1) ?_
  refine u_12_14 F w (a := 146) rfl tb_222 dX12_goesOn_19 (fun H locs w => ?_)
  rw [st_same (h3)] at w
  refine lv_aload_n hx hb dX12_goesOn_22 rfl (lv_at hl 2 rfl) ?_
  refine f_12_14 F w (a := 146) rfl tb_222 dX12_goesOn_23 ?_
  refine r_val (v := 0) (h3) ?_
  refine lv_iload_n hx hb dX12_goesOn_26 rfl (lv_at hl 0 rfl) ?_
  refine lv_icmp_ne (tgt := 44) hx hb dX12_goesOn_27 (by decide) (fun c1 => absurd c1 (by decide)) (fun _ => ?_)
  refine lv_iload_n hx hb dX12_goesOn_30 rfl (lv_at hl 1 rfl) ?_
  refine lv_iconst (v := 1) hx hb dX12_goesOn_31 (by decide) ?_
  refine lv_icmp_eq (tgt := 40) hx hb dX12_goesOn_32 (by decide) (fun c1 => absurd c1 (by decide)) (fun _ => ?_)
  refine lv_iload_n hx hb dX12_goesOn_35 rfl (lv_at hl 1 rfl) ?_
  refine lv_iconst (v := 2) hx hb dX12_goesOn_36 (by decide) ?_
  refine lv_icmp_ne (tgt := 44) hx hb dX12_goesOn_37 (by decide) (fun _ => ?_) (fun c1 => absurd c1 (by decide))
  refine lv_iconst (v := 0) hx hb dX12_goesOn_44 (by decide) ?_
  refine lv_istore_n (lv' := [(3, .int 0), (2, .int 0), (1, .int 3), (0, .ref (B + 146))]) hx hb dX12_goesOn_45 rfl hl (by decide) rfl (fun ls hl => ?_)
  refine lv_aload_n hx hb dX12_goesOn_46 rfl (lv_at hl 3 rfl) ?_
  refine x_Vi F w (As := []) (rest := []) (a := 146) (by decide) (sh_12 rfl _ _) rfl (c_X12_here_79 (h1) (h2)) gv_X12_175 hv_X12_here ⟨Nat.le_of_ble_eq_true rfl, Nat.le_of_ble_eq_true rfl⟩ hl.1 rfl (Nat.le_of_ble_eq_true rfl) ⟨Nat.zero_le _, Nat.zero_le _⟩ dX12_goesOn_47 (fun H locs w => ?_)
  refine lv_istore (lv' := [(4, .int (-1)), (3, .int 0), (2, .int 0), (1, .int 3), (0, .ref (B + 146))]) hx hb dX12_goesOn_50 hl (by decide) rfl (fun ls hl => ?_)
  refine lv_aload_n hx hb dX12_goesOn_52 rfl (lv_at hl 4 rfl) ?_
  refine lv_bipush (v := 29) hx hb dX12_goesOn_53 (by decide) ?_
  refine u_12_15 F w (a := 146) rfl tb_223 dX12_goesOn_55 (fun H locs w => ?_)
  refine lv_iload hx hb dX12_goesOn_58 (lv_at hl 0 rfl) ?_
  refine lv_iconst (v := (-1)) hx hb dX12_goesOn_60 (by decide) ?_
  refine lv_icmp_ne (tgt := 72) hx hb dX12_goesOn_61 (by decide) (fun c1 => absurd c1 (by decide)) (fun _ => ?_)
  refine lv_aload_n hx hb dX12_goesOn_64 rfl (lv_at hl 4 rfl) ?_
  refine lv_iconst (v := 0) hx hb dX12_goesOn_65 (by decide) ?_
  refine u_12_13 F w (a := 146) rfl tb_220 dX12_goesOn_66 (fun H locs w => ?_)
  refine lv_goto (tgt := 198) hx hb dX12_goesOn_69 (by decide) ?_
  exact e_v F w hr hlocks rfl dX12_goesOn_198
theorem tk_X12_goesOn : Cond.code yX12_goesOn cX12_goesOn 5 none ∈ TB := tbm (tc5 (List.mem_of_getElem? (i := 205) rfl)) rfl
theorem gc_X12_goesOn : GoodIn TB (cw yX12_goesOn cX12_goesOn 5 none) := goodIn_c2 tk_X12_goesOn
theorem tb_224 : Cond.methodLink "ToneLinesModel" 221 yX12_goesOn ∈ TB := tbm (tc5 (List.mem_of_getElem? (i := 202) rfl)) rfl
theorem tb_225 : Cond.instanceMethod yX12_goesOn ∈ TB := tbm (tc5 (List.mem_of_getElem? (i := 204) rfl)) rfl
theorem tb_226 : Cond.selects "ToneLinesModel" yX12_goesOn yX12_goesOn ∈ TB := tbp (List.mem_of_getElem? (i := 43) rfl) rfl
theorem gv_X12_221 : GoodIn TB (wsV RX12 221 RX12 yX12_goesOn (cw yX12_goesOn cX12_goesOn 5 none)) := goodIn_4 tb_224 tb_225 tb_226 tb_150 gc_X12_goesOn
theorem hv_X12_goesOn : yX12_goesOn.cls = RX12 ∧ yX12_goesOn.cls ≠ "java/lang/invoke/MethodHandle" ∧ yX12_goesOn.cls ≠ "java/lang/invoke/VarHandle" ∧ (parseMethodDescriptor yX12_goesOn.desc).map (fun d => d.parameters.length) = some 0 := by decide +kernel
theorem dX12_rules_21 : decode cX12_rules 21 = .ok (.aload_n 0, 1) := by decide +kernel
theorem dX12_rules_22 : decode cX12_rules 22 = .ok (.getfield 217, 3) := by decide +kernel
theorem dX12_rules_25 : decode cX12_rules 25 = .ok (.ifCond .ne 72, 3) := by decide +kernel
theorem dX12_rules_28 : decode cX12_rules 28 = .ok (.aload_n 0, 1) := by decide +kernel
theorem dX12_rules_29 : decode cX12_rules 29 = .ok (.getfield 204, 3) := by decide +kernel
theorem dX12_rules_32 : decode cX12_rules 32 = .ok (.ifCond .eq 65, 3) := by decide +kernel
theorem dX12_rules_97 : decode cX12_rules 97 = .ok (.aload_n 0, 1) := by decide +kernel
theorem dX12_rules_98 : decode cX12_rules 98 = .ok (.iconst 0, 1) := by decide +kernel
theorem dX12_rules_99 : decode cX12_rules 99 = .ok (.putfield 169, 3) := by decide +kernel
theorem dX12_rules_102 : decode cX12_rules 102 = .ok (.aload_n 0, 1) := by decide +kernel
theorem dX12_rules_103 : decode cX12_rules 103 = .ok (.getfield 217, 3) := by decide +kernel
theorem dX12_rules_106 : decode cX12_rules 106 = .ok (.ifCond .eq 11, 3) := by decide +kernel
theorem dX12_rules_117 : decode cX12_rules 117 = .ok (.iconst 0, 1) := by decide +kernel
theorem dX12_rules_118 : decode cX12_rules 118 = .ok (.istore_n 2, 1) := by decide +kernel
theorem dX12_rules_119 : decode cX12_rules 119 = .ok (.iload_n 2, 1) := by decide +kernel
theorem dX12_rules_120 : decode cX12_rules 120 = .ok (.bipush 8, 2) := by decide +kernel
theorem dX12_rules_122 : decode cX12_rules 122 = .ok (.iload_n 1, 1) := by decide +kernel
theorem dX12_rules_123 : decode cX12_rules 123 = .ok (.imul, 1) := by decide +kernel
theorem dX12_rules_124 : decode cX12_rules 124 = .ok (.if_icmp .ge 21, 3) := by decide +kernel
theorem dX12_rules_145 : decode cX12_rules 145 = .ok (.aload_n 0, 1) := by decide +kernel
theorem dX12_rules_146 : decode cX12_rules 146 = .ok (.iload_n 1, 1) := by decide +kernel
theorem dX12_rules_147 : decode cX12_rules 147 = .ok (.putfield 239, 3) := by decide +kernel
theorem tb_227 : Cond.fieldLink "ToneLinesModel" 239 "ToneLinesModel" "ruleMany" "I" ∈ TB := tbm (tc5 (List.mem_of_getElem? (i := 61) rfl)) rfl
theorem dX12_rules_150 : decode cX12_rules 150 = .ok (.iload_n 1, 1) := by decide +kernel
theorem dX12_rules_151 : decode cX12_rules 151 = .ok (.ireturn, 1) := by decide +kernel
set_option maxRecDepth 4000 in
theorem c_X12_rules_91 {l : Launch} {D : va_G} {B : Nat} {cy : Nat → ClassId} {M : Mem} (h0 : M.1 146 9 = 0) (h1 : M.1 146 13 = 0) (h2 : M.1 146 16 = 0) (h3 : M.1 146 8 = 0) (h4 : M.1 146 14 = 0) (h5 : M.1 146 15 = 0) (h6 : M.1 146 5 = 0) : Ci l D B cy yX12_rules cX12_rules 3 (some .int) 3 64 [.ref (B + 146)] M (fun r M1 => r = 0 ∧ M1 = (st (st (st M 146 13 3) 146 15 29) 146 13 0)) := by
  refine s_any (by decide) (Nat.le_of_ble_eq_true rfl) ?_
  intro p e s m below meth c ls F hr hlocks w hl
  have F : CallFix p m c cX12_rules 3 s _ TB RX12 := F
  have hx := F.1
  have hb := F.2.1
  have hl : lv_has ls 3 [(0, .ref (B + 146))] := hl
  refine lv_aload_n hx hb dX12_rules_0 rfl (lv_at hl 0 rfl) ?_
  refine lv_iconst (v := 0) hx hb dX12_rules_1 (by decide) ?_
  refine u_12_9 F w (a := 146) rfl tb_175 dX12_rules_2 (fun H locs w => ?_)
  rw [st_same (h0)] at w
  refine lv_aload_n hx hb dX12_rules_5 rfl (lv_at hl 0 rfl) ?_
  refine lv_iconst (v := 3) hx hb dX12_rules_6 (by decide) ?_
  refine u_12_13 F w (a := 146) rfl tb_220 dX12_rules_7 (fun H locs w => ?_)
  refine lv_aload_n hx hb dX12_rules_10 rfl (lv_at hl 0 rfl) ?_
  refine lv_iconst (v := 0) hx hb dX12_rules_11 (by decide) ?_
  refine u_12_16 F w (a := 146) rfl (by decide) (by decide) tb_221 dX12_rules_12 (fun H locs w => ?_)
  rw [st_same ((st_ne (by decide)).trans h2)] at w
  refine lv_iconst (v := 0) hx hb dX12_rules_15 (by decide) ?_
  refine lv_istore_n (lv' := [(1, .int 0), (0, .ref (B + 146))]) hx hb dX12_rules_16 rfl hl (by decide) rfl (fun ls hl => ?_)
  refine lv_aload_n hx hb dX12_rules_17 rfl (lv_at hl 1 rfl) ?_
  refine x_Vv F w (As := []) (rest := []) (a := 146) (by decide) (sh_12 rfl _ _) rfl (c_X12_goesOn_90 (st_at) ((st_ne (by decide)).trans h0) ((st_ne (by decide)).trans h3) ((st_ne (by decide)).trans h4) ((st_ne (by decide)).trans h5)) gv_X12_221 hv_X12_goesOn ⟨Nat.le_of_ble_eq_true rfl, Nat.le_of_ble_eq_true rfl⟩ hl.1 rfl (Nat.le_of_ble_eq_true rfl) ⟨Nat.zero_le _, Nat.zero_le _⟩ dX12_rules_18 (fun H locs w => ?_)
  refine lv_aload_n hx hb dX12_rules_21 rfl (lv_at hl 1 rfl) ?_
  refine f_12_16 F w (a := 146) rfl tb_221 dX12_rules_22 ?_
  refine r_val (v := 0) ((st_ne (by decide)).trans ((st_ne (by decide)).trans ((st_ne (by decide)).trans h2))) ?_
  refine lv_if_ne (tgt := 97) hx hb dX12_rules_25 (by decide) (fun c1 => absurd c1 (by decide)) (fun _ => ?_)
  refine lv_aload_n hx hb dX12_rules_28 rfl (lv_at hl 1 rfl) ?_
  refine f_12_13 F w (a := 146) rfl tb_220 dX12_rules_29 ?_
  refine r_val (v := 0) (st_at) ?_
  refine lv_if_eq (tgt := 97) hx hb dX12_rules_32 (by decide) (fun _ => ?_) (fun c1 => absurd c1 (by decide))
  refine lv_aload_n hx hb dX12_rules_97 rfl (lv_at hl 1 rfl) ?_
  refine lv_iconst (v := 0) hx hb dX12_rules_98 (by decide) ?_
  refine u_12_8 F w (a := 146) rfl tb_146 dX12_rules_99 (fun H locs w => ?_)
  rw [st_same ((st_ne (by decide)).trans ((st_ne (by decide)).trans ((st_ne (by decide)).trans h3)))] at w
  refine lv_aload_n hx hb dX12_rules_102 rfl (lv_at hl 1 rfl) ?_
  refine f_12_16 F w (a := 146) rfl tb_221 dX12_rules_103 ?_
  refine r_val (v := 0) ((st_ne (by decide)).trans ((st_ne (by decide)).trans ((st_ne (by decide)).trans h2))) ?_
  refine lv_if_eq (tgt := 117) hx hb dX12_rules_106 (by decide) (fun _ => ?_) (fun c1 => absurd c1 (by decide))
  refine lv_iconst (v := 0) hx hb dX12_rules_117 (by decide) ?_
  refine lv_istore_n (lv' := [(2, .int 0), (1, .int 0), (0, .ref (B + 146))]) hx hb dX12_rules_118 rfl hl (by decide) rfl (fun ls hl => ?_)
  refine lv_iload_n hx hb dX12_rules_119 rfl (lv_at hl 0 rfl) ?_
  refine lv_bipush (v := 8) hx hb dX12_rules_120 (by decide) ?_
  refine lv_iload_n hx hb dX12_rules_122 rfl (lv_at hl 1 rfl) ?_
  refine lv_imul hx hb dX12_rules_123 ?_
  refine r_val (v := 0) (by decide) ?_
  refine lv_icmp_ge (tgt := 145) hx hb dX12_rules_124 (by decide) (fun _ => ?_) (fun c1 => absurd c1 (by decide))
  refine lv_aload_n hx hb dX12_rules_145 rfl (lv_at hl 2 rfl) ?_
  refine lv_iload_n hx hb dX12_rules_146 rfl (lv_at hl 1 rfl) ?_
  refine u_12_5 F w (a := 146) rfl tb_227 dX12_rules_147 (fun H locs w => ?_)
  rw [st_same ((st_ne (by decide)).trans ((st_ne (by decide)).trans ((st_ne (by decide)).trans h6)))] at w
  refine lv_iload_n hx hb dX12_rules_150 rfl (lv_at hl 1 rfl) ?_
  exact e_i F w hr hlocks ⟨rfl, rfl⟩ dX12_rules_151
theorem tk_X12_rules : Cond.code yX12_rules cX12_rules 3 (some .int) ∈ TB := tbm (tc5 (List.mem_of_getElem? (i := 201) rfl)) rfl
theorem gc_X12_rules : GoodIn TB (cw yX12_rules cX12_rules 3 (some .int)) := goodIn_c2 tk_X12_rules
theorem tb_228 : Cond.methodLink "ToneLinesLaw" 31 yX12_rules ∈ TB := tbm (tc5 (List.mem_of_getElem? (i := 198) rfl)) rfl
theorem tb_229 : Cond.instanceMethod yX12_rules ∈ TB := tbm (tc5 (List.mem_of_getElem? (i := 199) rfl)) rfl
theorem tb_230 : Cond.selects "ToneLinesModel" yX12_rules yX12_rules ∈ TB := tbm (tc5 (List.mem_of_getElem? (i := 200) rfl)) rfl
theorem gv_L_31 : GoodIn TB (wsV RL 31 RX12 yX12_rules (cw yX12_rules cX12_rules 3 (some .int))) := goodIn_4 tb_228 tb_229 tb_230 tb_150 gc_X12_rules
theorem hv_X12_rules : yX12_rules.cls = RX12 ∧ yX12_rules.cls ≠ "java/lang/invoke/MethodHandle" ∧ yX12_rules.cls ≠ "java/lang/invoke/VarHandle" ∧ (parseMethodDescriptor yX12_rules.desc).map (fun d => d.parameters.length) = some 0 := by decide +kernel
theorem dL_law_271 : decode cL_law 271 = .ok (.if_icmp .eq 794, 3) := by decide +kernel
set_option maxRecDepth 8000 in
theorem la_3_6 {p : Program} {l : Launch} {e : Env} {s : State} {m : MethodId} {below : List Frame} {meth : Method} {c : Code} {D : va_G} {B b : Nat} {cy : Nat → ClassId} {H : Heap} {locs : List Loc} {ls : Array Slot} {xs : Nat → Int32} {Q : State → Prop} (F : CallFix p m c code 4 s #[Value.ref b] TB RL) (hX : va_X b 6 xs s s.heap) (hbl : b < s.heap.size) (hbA : ¬ B ≤ b) (w : Wd D B cy s s.heap M0 H locs) (hl : lv_has ls 4 [(3, .int 0), (2, .ref (B + 146)), (1, .ref (B + 0)), (0, .ref b)]) (kk : ∀ (M1 : Mem) (H1 : Heap) (locs1 : List Loc), Wd D B cy s s.heap M1 H1 locs1 → W p l e room_1 s m #[Value.ref b] below meth c H1 locs1 159 13107 Q (F0 m 1065 ls [])) : W p l e room_1 s m #[Value.ref b] below meth c H locs 159 13107 Q (F0 m 263 ls []) := by
  have hx := F.1
  have hb := F.2.1
  refine lv_aload_n hx hb dL_law_263 rfl (lv_at hl 2 rfl) ?_
  refine x_Vi F w (As := []) (rest := []) (a := 0) (by decide) (sh_11 rfl _ _) rfl (c_X11_rules_89 (rfl) (rfl) (rfl) (rfl) (rfl) (rfl) (rfl) (rfl) (rfl)) gv_L_28 hv_X11_rules ⟨Nat.le_of_ble_eq_true rfl, Nat.le_of_ble_eq_true rfl⟩ hl.1 rfl (Nat.le_of_ble_eq_true rfl) ⟨Nat.le_of_ble_eq_true rfl, Nat.le_of_ble_eq_true rfl⟩ dL_law_264 (fun H locs w => ?_)
  refine lv_aload_n hx hb dL_law_267 rfl (lv_at hl 1 rfl) ?_
  refine x_Vi F w (As := []) (rest := [.int 0]) (a := 146) (by decide) (sh_12 rfl _ _) rfl (c_X12_rules_91 (rfl) (rfl) (rfl) (rfl) (rfl) (rfl) (rfl)) gv_L_31 hv_X12_rules ⟨Nat.le_of_ble_eq_true rfl, Nat.le_of_ble_eq_true rfl⟩ hl.1 rfl (Nat.le_of_ble_eq_true rfl) ⟨Nat.le_of_ble_eq_true rfl, Nat.le_of_ble_eq_true rfl⟩ dL_law_268 (fun H locs w => ?_)
  refine lv_icmp_eq (tgt := 1065) hx hb dL_law_271 (by decide) (fun _ => ?_) (fun c1 => absurd c1 (by decide))
  exact kk _ _ _ w
set_option maxRecDepth 8000 in
theorem lc_3 {p : Program} {l : Launch} {e : Env} {s : State} {m : MethodId} {below : List Frame} {meth : Method} {c : Code} {D : va_G} {B b : Nat} {cy : Nat → ClassId} {H : Heap} {locs : List Loc} {ls : Array Slot} {xs : Nat → Int32} {Q : State → Prop} (F : CallFix p m c code 4 s #[Value.ref b] TB RL) (hX : va_X b 6 xs s s.heap) (hbl : b < s.heap.size) (hbA : ¬ B ≤ b) (w : Wd D B cy s s.heap M0 H locs) (hl : lv_has ls 4 [(3, .int 0), (2, .ref (B + 146)), (1, .ref (B + 0)), (0, .ref b)]) (kk : ∀ (M1 : Mem) (H1 : Heap) (locs1 : List Loc), Wd D B cy s s.heap M1 H1 locs1 → W p l e room_1 s m #[Value.ref b] below meth c H1 locs1 159 13107 Q (F0 m 1065 ls [])) : W p l e room_1 s m #[Value.ref b] below meth c H locs 159 13107 Q (F0 m 263 ls []) := by
  exact la_3_6 F hX hbl hbA w hl  kk
theorem dL_law_276 : decode cL_law 276 = .ok (.aload_n 1, 1) := by decide +kernel
theorem dL_law_277 : decode cL_law 277 = .ok (.aload_n 0, 1) := by decide +kernel
theorem dL_law_278 : decode cL_law 278 = .ok (.iload_n 3, 1) := by decide +kernel
theorem dL_law_279 : decode cL_law 279 = .ok (.iconst 1, 1) := by decide +kernel
theorem dL_law_280 : decode cL_law 280 = .ok (.iadd, 1) := by decide +kernel
theorem dL_law_281 : decode cL_law 281 = .ok (.iaload, 1) := by decide +kernel
theorem dL_law_282 : decode cL_law 282 = .ok (.aload_n 0, 1) := by decide +kernel
theorem dL_law_283 : decode cL_law 283 = .ok (.iload_n 3, 1) := by decide +kernel
theorem dL_law_284 : decode cL_law 284 = .ok (.iconst 2, 1) := by decide +kernel
theorem dL_law_285 : decode cL_law 285 = .ok (.iadd, 1) := by decide +kernel
theorem dL_law_286 : decode cL_law 286 = .ok (.iaload, 1) := by decide +kernel
theorem dL_law_287 : decode cL_law 287 = .ok (.invokevirtual 32, 3) := by decide +kernel
theorem dX11_line_0 : decode cX11_line 0 = .ok (.aload_n 0, 1) := by decide +kernel
theorem dX11_line_1 : decode cX11_line 1 = .ok (.getfield 43, 3) := by decide +kernel
theorem dX11_line_4 : decode cX11_line 4 = .ok (.iload_n 1, 1) := by decide +kernel
theorem dX11_line_5 : decode cX11_line 5 = .ok (.iload_n 2, 1) := by decide +kernel
theorem dX11_line_6 : decode cX11_line 6 = .ok (.invokevirtual 119, 3) := by decide +kernel
theorem dX9_isOpen_0 : decode cX9_isOpen 0 = .ok (.aload_n 0, 1) := by decide +kernel
theorem dX9_isOpen_1 : decode cX9_isOpen 1 = .ok (.iload_n 1, 1) := by decide +kernel
theorem dX9_isOpen_2 : decode cX9_isOpen 2 = .ok (.invokevirtual 41, 3) := by decide +kernel
theorem dX9_hasTone_0 : decode cX9_hasTone 0 = .ok (.iload_n 1, 1) := by decide +kernel
theorem dX9_hasTone_1 : decode cX9_hasTone 1 = .ok (.ifCond .lt 21, 3) := by decide +kernel
theorem dX9_hasTone_22 : decode cX9_hasTone 22 = .ok (.iconst 0, 1) := by decide +kernel
theorem dX9_hasTone_23 : decode cX9_hasTone 23 = .ok (.ireturn, 1) := by decide +kernel
set_option maxRecDepth 4000 in
theorem c_X9_hasTone_92 {l : Launch} {D : va_G} {B : Nat} {cy : Nat → ClassId} {M : Mem} {p1 : Int32} (h0 : p1 < 0) : Ci l D B cy yX9_hasTone cX9_hasTone 2 (some .boolean) 0 0 [.ref (B + 44), .int p1] M (fun r M1 => r = 0 ∧ M1 = M) := by
  refine s_any (by decide) (Nat.le_of_ble_eq_true rfl) ?_
  intro p e s m below meth c ls F hr hlocks w hl
  have F : CallFix p m c cX9_hasTone 2 s _ TB RX9 := F
  have hx := F.1
  have hb := F.2.1
  have hl : lv_has ls 2 [(0, .ref (B + 44)), (1, .int p1)] := hl
  refine lv_iload_n hx hb dX9_hasTone_0 rfl (lv_at hl 1 rfl) ?_
  refine lv_if_lt (tgt := 22) hx hb dX9_hasTone_1 (by decide) (fun _ => ?_) (fun c1 => absurd h0 c1)
  refine lv_iconst (v := 0) hx hb dX9_hasTone_22 (by decide) ?_
  exact e_z F w hr hlocks (by decide) ⟨rfl, rfl⟩ dX9_hasTone_23
theorem tk_X9_hasTone : Cond.code yX9_hasTone cX9_hasTone 2 (some .boolean) ∈ TB := tbm (tc3 (List.mem_of_getElem? (i := 9) rfl)) rfl
theorem gc_X9_hasTone : GoodIn TB (cw yX9_hasTone cX9_hasTone 2 (some .boolean)) := goodIn_c2 tk_X9_hasTone
theorem tb_231 : Cond.methodLink "ToneLines$Word" 41 yX9_hasTone ∈ TB := tbm (tc3 (List.mem_of_getElem? (i := 6) rfl)) rfl
theorem tb_232 : Cond.instanceMethod yX9_hasTone ∈ TB := tbm (tc3 (List.mem_of_getElem? (i := 7) rfl)) rfl
theorem tb_233 : Cond.selects "ToneLines$Word" yX9_hasTone yX9_hasTone ∈ TB := tbm (tc3 (List.mem_of_getElem? (i := 8) rfl)) rfl
theorem gv_X9_41 : GoodIn TB (wsV RX9 41 RX9 yX9_hasTone (cw yX9_hasTone cX9_hasTone 2 (some .boolean))) := goodIn_4 tb_231 tb_232 tb_233 tb_61 gc_X9_hasTone
theorem hv_X9_hasTone : yX9_hasTone.cls = RX9 ∧ yX9_hasTone.cls ≠ "java/lang/invoke/MethodHandle" ∧ yX9_hasTone.cls ≠ "java/lang/invoke/VarHandle" ∧ (parseMethodDescriptor yX9_hasTone.desc).map (fun d => d.parameters.length) = some 1 := by decide +kernel
theorem dX9_isOpen_5 : decode cX9_isOpen 5 = .ok (.ifCond .eq 40, 3) := by decide +kernel
theorem dX9_isOpen_45 : decode cX9_isOpen 45 = .ok (.iconst 0, 1) := by decide +kernel
theorem dX9_isOpen_46 : decode cX9_isOpen 46 = .ok (.ireturn, 1) := by decide +kernel
set_option maxRecDepth 4000 in
theorem c_X9_isOpen_93 {l : Launch} {D : va_G} {B : Nat} {cy : Nat → ClassId} {M : Mem} {p1 : Int32} {p2 : Int32} (h0 : p1 < 0) : Ci l D B cy yX9_isOpen cX9_isOpen 3 (some .boolean) 1 21 [.ref (B + 44), .int p1, .int p2] M (fun r M1 => r = 0 ∧ M1 = M) := by
  refine s_any (by decide) (Nat.le_of_ble_eq_true rfl) ?_
  intro p e s m below meth c ls F hr hlocks w hl
  have F : CallFix p m c cX9_isOpen 3 s _ TB RX9 := F
  have hx := F.1
  have hb := F.2.1
  have hl : lv_has ls 3 [(0, .ref (B + 44)), (1, .int p1), (2, .int p2)] := hl
  refine lv_aload_n hx hb dX9_isOpen_0 rfl (lv_at hl 0 rfl) ?_
  refine lv_iload_n hx hb dX9_isOpen_1 rfl (lv_at hl 1 rfl) ?_
  refine x_Vi F w (As := [.int p1]) (rest := []) (a := 44) (by decide) (sh_9 rfl _ _) rfl (c_X9_hasTone_92 h0) gv_X9_41 hv_X9_hasTone ⟨Nat.le_of_ble_eq_true rfl, Nat.le_of_ble_eq_true rfl⟩ hl.1 rfl (Nat.le_of_ble_eq_true rfl) ⟨Nat.zero_le _, Nat.zero_le _⟩ dX9_isOpen_2 (fun H locs w => ?_)
  refine lv_if_eq (tgt := 45) hx hb dX9_isOpen_5 (by decide) (fun _ => ?_) (fun c1 => absurd c1 (by decide))
  refine lv_iconst (v := 0) hx hb dX9_isOpen_45 (by decide) ?_
  exact e_z F w hr hlocks (by decide) ⟨rfl, rfl⟩ dX9_isOpen_46
theorem tk_X9_isOpen : Cond.code yX9_isOpen cX9_isOpen 3 (some .boolean) ∈ TB := tbm (tc3 (List.mem_of_getElem? (i := 5) rfl)) rfl
theorem gc_X9_isOpen : GoodIn TB (cw yX9_isOpen cX9_isOpen 3 (some .boolean)) := goodIn_c2 tk_X9_isOpen
theorem tb_234 : Cond.methodLink "ToneLines" 119 yX9_isOpen ∈ TB := tbm (tc3 (List.mem_of_getElem? (i := 137) rfl)) rfl
theorem tb_235 : Cond.instanceMethod yX9_isOpen ∈ TB := tbm (tc3 (List.mem_of_getElem? (i := 3) rfl)) rfl
theorem tb_236 : Cond.selects "ToneLines$Word" yX9_isOpen yX9_isOpen ∈ TB := tbm (tc3 (List.mem_of_getElem? (i := 4) rfl)) rfl
theorem gv_X11_119 : GoodIn TB (wsV RX11 119 RX9 yX9_isOpen (cw yX9_isOpen cX9_isOpen 3 (some .boolean))) := goodIn_4 tb_234 tb_235 tb_236 tb_61 gc_X9_isOpen
theorem hv_X9_isOpen : yX9_isOpen.cls = RX9 ∧ yX9_isOpen.cls ≠ "java/lang/invoke/MethodHandle" ∧ yX9_isOpen.cls ≠ "java/lang/invoke/VarHandle" ∧ (parseMethodDescriptor yX9_isOpen.desc).map (fun d => d.parameters.length) = some 2 := by decide +kernel
theorem dX11_line_9 : decode cX11_line 9 = .ok (.ifCond .ne 5, 3) := by decide +kernel
theorem dX11_line_12 : decode cX11_line 12 = .ok (.iconst 0, 1) := by decide +kernel
theorem dX11_line_13 : decode cX11_line 13 = .ok (.ireturn, 1) := by decide +kernel
set_option maxRecDepth 4000 in
theorem c_X11_line_94 {l : Launch} {D : va_G} {B : Nat} {cy : Nat → ClassId} {M : Mem} {p1 : Int32} {p2 : Int32} (h0 : p1 < 0) : Ci l D B cy yX11_line cX11_line 3 (some .boolean) 2 43 [.ref (B + 0), .int p1, .int p2] M (fun r M1 => r = 0 ∧ M1 = M) := by
  refine s_any (by decide) (Nat.le_of_ble_eq_true rfl) ?_
  intro p e s m below meth c ls F hr hlocks w hl
  have F : CallFix p m c cX11_line 3 s _ TB RX11 := F
  have hx := F.1
  have hb := F.2.1
  have hl : lv_has ls 3 [(0, .ref (B + 0)), (1, .int p1), (2, .int p2)] := hl
  refine lv_aload_n hx hb dX11_line_0 rfl (lv_at hl 0 rfl) ?_
  refine f_11_4 F w (a := 0) rfl tb_75 dX11_line_1 ?_
  refine lv_iload_n hx hb dX11_line_4 rfl (lv_at hl 1 rfl) ?_
  refine lv_iload_n hx hb dX11_line_5 rfl (lv_at hl 2 rfl) ?_
  refine x_Vi F w (As := [.int p1, .int p2]) (rest := []) (a := 44) (by decide) (sh_9 rfl _ _) rfl (c_X9_isOpen_93 h0) gv_X11_119 hv_X9_isOpen ⟨Nat.le_of_ble_eq_true rfl, Nat.le_of_ble_eq_true rfl⟩ hl.1 rfl (Nat.le_of_ble_eq_true rfl) ⟨Nat.zero_le _, Nat.zero_le _⟩ dX11_line_6 (fun H locs w => ?_)
  refine lv_if_ne (tgt := 14) hx hb dX11_line_9 (by decide) (fun c1 => absurd c1 (by decide)) (fun _ => ?_)
  refine lv_iconst (v := 0) hx hb dX11_line_12 (by decide) ?_
  exact e_z F w hr hlocks (by decide) ⟨rfl, rfl⟩ dX11_line_13
theorem tk_X11_line : Cond.code yX11_line cX11_line 3 (some .boolean) ∈ TB := tbm (tc3 (List.mem_of_getElem? (i := 136) rfl)) rfl
theorem gc_X11_line : GoodIn TB (cw yX11_line cX11_line 3 (some .boolean)) := goodIn_c2 tk_X11_line
theorem tb_237 : Cond.methodLink "ToneLinesLaw" 32 yX11_line ∈ TB := tbm (tc3 (List.mem_of_getElem? (i := 133) rfl)) rfl
theorem tb_238 : Cond.instanceMethod yX11_line ∈ TB := tbm (tc3 (List.mem_of_getElem? (i := 134) rfl)) rfl
theorem tb_239 : Cond.selects "ToneLines" yX11_line yX11_line ∈ TB := tbm (tc3 (List.mem_of_getElem? (i := 135) rfl)) rfl
theorem gv_L_32 : GoodIn TB (wsV RL 32 RX11 yX11_line (cw yX11_line cX11_line 3 (some .boolean))) := goodIn_4 tb_237 tb_238 tb_239 tb_145 gc_X11_line
theorem hv_X11_line : yX11_line.cls = RX11 ∧ yX11_line.cls ≠ "java/lang/invoke/MethodHandle" ∧ yX11_line.cls ≠ "java/lang/invoke/VarHandle" ∧ (parseMethodDescriptor yX11_line.desc).map (fun d => d.parameters.length) = some 2 := by decide +kernel
theorem dL_law_290 : decode cL_law 290 = .ok (.aload_n 2, 1) := by decide +kernel
theorem dL_law_291 : decode cL_law 291 = .ok (.aload_n 0, 1) := by decide +kernel
theorem dL_law_292 : decode cL_law 292 = .ok (.iload_n 3, 1) := by decide +kernel
theorem dL_law_293 : decode cL_law 293 = .ok (.iconst 1, 1) := by decide +kernel
theorem dL_law_294 : decode cL_law 294 = .ok (.iadd, 1) := by decide +kernel
theorem dL_law_295 : decode cL_law 295 = .ok (.iaload, 1) := by decide +kernel
theorem dL_law_296 : decode cL_law 296 = .ok (.aload_n 0, 1) := by decide +kernel
theorem dL_law_297 : decode cL_law 297 = .ok (.iload_n 3, 1) := by decide +kernel
theorem dL_law_298 : decode cL_law 298 = .ok (.iconst 2, 1) := by decide +kernel
theorem dL_law_299 : decode cL_law 299 = .ok (.iadd, 1) := by decide +kernel
theorem dL_law_300 : decode cL_law 300 = .ok (.iaload, 1) := by decide +kernel
theorem dL_law_301 : decode cL_law 301 = .ok (.invokevirtual 36, 3) := by decide +kernel
theorem dX12_line_0 : decode cX12_line 0 = .ok (.aload_n 0, 1) := by decide +kernel
theorem dX12_line_1 : decode cX12_line 1 = .ok (.getfield 13, 3) := by decide +kernel
theorem dX12_line_4 : decode cX12_line 4 = .ok (.iload_n 1, 1) := by decide +kernel
theorem dX12_line_5 : decode cX12_line 5 = .ok (.invokestatic 105, 3) := by decide +kernel
theorem dX12_isTone_0 : decode cX12_isTone 0 = .ok (.iload_n 1, 1) := by decide +kernel
theorem dX12_isTone_1 : decode cX12_isTone 1 = .ok (.iconst 0, 1) := by decide +kernel
theorem dX12_isTone_2 : decode cX12_isTone 2 = .ok (.aload_n 0, 1) := by decide +kernel
theorem dX12_isTone_3 : decode cX12_isTone 3 = .ok (.iconst 0, 1) := by decide +kernel
theorem dX12_isTone_4 : decode cX12_isTone 4 = .ok (.iaload, 1) := by decide +kernel
theorem dX12_isTone_5 : decode cX12_isTone 5 = .ok (.iconst 1, 1) := by decide +kernel
theorem dX12_isTone_6 : decode cX12_isTone 6 = .ok (.isub, 1) := by decide +kernel
theorem dX12_isTone_7 : decode cX12_isTone 7 = .ok (.invokestatic 55, 3) := by decide +kernel
set_option maxRecDepth 4000 in
theorem c_X12_in_95 {l : Launch} {D : va_G} {B : Nat} {cy : Nat → ClassId} {M : Mem} {p0 : Int32} (h0 : p0 < 0) : Ci l D B cy yX12_in cX12_in 3 (some .boolean) 0 0 [.int p0, .int 0, .int (-1)] M (fun r M1 => r = 0 ∧ M1 = M) := by
  refine s_any (by decide) (Nat.le_of_ble_eq_true rfl) ?_
  intro p e s m below meth c ls F hr hlocks w hl
  have F : CallFix p m c cX12_in 3 s _ TB RX12 := F
  have hx := F.1
  have hb := F.2.1
  have hl : lv_has ls 3 [(0, .int p0), (1, .int 0), (2, .int (-1))] := hl
  refine lv_iload_n hx hb dX12_in_0 rfl (lv_at hl 0 rfl) ?_
  refine lv_iload_n hx hb dX12_in_1 rfl (lv_at hl 1 rfl) ?_
  refine lv_icmp_lt (tgt := 14) hx hb dX12_in_2 (by decide) (fun _ => ?_) (fun c1 => absurd h0 c1)
  refine lv_iconst (v := 0) hx hb dX12_in_14 (by decide) ?_
  exact e_z F w hr hlocks (by decide) ⟨rfl, rfl⟩ dX12_in_15
theorem dX12_isTone_10 : decode cX12_isTone 10 = .ok (.ireturn, 1) := by decide +kernel
set_option maxRecDepth 4000 in
theorem c_X12_isTone_96 {l : Launch} {D : va_G} {B : Nat} {cy : Nat → ClassId} {M : Mem} {p1 : Int32} (h0 : M.1 147 0 = 0) (h1 : p1 < 0) : Ci l D B cy yX12_isTone cX12_isTone 2 (some .boolean) 1 22 [.ref (B + 147), .int p1] M (fun r M1 => r = 0 ∧ M1 = M) := by
  refine s_any (by decide) (Nat.le_of_ble_eq_true rfl) ?_
  intro p e s m below meth c ls F hr hlocks w hl
  have F : CallFix p m c cX12_isTone 2 s _ TB RX12 := F
  have hx := F.1
  have hb := F.2.1
  have hl : lv_has ls 2 [(0, .ref (B + 147)), (1, .int p1)] := hl
  refine lv_iload_n hx hb dX12_isTone_0 rfl (lv_at hl 1 rfl) ?_
  refine lv_iconst (v := 0) hx hb dX12_isTone_1 (by decide) ?_
  refine lv_aload_n hx hb dX12_isTone_2 rfl (lv_at hl 0 rfl) ?_
  refine lv_iconst (v := 0) hx hb dX12_isTone_3 (by decide) ?_
  refine g_iald F w (a := 147) rfl (j := 0) ⟨by decide, by decide⟩ (by decide) dX12_isTone_4 ?_
  refine r_val (v := 0) (h0) ?_
  refine lv_iconst (v := 1) hx hb dX12_isTone_5 (by decide) ?_
  refine lv_isub hx hb dX12_isTone_6 ?_
  refine r_val (v := (-1)) (by decide) ?_
  refine x_Si F w (As := [.int p1, .int 0, .int (-1)]) (rest := []) (c_X12_in_95 h1) gs_X12_55 hs_X12_in ⟨Nat.le_of_ble_eq_true rfl, Nat.le_of_ble_eq_true rfl⟩ hl.1 rfl (Nat.le_of_ble_eq_true rfl) ⟨Nat.zero_le _, Nat.zero_le _⟩ dX12_isTone_7 (fun H locs w => ?_)
  exact e_z F w hr hlocks (by decide) ⟨rfl, rfl⟩ dX12_isTone_10
theorem tk_X12_isTone : Cond.code yX12_isTone cX12_isTone 2 (some .boolean) ∈ TB := tbm (tc6 (List.mem_of_getElem? (i := 2) rfl)) rfl
theorem gc_X12_isTone : GoodIn TB (cw yX12_isTone cX12_isTone 2 (some .boolean)) := goodIn_c2 tk_X12_isTone
theorem tb_240 : Cond.methodLink "ToneLinesModel" 105 yX12_isTone ∈ TB := tbm (tc6 (List.mem_of_getElem? (i := 0) rfl)) rfl
theorem tb_241 : Cond.static yX12_isTone ∈ TB := tbm (tc6 (List.mem_of_getElem? (i := 1) rfl)) rfl
theorem gs_X12_105 : GoodIn TB (va_wsS RX12 105 yX12_isTone (cw yX12_isTone cX12_isTone 2 (some .boolean))) := goodIn_3 tb_240 tb_241 tb_150 gc_X12_isTone
theorem hs_X12_isTone : yX12_isTone.cls ≠ "java/lang/invoke/MethodHandle" ∧ yX12_isTone.cls ≠ "java/lang/invoke/VarHandle" ∧ (parseMethodDescriptor yX12_isTone.desc).map (fun d => d.parameters.length) = some 2 := by decide +kernel
theorem dX12_line_8 : decode cX12_line 8 = .ok (.ifCond .eq 26, 3) := by decide +kernel
theorem dX12_line_34 : decode cX12_line 34 = .ok (.iconst 0, 1) := by decide +kernel
theorem dX12_line_35 : decode cX12_line 35 = .ok (.ireturn, 1) := by decide +kernel
set_option maxRecDepth 4000 in
theorem c_X12_line_97 {l : Launch} {D : va_G} {B : Nat} {cy : Nat → ClassId} {M : Mem} {p1 : Int32} {p2 : Int32} (h0 : M.1 147 0 = 0) (h1 : p1 < 0) : Ci l D B cy yX12_line cX12_line 3 (some .boolean) 2 43 [.ref (B + 146), .int p1, .int p2] M (fun r M1 => r = 0 ∧ M1 = M) := by
  refine s_any (by decide) (Nat.le_of_ble_eq_true rfl) ?_
  intro p e s m below meth c ls F hr hlocks w hl
  have F : CallFix p m c cX12_line 3 s _ TB RX12 := F
  have hx := F.1
  have hb := F.2.1
  have hl : lv_has ls 3 [(0, .ref (B + 146)), (1, .int p1), (2, .int p2)] := hl
  refine lv_aload_n hx hb dX12_line_0 rfl (lv_at hl 0 rfl) ?_
  refine f_12_1 F w (a := 146) rfl tb_126 dX12_line_1 ?_
  refine lv_iload_n hx hb dX12_line_4 rfl (lv_at hl 1 rfl) ?_
  refine x_Si F w (As := [.ref (B + 147), .int p1]) (rest := []) (c_X12_isTone_96 (h0) h1) gs_X12_105 hs_X12_isTone ⟨Nat.le_of_ble_eq_true rfl, Nat.le_of_ble_eq_true rfl⟩ hl.1 rfl (Nat.le_of_ble_eq_true rfl) ⟨Nat.zero_le _, Nat.zero_le _⟩ dX12_line_5 (fun H locs w => ?_)
  refine lv_if_eq (tgt := 34) hx hb dX12_line_8 (by decide) (fun _ => ?_) (fun c1 => absurd c1 (by decide))
  refine lv_iconst (v := 0) hx hb dX12_line_34 (by decide) ?_
  exact e_z F w hr hlocks (by decide) ⟨rfl, rfl⟩ dX12_line_35
theorem tk_X12_line : Cond.code yX12_line cX12_line 3 (some .boolean) ∈ TB := tbm (tc5 (List.mem_of_getElem? (i := 239) rfl)) rfl
theorem gc_X12_line : GoodIn TB (cw yX12_line cX12_line 3 (some .boolean)) := goodIn_c2 tk_X12_line
theorem tb_242 : Cond.methodLink "ToneLinesLaw" 36 yX12_line ∈ TB := tbm (tc5 (List.mem_of_getElem? (i := 236) rfl)) rfl
theorem tb_243 : Cond.instanceMethod yX12_line ∈ TB := tbm (tc5 (List.mem_of_getElem? (i := 237) rfl)) rfl
theorem tb_244 : Cond.selects "ToneLinesModel" yX12_line yX12_line ∈ TB := tbm (tc5 (List.mem_of_getElem? (i := 238) rfl)) rfl
theorem gv_L_36 : GoodIn TB (wsV RL 36 RX12 yX12_line (cw yX12_line cX12_line 3 (some .boolean))) := goodIn_4 tb_242 tb_243 tb_244 tb_150 gc_X12_line
theorem hv_X12_line : yX12_line.cls = RX12 ∧ yX12_line.cls ≠ "java/lang/invoke/MethodHandle" ∧ yX12_line.cls ≠ "java/lang/invoke/VarHandle" ∧ (parseMethodDescriptor yX12_line.desc).map (fun d => d.parameters.length) = some 2 := by decide +kernel
theorem dL_law_304 : decode cL_law 304 = .ok (.if_icmp .eq 761, 3) := by decide +kernel
set_option maxRecDepth 8000 in
theorem la_4_7 {p : Program} {l : Launch} {e : Env} {s : State} {m : MethodId} {below : List Frame} {meth : Method} {c : Code} {D : va_G} {B b : Nat} {cy : Nat → ClassId} {H : Heap} {locs : List Loc} {ls : Array Slot} {xs : Nat → Int32} {Q : State → Prop} (F : CallFix p m c code 4 s #[Value.ref b] TB RL) (hX : va_X b 6 xs s s.heap) (hbl : b < s.heap.size) (hbA : ¬ B ≤ b) (w : Wd D B cy s s.heap M0 H locs) (hl : lv_has ls 4 [(3, .int 0), (2, .ref (B + 146)), (1, .ref (B + 0)), (0, .ref b)]) (h0 : (xs 1) < 0) (kk : ∀ (M1 : Mem) (H1 : Heap) (locs1 : List Loc), Wd D B cy s s.heap M1 H1 locs1 → W p l e room_1 s m #[Value.ref b] below meth c H1 locs1 159 13107 Q (F0 m 1065 ls [])) : W p l e room_1 s m #[Value.ref b] below meth c H locs 159 13107 Q (F0 m 276 ls []) := by
  have hx := F.1
  have hb := F.2.1
  refine lv_aload_n hx hb dL_law_276 rfl (lv_at hl 2 rfl) ?_
  refine lv_aload_n hx hb dL_law_277 rfl (lv_at hl 3 rfl) ?_
  refine lv_iload_n hx hb dL_law_278 rfl (lv_at hl 0 rfl) ?_
  refine lv_iconst (v := 1) hx hb dL_law_279 (by decide) ?_
  refine lv_iadd hx hb dL_law_280 ?_
  refine r_val (v := 1) (by decide) ?_
  refine va_sld hx hb hX hbl hbA w.2.2.1 (vpi (by decide) (by decide)) dL_law_281 ?_
  refine r_val (v := xs 1) (congrArg xs (show (1 : Int32).toNatClampNeg = 1 by decide)) ?_
  refine lv_aload_n hx hb dL_law_282 rfl (lv_at hl 3 rfl) ?_
  refine lv_iload_n hx hb dL_law_283 rfl (lv_at hl 0 rfl) ?_
  refine lv_iconst (v := 2) hx hb dL_law_284 (by decide) ?_
  refine lv_iadd hx hb dL_law_285 ?_
  refine r_val (v := 2) (by decide) ?_
  refine va_sld hx hb hX hbl hbA w.2.2.1 (vpi (by decide) (by decide)) dL_law_286 ?_
  refine r_val (v := xs 2) (congrArg xs (show (2 : Int32).toNatClampNeg = 2 by decide)) ?_
  refine x_Vi F w (As := [.int (xs 1), .int (xs 2)]) (rest := []) (a := 0) (by decide) (sh_11 rfl _ _) rfl (c_X11_line_94 h0) gv_L_32 hv_X11_line ⟨Nat.le_of_ble_eq_true rfl, Nat.le_of_ble_eq_true rfl⟩ hl.1 rfl (Nat.le_of_ble_eq_true rfl) ⟨Nat.le_of_ble_eq_true rfl, Nat.le_of_ble_eq_true rfl⟩ dL_law_287 (fun H locs w => ?_)
  refine lv_aload_n hx hb dL_law_290 rfl (lv_at hl 1 rfl) ?_
  refine lv_aload_n hx hb dL_law_291 rfl (lv_at hl 3 rfl) ?_
  refine lv_iload_n hx hb dL_law_292 rfl (lv_at hl 0 rfl) ?_
  refine lv_iconst (v := 1) hx hb dL_law_293 (by decide) ?_
  refine lv_iadd hx hb dL_law_294 ?_
  refine r_val (v := 1) (by decide) ?_
  refine va_sld hx hb hX hbl hbA w.2.2.1 (vpi (by decide) (by decide)) dL_law_295 ?_
  refine r_val (v := xs 1) (congrArg xs (show (1 : Int32).toNatClampNeg = 1 by decide)) ?_
  refine lv_aload_n hx hb dL_law_296 rfl (lv_at hl 3 rfl) ?_
  refine lv_iload_n hx hb dL_law_297 rfl (lv_at hl 0 rfl) ?_
  refine lv_iconst (v := 2) hx hb dL_law_298 (by decide) ?_
  refine lv_iadd hx hb dL_law_299 ?_
  refine r_val (v := 2) (by decide) ?_
  refine va_sld hx hb hX hbl hbA w.2.2.1 (vpi (by decide) (by decide)) dL_law_300 ?_
  refine r_val (v := xs 2) (congrArg xs (show (2 : Int32).toNatClampNeg = 2 by decide)) ?_
  refine x_Vi F w (As := [.int (xs 1), .int (xs 2)]) (rest := [.int 0]) (a := 146) (by decide) (sh_12 rfl _ _) rfl (c_X12_line_97 (rfl) h0) gv_L_36 hv_X12_line ⟨Nat.le_of_ble_eq_true rfl, Nat.le_of_ble_eq_true rfl⟩ hl.1 rfl (Nat.le_of_ble_eq_true rfl) ⟨Nat.le_of_ble_eq_true rfl, Nat.le_of_ble_eq_true rfl⟩ dL_law_301 (fun H locs w => ?_)
  refine lv_icmp_eq (tgt := 1065) hx hb dL_law_304 (by decide) (fun _ => ?_) (fun c1 => absurd c1 (by decide))
  exact kk _ _ _ w
theorem dX9_hasTone_4 : decode cX9_hasTone 4 = .ok (.iload_n 1, 1) := by decide +kernel
theorem dX9_hasTone_5 : decode cX9_hasTone 5 = .ok (.aload_n 0, 1) := by decide +kernel
theorem dX9_hasTone_6 : decode cX9_hasTone 6 = .ok (.getfield 9, 3) := by decide +kernel
theorem dX9_hasTone_9 : decode cX9_hasTone 9 = .ok (.if_icmp .ge 13, 3) := by decide +kernel
set_option maxRecDepth 4000 in
theorem c_X9_hasTone_98 {l : Launch} {D : va_G} {B : Nat} {cy : Nat → ClassId} {M : Mem} {p1 : Int32} (h0 : ¬ p1 < 0) (h1 : M.1 44 0 = 0) (h2 : 0 ≤ p1) : Ci l D B cy yX9_hasTone cX9_hasTone 2 (some .boolean) 0 0 [.ref (B + 44), .int p1] M (fun r M1 => r = 0 ∧ M1 = M) := by
  refine s_any (by decide) (Nat.le_of_ble_eq_true rfl) ?_
  intro p e s m below meth c ls F hr hlocks w hl
  have F : CallFix p m c cX9_hasTone 2 s _ TB RX9 := F
  have hx := F.1
  have hb := F.2.1
  have hl : lv_has ls 2 [(0, .ref (B + 44)), (1, .int p1)] := hl
  refine lv_iload_n hx hb dX9_hasTone_0 rfl (lv_at hl 1 rfl) ?_
  refine lv_if_lt (tgt := 22) hx hb dX9_hasTone_1 (by decide) (fun c1 => absurd c1 h0) (fun _ => ?_)
  refine lv_iload_n hx hb dX9_hasTone_4 rfl (lv_at hl 1 rfl) ?_
  refine lv_aload_n hx hb dX9_hasTone_5 rfl (lv_at hl 0 rfl) ?_
  refine f_9_0 F w (a := 44) rfl tb_63 dX9_hasTone_6 ?_
  refine r_val (v := 0) (h1) ?_
  refine lv_icmp_ge (tgt := 22) hx hb dX9_hasTone_9 (by decide) (fun _ => ?_) (fun c1 => absurd h2 c1)
  refine lv_iconst (v := 0) hx hb dX9_hasTone_22 (by decide) ?_
  exact e_z F w hr hlocks (by decide) ⟨rfl, rfl⟩ dX9_hasTone_23
set_option maxRecDepth 4000 in
theorem c_X9_isOpen_99 {l : Launch} {D : va_G} {B : Nat} {cy : Nat → ClassId} {M : Mem} {p1 : Int32} {p2 : Int32} (h0 : ¬ p1 < 0) (h1 : M.1 44 0 = 0) (h2 : 0 ≤ p1) : Ci l D B cy yX9_isOpen cX9_isOpen 3 (some .boolean) 1 21 [.ref (B + 44), .int p1, .int p2] M (fun r M1 => r = 0 ∧ M1 = M) := by
  refine s_any (by decide) (Nat.le_of_ble_eq_true rfl) ?_
  intro p e s m below meth c ls F hr hlocks w hl
  have F : CallFix p m c cX9_isOpen 3 s _ TB RX9 := F
  have hx := F.1
  have hb := F.2.1
  have hl : lv_has ls 3 [(0, .ref (B + 44)), (1, .int p1), (2, .int p2)] := hl
  refine lv_aload_n hx hb dX9_isOpen_0 rfl (lv_at hl 0 rfl) ?_
  refine lv_iload_n hx hb dX9_isOpen_1 rfl (lv_at hl 1 rfl) ?_
  refine x_Vi F w (As := [.int p1]) (rest := []) (a := 44) (by decide) (sh_9 rfl _ _) rfl (c_X9_hasTone_98 h0 (h1) h2) gv_X9_41 hv_X9_hasTone ⟨Nat.le_of_ble_eq_true rfl, Nat.le_of_ble_eq_true rfl⟩ hl.1 rfl (Nat.le_of_ble_eq_true rfl) ⟨Nat.zero_le _, Nat.zero_le _⟩ dX9_isOpen_2 (fun H locs w => ?_)
  refine lv_if_eq (tgt := 45) hx hb dX9_isOpen_5 (by decide) (fun _ => ?_) (fun c1 => absurd c1 (by decide))
  refine lv_iconst (v := 0) hx hb dX9_isOpen_45 (by decide) ?_
  exact e_z F w hr hlocks (by decide) ⟨rfl, rfl⟩ dX9_isOpen_46
set_option maxRecDepth 4000 in
theorem c_X11_line_100 {l : Launch} {D : va_G} {B : Nat} {cy : Nat → ClassId} {M : Mem} {p1 : Int32} {p2 : Int32} (h0 : ¬ p1 < 0) (h1 : M.1 44 0 = 0) (h2 : 0 ≤ p1) : Ci l D B cy yX11_line cX11_line 3 (some .boolean) 2 43 [.ref (B + 0), .int p1, .int p2] M (fun r M1 => r = 0 ∧ M1 = M) := by
  refine s_any (by decide) (Nat.le_of_ble_eq_true rfl) ?_
  intro p e s m below meth c ls F hr hlocks w hl
  have F : CallFix p m c cX11_line 3 s _ TB RX11 := F
  have hx := F.1
  have hb := F.2.1
  have hl : lv_has ls 3 [(0, .ref (B + 0)), (1, .int p1), (2, .int p2)] := hl
  refine lv_aload_n hx hb dX11_line_0 rfl (lv_at hl 0 rfl) ?_
  refine f_11_4 F w (a := 0) rfl tb_75 dX11_line_1 ?_
  refine lv_iload_n hx hb dX11_line_4 rfl (lv_at hl 1 rfl) ?_
  refine lv_iload_n hx hb dX11_line_5 rfl (lv_at hl 2 rfl) ?_
  refine x_Vi F w (As := [.int p1, .int p2]) (rest := []) (a := 44) (by decide) (sh_9 rfl _ _) rfl (c_X9_isOpen_99 h0 (h1) h2) gv_X11_119 hv_X9_isOpen ⟨Nat.le_of_ble_eq_true rfl, Nat.le_of_ble_eq_true rfl⟩ hl.1 rfl (Nat.le_of_ble_eq_true rfl) ⟨Nat.zero_le _, Nat.zero_le _⟩ dX11_line_6 (fun H locs w => ?_)
  refine lv_if_ne (tgt := 14) hx hb dX11_line_9 (by decide) (fun c1 => absurd c1 (by decide)) (fun _ => ?_)
  refine lv_iconst (v := 0) hx hb dX11_line_12 (by decide) ?_
  exact e_z F w hr hlocks (by decide) ⟨rfl, rfl⟩ dX11_line_13
set_option maxRecDepth 4000 in
theorem c_X12_in_101 {l : Launch} {D : va_G} {B : Nat} {cy : Nat → ClassId} {M : Mem} {p0 : Int32} (h0 : ¬ p0 < 0) (h1 : (-1) < p0) : Ci l D B cy yX12_in cX12_in 3 (some .boolean) 0 0 [.int p0, .int 0, .int (-1)] M (fun r M1 => r = 0 ∧ M1 = M) := by
  refine s_any (by decide) (Nat.le_of_ble_eq_true rfl) ?_
  intro p e s m below meth c ls F hr hlocks w hl
  have F : CallFix p m c cX12_in 3 s _ TB RX12 := F
  have hx := F.1
  have hb := F.2.1
  have hl : lv_has ls 3 [(0, .int p0), (1, .int 0), (2, .int (-1))] := hl
  refine lv_iload_n hx hb dX12_in_0 rfl (lv_at hl 0 rfl) ?_
  refine lv_iload_n hx hb dX12_in_1 rfl (lv_at hl 1 rfl) ?_
  refine lv_icmp_lt (tgt := 14) hx hb dX12_in_2 (by decide) (fun c1 => absurd c1 h0) (fun _ => ?_)
  refine lv_iload_n hx hb dX12_in_5 rfl (lv_at hl 0 rfl) ?_
  refine lv_iload_n hx hb dX12_in_6 rfl (lv_at hl 2 rfl) ?_
  refine lv_icmp_gt (tgt := 14) hx hb dX12_in_7 (by decide) (fun _ => ?_) (fun c1 => absurd h1 c1)
  refine lv_iconst (v := 0) hx hb dX12_in_14 (by decide) ?_
  exact e_z F w hr hlocks (by decide) ⟨rfl, rfl⟩ dX12_in_15
set_option maxRecDepth 4000 in
theorem c_X12_isTone_102 {l : Launch} {D : va_G} {B : Nat} {cy : Nat → ClassId} {M : Mem} {p1 : Int32} (h0 : M.1 147 0 = 0) (h1 : ¬ p1 < 0) (h2 : (-1) < p1) : Ci l D B cy yX12_isTone cX12_isTone 2 (some .boolean) 1 22 [.ref (B + 147), .int p1] M (fun r M1 => r = 0 ∧ M1 = M) := by
  refine s_any (by decide) (Nat.le_of_ble_eq_true rfl) ?_
  intro p e s m below meth c ls F hr hlocks w hl
  have F : CallFix p m c cX12_isTone 2 s _ TB RX12 := F
  have hx := F.1
  have hb := F.2.1
  have hl : lv_has ls 2 [(0, .ref (B + 147)), (1, .int p1)] := hl
  refine lv_iload_n hx hb dX12_isTone_0 rfl (lv_at hl 1 rfl) ?_
  refine lv_iconst (v := 0) hx hb dX12_isTone_1 (by decide) ?_
  refine lv_aload_n hx hb dX12_isTone_2 rfl (lv_at hl 0 rfl) ?_
  refine lv_iconst (v := 0) hx hb dX12_isTone_3 (by decide) ?_
  refine g_iald F w (a := 147) rfl (j := 0) ⟨by decide, by decide⟩ (by decide) dX12_isTone_4 ?_
  refine r_val (v := 0) (h0) ?_
  refine lv_iconst (v := 1) hx hb dX12_isTone_5 (by decide) ?_
  refine lv_isub hx hb dX12_isTone_6 ?_
  refine r_val (v := (-1)) (by decide) ?_
  refine x_Si F w (As := [.int p1, .int 0, .int (-1)]) (rest := []) (c_X12_in_101 h1 h2) gs_X12_55 hs_X12_in ⟨Nat.le_of_ble_eq_true rfl, Nat.le_of_ble_eq_true rfl⟩ hl.1 rfl (Nat.le_of_ble_eq_true rfl) ⟨Nat.zero_le _, Nat.zero_le _⟩ dX12_isTone_7 (fun H locs w => ?_)
  exact e_z F w hr hlocks (by decide) ⟨rfl, rfl⟩ dX12_isTone_10
set_option maxRecDepth 4000 in
theorem c_X12_line_103 {l : Launch} {D : va_G} {B : Nat} {cy : Nat → ClassId} {M : Mem} {p1 : Int32} {p2 : Int32} (h0 : M.1 147 0 = 0) (h1 : ¬ p1 < 0) (h2 : (-1) < p1) : Ci l D B cy yX12_line cX12_line 3 (some .boolean) 2 43 [.ref (B + 146), .int p1, .int p2] M (fun r M1 => r = 0 ∧ M1 = M) := by
  refine s_any (by decide) (Nat.le_of_ble_eq_true rfl) ?_
  intro p e s m below meth c ls F hr hlocks w hl
  have F : CallFix p m c cX12_line 3 s _ TB RX12 := F
  have hx := F.1
  have hb := F.2.1
  have hl : lv_has ls 3 [(0, .ref (B + 146)), (1, .int p1), (2, .int p2)] := hl
  refine lv_aload_n hx hb dX12_line_0 rfl (lv_at hl 0 rfl) ?_
  refine f_12_1 F w (a := 146) rfl tb_126 dX12_line_1 ?_
  refine lv_iload_n hx hb dX12_line_4 rfl (lv_at hl 1 rfl) ?_
  refine x_Si F w (As := [.ref (B + 147), .int p1]) (rest := []) (c_X12_isTone_102 (h0) h1 h2) gs_X12_105 hs_X12_isTone ⟨Nat.le_of_ble_eq_true rfl, Nat.le_of_ble_eq_true rfl⟩ hl.1 rfl (Nat.le_of_ble_eq_true rfl) ⟨Nat.zero_le _, Nat.zero_le _⟩ dX12_line_5 (fun H locs w => ?_)
  refine lv_if_eq (tgt := 34) hx hb dX12_line_8 (by decide) (fun _ => ?_) (fun c1 => absurd c1 (by decide))
  refine lv_iconst (v := 0) hx hb dX12_line_34 (by decide) ?_
  exact e_z F w hr hlocks (by decide) ⟨rfl, rfl⟩ dX12_line_35
set_option maxRecDepth 8000 in
theorem la_4_8 {p : Program} {l : Launch} {e : Env} {s : State} {m : MethodId} {below : List Frame} {meth : Method} {c : Code} {D : va_G} {B b : Nat} {cy : Nat → ClassId} {H : Heap} {locs : List Loc} {ls : Array Slot} {xs : Nat → Int32} {Q : State → Prop} (F : CallFix p m c code 4 s #[Value.ref b] TB RL) (hX : va_X b 6 xs s s.heap) (hbl : b < s.heap.size) (hbA : ¬ B ≤ b) (w : Wd D B cy s s.heap M0 H locs) (hl : lv_has ls 4 [(3, .int 0), (2, .ref (B + 146)), (1, .ref (B + 0)), (0, .ref b)]) (h0 : ¬ (xs 1) < 0) (h1 : 0 ≤ (xs 1)) (h2 : (-1) < (xs 1)) (kk : ∀ (M1 : Mem) (H1 : Heap) (locs1 : List Loc), Wd D B cy s s.heap M1 H1 locs1 → W p l e room_1 s m #[Value.ref b] below meth c H1 locs1 159 13107 Q (F0 m 1065 ls [])) : W p l e room_1 s m #[Value.ref b] below meth c H locs 159 13107 Q (F0 m 276 ls []) := by
  have hx := F.1
  have hb := F.2.1
  refine lv_aload_n hx hb dL_law_276 rfl (lv_at hl 2 rfl) ?_
  refine lv_aload_n hx hb dL_law_277 rfl (lv_at hl 3 rfl) ?_
  refine lv_iload_n hx hb dL_law_278 rfl (lv_at hl 0 rfl) ?_
  refine lv_iconst (v := 1) hx hb dL_law_279 (by decide) ?_
  refine lv_iadd hx hb dL_law_280 ?_
  refine r_val (v := 1) (by decide) ?_
  refine va_sld hx hb hX hbl hbA w.2.2.1 (vpi (by decide) (by decide)) dL_law_281 ?_
  refine r_val (v := xs 1) (congrArg xs (show (1 : Int32).toNatClampNeg = 1 by decide)) ?_
  refine lv_aload_n hx hb dL_law_282 rfl (lv_at hl 3 rfl) ?_
  refine lv_iload_n hx hb dL_law_283 rfl (lv_at hl 0 rfl) ?_
  refine lv_iconst (v := 2) hx hb dL_law_284 (by decide) ?_
  refine lv_iadd hx hb dL_law_285 ?_
  refine r_val (v := 2) (by decide) ?_
  refine va_sld hx hb hX hbl hbA w.2.2.1 (vpi (by decide) (by decide)) dL_law_286 ?_
  refine r_val (v := xs 2) (congrArg xs (show (2 : Int32).toNatClampNeg = 2 by decide)) ?_
  refine x_Vi F w (As := [.int (xs 1), .int (xs 2)]) (rest := []) (a := 0) (by decide) (sh_11 rfl _ _) rfl (c_X11_line_100 h0 (rfl) h1) gv_L_32 hv_X11_line ⟨Nat.le_of_ble_eq_true rfl, Nat.le_of_ble_eq_true rfl⟩ hl.1 rfl (Nat.le_of_ble_eq_true rfl) ⟨Nat.le_of_ble_eq_true rfl, Nat.le_of_ble_eq_true rfl⟩ dL_law_287 (fun H locs w => ?_)
  refine lv_aload_n hx hb dL_law_290 rfl (lv_at hl 1 rfl) ?_
  refine lv_aload_n hx hb dL_law_291 rfl (lv_at hl 3 rfl) ?_
  refine lv_iload_n hx hb dL_law_292 rfl (lv_at hl 0 rfl) ?_
  refine lv_iconst (v := 1) hx hb dL_law_293 (by decide) ?_
  refine lv_iadd hx hb dL_law_294 ?_
  refine r_val (v := 1) (by decide) ?_
  refine va_sld hx hb hX hbl hbA w.2.2.1 (vpi (by decide) (by decide)) dL_law_295 ?_
  refine r_val (v := xs 1) (congrArg xs (show (1 : Int32).toNatClampNeg = 1 by decide)) ?_
  refine lv_aload_n hx hb dL_law_296 rfl (lv_at hl 3 rfl) ?_
  refine lv_iload_n hx hb dL_law_297 rfl (lv_at hl 0 rfl) ?_
  refine lv_iconst (v := 2) hx hb dL_law_298 (by decide) ?_
  refine lv_iadd hx hb dL_law_299 ?_
  refine r_val (v := 2) (by decide) ?_
  refine va_sld hx hb hX hbl hbA w.2.2.1 (vpi (by decide) (by decide)) dL_law_300 ?_
  refine r_val (v := xs 2) (congrArg xs (show (2 : Int32).toNatClampNeg = 2 by decide)) ?_
  refine x_Vi F w (As := [.int (xs 1), .int (xs 2)]) (rest := [.int 0]) (a := 146) (by decide) (sh_12 rfl _ _) rfl (c_X12_line_103 (rfl) h0 h2) gv_L_36 hv_X12_line ⟨Nat.le_of_ble_eq_true rfl, Nat.le_of_ble_eq_true rfl⟩ hl.1 rfl (Nat.le_of_ble_eq_true rfl) ⟨Nat.le_of_ble_eq_true rfl, Nat.le_of_ble_eq_true rfl⟩ dL_law_301 (fun H locs w => ?_)
  refine lv_icmp_eq (tgt := 1065) hx hb dL_law_304 (by decide) (fun _ => ?_) (fun c1 => absurd c1 (by decide))
  exact kk _ _ _ w
set_option maxRecDepth 8000 in
theorem lc_4 {p : Program} {l : Launch} {e : Env} {s : State} {m : MethodId} {below : List Frame} {meth : Method} {c : Code} {D : va_G} {B b : Nat} {cy : Nat → ClassId} {H : Heap} {locs : List Loc} {ls : Array Slot} {xs : Nat → Int32} {Q : State → Prop} (F : CallFix p m c code 4 s #[Value.ref b] TB RL) (hX : va_X b 6 xs s s.heap) (hbl : b < s.heap.size) (hbA : ¬ B ≤ b) (w : Wd D B cy s s.heap M0 H locs) (hl : lv_has ls 4 [(3, .int 0), (2, .ref (B + 146)), (1, .ref (B + 0)), (0, .ref b)]) (kk : ∀ (M1 : Mem) (H1 : Heap) (locs1 : List Loc), Wd D B cy s s.heap M1 H1 locs1 → W p l e room_1 s m #[Value.ref b] below meth c H1 locs1 159 13107 Q (F0 m 1065 ls [])) : W p l e room_1 s m #[Value.ref b] below meth c H locs 159 13107 Q (F0 m 276 ls []) := by
  rcases (show (xs 1).toInt < 0 ∨ 0 ≤ (xs 1).toInt by omega) with h1 | h1
  · skip
    exact la_4_7 F hX hbl hbA w hl (by rw [Int32.lt_iff_toInt_lt, show (0 : Int32).toInt = 0 from by decide]; omega) kk
  · skip
    exact la_4_8 F hX hbl hbA w hl (by rw [Int32.lt_iff_toInt_lt, show (0 : Int32).toInt = 0 from by decide]; omega) (by rw [Int32.le_iff_toInt_le, show (0 : Int32).toInt = 0 from by decide]; omega) (by rw [Int32.lt_iff_toInt_lt, show (-1 : Int32).toInt = -1 from by decide]; omega) kk
theorem dL_law_309 : decode cL_law 309 = .ok (.aload_n 1, 1) := by decide +kernel
theorem dL_law_310 : decode cL_law 310 = .ok (.aload_n 0, 1) := by decide +kernel
theorem dL_law_311 : decode cL_law 311 = .ok (.iload_n 3, 1) := by decide +kernel
theorem dL_law_312 : decode cL_law 312 = .ok (.iconst 1, 1) := by decide +kernel
theorem dL_law_313 : decode cL_law 313 = .ok (.iadd, 1) := by decide +kernel
theorem dL_law_314 : decode cL_law 314 = .ok (.iaload, 1) := by decide +kernel
theorem dL_law_315 : decode cL_law 315 = .ok (.aload_n 0, 1) := by decide +kernel
theorem dL_law_316 : decode cL_law 316 = .ok (.iload_n 3, 1) := by decide +kernel
theorem dL_law_317 : decode cL_law 317 = .ok (.iconst 2, 1) := by decide +kernel
theorem dL_law_318 : decode cL_law 318 = .ok (.iadd, 1) := by decide +kernel
theorem dL_law_319 : decode cL_law 319 = .ok (.iaload, 1) := by decide +kernel
theorem dL_law_320 : decode cL_law 320 = .ok (.invokevirtual 37, 3) := by decide +kernel
theorem dX11_cut_0 : decode cX11_cut 0 = .ok (.aload_n 0, 1) := by decide +kernel
theorem dX11_cut_1 : decode cX11_cut 1 = .ok (.getfield 43, 3) := by decide +kernel
theorem dX11_cut_4 : decode cX11_cut 4 = .ok (.iload_n 1, 1) := by decide +kernel
theorem dX11_cut_5 : decode cX11_cut 5 = .ok (.iload_n 2, 1) := by decide +kernel
theorem dX11_cut_6 : decode cX11_cut 6 = .ok (.invokevirtual 130, 3) := by decide +kernel
theorem dX9_hasLine_0 : decode cX9_hasLine 0 = .ok (.aload_n 0, 1) := by decide +kernel
theorem dX9_hasLine_1 : decode cX9_hasLine 1 = .ok (.iload_n 1, 1) := by decide +kernel
theorem dX9_hasLine_2 : decode cX9_hasLine 2 = .ok (.invokevirtual 41, 3) := by decide +kernel
theorem dX9_hasLine_5 : decode cX9_hasLine 5 = .ok (.ifCond .eq 28, 3) := by decide +kernel
theorem dX9_hasLine_33 : decode cX9_hasLine 33 = .ok (.iconst 0, 1) := by decide +kernel
theorem dX9_hasLine_34 : decode cX9_hasLine 34 = .ok (.ireturn, 1) := by decide +kernel
set_option maxRecDepth 4000 in
theorem c_X9_hasLine_104 {l : Launch} {D : va_G} {B : Nat} {cy : Nat → ClassId} {M : Mem} {p1 : Int32} {p2 : Int32} (h0 : p1 < 0) : Ci l D B cy yX9_hasLine cX9_hasLine 3 (some .boolean) 1 21 [.ref (B + 44), .int p1, .int p2] M (fun r M1 => r = 0 ∧ M1 = M) := by
  refine s_any (by decide) (Nat.le_of_ble_eq_true rfl) ?_
  intro p e s m below meth c ls F hr hlocks w hl
  have F : CallFix p m c cX9_hasLine 3 s _ TB RX9 := F
  have hx := F.1
  have hb := F.2.1
  have hl : lv_has ls 3 [(0, .ref (B + 44)), (1, .int p1), (2, .int p2)] := hl
  refine lv_aload_n hx hb dX9_hasLine_0 rfl (lv_at hl 0 rfl) ?_
  refine lv_iload_n hx hb dX9_hasLine_1 rfl (lv_at hl 1 rfl) ?_
  refine x_Vi F w (As := [.int p1]) (rest := []) (a := 44) (by decide) (sh_9 rfl _ _) rfl (c_X9_hasTone_92 h0) gv_X9_41 hv_X9_hasTone ⟨Nat.le_of_ble_eq_true rfl, Nat.le_of_ble_eq_true rfl⟩ hl.1 rfl (Nat.le_of_ble_eq_true rfl) ⟨Nat.zero_le _, Nat.zero_le _⟩ dX9_hasLine_2 (fun H locs w => ?_)
  refine lv_if_eq (tgt := 33) hx hb dX9_hasLine_5 (by decide) (fun _ => ?_) (fun c1 => absurd c1 (by decide))
  refine lv_iconst (v := 0) hx hb dX9_hasLine_33 (by decide) ?_
  exact e_z F w hr hlocks (by decide) ⟨rfl, rfl⟩ dX9_hasLine_34
theorem tk_X9_hasLine : Cond.code yX9_hasLine cX9_hasLine 3 (some .boolean) ∈ TB := tbm (tc3 (List.mem_of_getElem? (i := 155) rfl)) rfl
theorem gc_X9_hasLine : GoodIn TB (cw yX9_hasLine cX9_hasLine 3 (some .boolean)) := goodIn_c2 tk_X9_hasLine
theorem tb_245 : Cond.methodLink "ToneLines" 130 yX9_hasLine ∈ TB := tbm (tc3 (List.mem_of_getElem? (i := 152) rfl)) rfl
theorem tb_246 : Cond.instanceMethod yX9_hasLine ∈ TB := tbm (tc3 (List.mem_of_getElem? (i := 153) rfl)) rfl
theorem tb_247 : Cond.selects "ToneLines$Word" yX9_hasLine yX9_hasLine ∈ TB := tbm (tc3 (List.mem_of_getElem? (i := 154) rfl)) rfl
theorem gv_X11_130 : GoodIn TB (wsV RX11 130 RX9 yX9_hasLine (cw yX9_hasLine cX9_hasLine 3 (some .boolean))) := goodIn_4 tb_245 tb_246 tb_247 tb_61 gc_X9_hasLine
theorem hv_X9_hasLine : yX9_hasLine.cls = RX9 ∧ yX9_hasLine.cls ≠ "java/lang/invoke/MethodHandle" ∧ yX9_hasLine.cls ≠ "java/lang/invoke/VarHandle" ∧ (parseMethodDescriptor yX9_hasLine.desc).map (fun d => d.parameters.length) = some 2 := by decide +kernel
theorem dX11_cut_9 : decode cX11_cut 9 = .ok (.ifCond .ne 5, 3) := by decide +kernel
theorem dX11_cut_12 : decode cX11_cut 12 = .ok (.iconst 0, 1) := by decide +kernel
theorem dX11_cut_13 : decode cX11_cut 13 = .ok (.ireturn, 1) := by decide +kernel
set_option maxRecDepth 4000 in
theorem c_X11_cut_105 {l : Launch} {D : va_G} {B : Nat} {cy : Nat → ClassId} {M : Mem} {p1 : Int32} {p2 : Int32} (h0 : p1 < 0) : Ci l D B cy yX11_cut cX11_cut 3 (some .boolean) 2 43 [.ref (B + 0), .int p1, .int p2] M (fun r M1 => r = 0 ∧ M1 = M) := by
  refine s_any (by decide) (Nat.le_of_ble_eq_true rfl) ?_
  intro p e s m below meth c ls F hr hlocks w hl
  have F : CallFix p m c cX11_cut 3 s _ TB RX11 := F
  have hx := F.1
  have hb := F.2.1
  have hl : lv_has ls 3 [(0, .ref (B + 0)), (1, .int p1), (2, .int p2)] := hl
  refine lv_aload_n hx hb dX11_cut_0 rfl (lv_at hl 0 rfl) ?_
  refine f_11_4 F w (a := 0) rfl tb_75 dX11_cut_1 ?_
  refine lv_iload_n hx hb dX11_cut_4 rfl (lv_at hl 1 rfl) ?_
  refine lv_iload_n hx hb dX11_cut_5 rfl (lv_at hl 2 rfl) ?_
  refine x_Vi F w (As := [.int p1, .int p2]) (rest := []) (a := 44) (by decide) (sh_9 rfl _ _) rfl (c_X9_hasLine_104 h0) gv_X11_130 hv_X9_hasLine ⟨Nat.le_of_ble_eq_true rfl, Nat.le_of_ble_eq_true rfl⟩ hl.1 rfl (Nat.le_of_ble_eq_true rfl) ⟨Nat.zero_le _, Nat.zero_le _⟩ dX11_cut_6 (fun H locs w => ?_)
  refine lv_if_ne (tgt := 14) hx hb dX11_cut_9 (by decide) (fun c1 => absurd c1 (by decide)) (fun _ => ?_)
  refine lv_iconst (v := 0) hx hb dX11_cut_12 (by decide) ?_
  exact e_z F w hr hlocks (by decide) ⟨rfl, rfl⟩ dX11_cut_13
theorem tk_X11_cut : Cond.code yX11_cut cX11_cut 3 (some .boolean) ∈ TB := tbm (tc3 (List.mem_of_getElem? (i := 151) rfl)) rfl
theorem gc_X11_cut : GoodIn TB (cw yX11_cut cX11_cut 3 (some .boolean)) := goodIn_c2 tk_X11_cut
theorem tb_248 : Cond.methodLink "ToneLinesLaw" 37 yX11_cut ∈ TB := tbm (tc3 (List.mem_of_getElem? (i := 148) rfl)) rfl
theorem tb_249 : Cond.instanceMethod yX11_cut ∈ TB := tbm (tc3 (List.mem_of_getElem? (i := 149) rfl)) rfl
theorem tb_250 : Cond.selects "ToneLines" yX11_cut yX11_cut ∈ TB := tbm (tc3 (List.mem_of_getElem? (i := 150) rfl)) rfl
theorem gv_L_37 : GoodIn TB (wsV RL 37 RX11 yX11_cut (cw yX11_cut cX11_cut 3 (some .boolean))) := goodIn_4 tb_248 tb_249 tb_250 tb_145 gc_X11_cut
theorem hv_X11_cut : yX11_cut.cls = RX11 ∧ yX11_cut.cls ≠ "java/lang/invoke/MethodHandle" ∧ yX11_cut.cls ≠ "java/lang/invoke/VarHandle" ∧ (parseMethodDescriptor yX11_cut.desc).map (fun d => d.parameters.length) = some 2 := by decide +kernel
theorem dL_law_323 : decode cL_law 323 = .ok (.aload_n 2, 1) := by decide +kernel
theorem dL_law_324 : decode cL_law 324 = .ok (.aload_n 0, 1) := by decide +kernel
theorem dL_law_325 : decode cL_law 325 = .ok (.iload_n 3, 1) := by decide +kernel
theorem dL_law_326 : decode cL_law 326 = .ok (.iconst 1, 1) := by decide +kernel
theorem dL_law_327 : decode cL_law 327 = .ok (.iadd, 1) := by decide +kernel
theorem dL_law_328 : decode cL_law 328 = .ok (.iaload, 1) := by decide +kernel
theorem dL_law_329 : decode cL_law 329 = .ok (.aload_n 0, 1) := by decide +kernel
theorem dL_law_330 : decode cL_law 330 = .ok (.iload_n 3, 1) := by decide +kernel
theorem dL_law_331 : decode cL_law 331 = .ok (.iconst 2, 1) := by decide +kernel
theorem dL_law_332 : decode cL_law 332 = .ok (.iadd, 1) := by decide +kernel
theorem dL_law_333 : decode cL_law 333 = .ok (.iaload, 1) := by decide +kernel
theorem dL_law_334 : decode cL_law 334 = .ok (.invokevirtual 40, 3) := by decide +kernel
theorem dX12_cut_0 : decode cX12_cut 0 = .ok (.aload_n 0, 1) := by decide +kernel
theorem dX12_cut_1 : decode cX12_cut 1 = .ok (.getfield 13, 3) := by decide +kernel
theorem dX12_cut_4 : decode cX12_cut 4 = .ok (.iload_n 1, 1) := by decide +kernel
theorem dX12_cut_5 : decode cX12_cut 5 = .ok (.invokestatic 105, 3) := by decide +kernel
theorem dX12_cut_8 : decode cX12_cut 8 = .ok (.ifCond .eq 30, 3) := by decide +kernel
theorem dX12_cut_38 : decode cX12_cut 38 = .ok (.iconst 0, 1) := by decide +kernel
theorem dX12_cut_39 : decode cX12_cut 39 = .ok (.ireturn, 1) := by decide +kernel
set_option maxRecDepth 4000 in
theorem c_X12_cut_106 {l : Launch} {D : va_G} {B : Nat} {cy : Nat → ClassId} {M : Mem} {p1 : Int32} {p2 : Int32} (h0 : M.1 147 0 = 0) (h1 : p1 < 0) : Ci l D B cy yX12_cut cX12_cut 3 (some .boolean) 2 43 [.ref (B + 146), .int p1, .int p2] M (fun r M1 => r = 0 ∧ M1 = M) := by
  refine s_any (by decide) (Nat.le_of_ble_eq_true rfl) ?_
  intro p e s m below meth c ls F hr hlocks w hl
  have F : CallFix p m c cX12_cut 3 s _ TB RX12 := F
  have hx := F.1
  have hb := F.2.1
  have hl : lv_has ls 3 [(0, .ref (B + 146)), (1, .int p1), (2, .int p2)] := hl
  refine lv_aload_n hx hb dX12_cut_0 rfl (lv_at hl 0 rfl) ?_
  refine f_12_1 F w (a := 146) rfl tb_126 dX12_cut_1 ?_
  refine lv_iload_n hx hb dX12_cut_4 rfl (lv_at hl 1 rfl) ?_
  refine x_Si F w (As := [.ref (B + 147), .int p1]) (rest := []) (c_X12_isTone_96 (h0) h1) gs_X12_105 hs_X12_isTone ⟨Nat.le_of_ble_eq_true rfl, Nat.le_of_ble_eq_true rfl⟩ hl.1 rfl (Nat.le_of_ble_eq_true rfl) ⟨Nat.zero_le _, Nat.zero_le _⟩ dX12_cut_5 (fun H locs w => ?_)
  refine lv_if_eq (tgt := 38) hx hb dX12_cut_8 (by decide) (fun _ => ?_) (fun c1 => absurd c1 (by decide))
  refine lv_iconst (v := 0) hx hb dX12_cut_38 (by decide) ?_
  exact e_z F w hr hlocks (by decide) ⟨rfl, rfl⟩ dX12_cut_39
theorem tk_X12_cut : Cond.code yX12_cut cX12_cut 3 (some .boolean) ∈ TB := tbm (tc6 (List.mem_of_getElem? (i := 13) rfl)) rfl
theorem gc_X12_cut : GoodIn TB (cw yX12_cut cX12_cut 3 (some .boolean)) := goodIn_c2 tk_X12_cut
theorem tb_251 : Cond.methodLink "ToneLinesLaw" 40 yX12_cut ∈ TB := tbm (tc6 (List.mem_of_getElem? (i := 10) rfl)) rfl
theorem tb_252 : Cond.instanceMethod yX12_cut ∈ TB := tbm (tc6 (List.mem_of_getElem? (i := 11) rfl)) rfl
theorem tb_253 : Cond.selects "ToneLinesModel" yX12_cut yX12_cut ∈ TB := tbm (tc6 (List.mem_of_getElem? (i := 12) rfl)) rfl
theorem gv_L_40 : GoodIn TB (wsV RL 40 RX12 yX12_cut (cw yX12_cut cX12_cut 3 (some .boolean))) := goodIn_4 tb_251 tb_252 tb_253 tb_150 gc_X12_cut
theorem hv_X12_cut : yX12_cut.cls = RX12 ∧ yX12_cut.cls ≠ "java/lang/invoke/MethodHandle" ∧ yX12_cut.cls ≠ "java/lang/invoke/VarHandle" ∧ (parseMethodDescriptor yX12_cut.desc).map (fun d => d.parameters.length) = some 2 := by decide +kernel
theorem dL_law_337 : decode cL_law 337 = .ok (.if_icmp .eq 728, 3) := by decide +kernel
set_option maxRecDepth 8000 in
theorem la_5_9 {p : Program} {l : Launch} {e : Env} {s : State} {m : MethodId} {below : List Frame} {meth : Method} {c : Code} {D : va_G} {B b : Nat} {cy : Nat → ClassId} {H : Heap} {locs : List Loc} {ls : Array Slot} {xs : Nat → Int32} {Q : State → Prop} (F : CallFix p m c code 4 s #[Value.ref b] TB RL) (hX : va_X b 6 xs s s.heap) (hbl : b < s.heap.size) (hbA : ¬ B ≤ b) (w : Wd D B cy s s.heap M0 H locs) (hl : lv_has ls 4 [(3, .int 0), (2, .ref (B + 146)), (1, .ref (B + 0)), (0, .ref b)]) (h0 : (xs 1) < 0) (kk : ∀ (M1 : Mem) (H1 : Heap) (locs1 : List Loc), Wd D B cy s s.heap M1 H1 locs1 → W p l e room_1 s m #[Value.ref b] below meth c H1 locs1 159 13107 Q (F0 m 1065 ls [])) : W p l e room_1 s m #[Value.ref b] below meth c H locs 159 13107 Q (F0 m 309 ls []) := by
  have hx := F.1
  have hb := F.2.1
  refine lv_aload_n hx hb dL_law_309 rfl (lv_at hl 2 rfl) ?_
  refine lv_aload_n hx hb dL_law_310 rfl (lv_at hl 3 rfl) ?_
  refine lv_iload_n hx hb dL_law_311 rfl (lv_at hl 0 rfl) ?_
  refine lv_iconst (v := 1) hx hb dL_law_312 (by decide) ?_
  refine lv_iadd hx hb dL_law_313 ?_
  refine r_val (v := 1) (by decide) ?_
  refine va_sld hx hb hX hbl hbA w.2.2.1 (vpi (by decide) (by decide)) dL_law_314 ?_
  refine r_val (v := xs 1) (congrArg xs (show (1 : Int32).toNatClampNeg = 1 by decide)) ?_
  refine lv_aload_n hx hb dL_law_315 rfl (lv_at hl 3 rfl) ?_
  refine lv_iload_n hx hb dL_law_316 rfl (lv_at hl 0 rfl) ?_
  refine lv_iconst (v := 2) hx hb dL_law_317 (by decide) ?_
  refine lv_iadd hx hb dL_law_318 ?_
  refine r_val (v := 2) (by decide) ?_
  refine va_sld hx hb hX hbl hbA w.2.2.1 (vpi (by decide) (by decide)) dL_law_319 ?_
  refine r_val (v := xs 2) (congrArg xs (show (2 : Int32).toNatClampNeg = 2 by decide)) ?_
  refine x_Vi F w (As := [.int (xs 1), .int (xs 2)]) (rest := []) (a := 0) (by decide) (sh_11 rfl _ _) rfl (c_X11_cut_105 h0) gv_L_37 hv_X11_cut ⟨Nat.le_of_ble_eq_true rfl, Nat.le_of_ble_eq_true rfl⟩ hl.1 rfl (Nat.le_of_ble_eq_true rfl) ⟨Nat.le_of_ble_eq_true rfl, Nat.le_of_ble_eq_true rfl⟩ dL_law_320 (fun H locs w => ?_)
  refine lv_aload_n hx hb dL_law_323 rfl (lv_at hl 1 rfl) ?_
  refine lv_aload_n hx hb dL_law_324 rfl (lv_at hl 3 rfl) ?_
  refine lv_iload_n hx hb dL_law_325 rfl (lv_at hl 0 rfl) ?_
  refine lv_iconst (v := 1) hx hb dL_law_326 (by decide) ?_
  refine lv_iadd hx hb dL_law_327 ?_
  refine r_val (v := 1) (by decide) ?_
  refine va_sld hx hb hX hbl hbA w.2.2.1 (vpi (by decide) (by decide)) dL_law_328 ?_
  refine r_val (v := xs 1) (congrArg xs (show (1 : Int32).toNatClampNeg = 1 by decide)) ?_
  refine lv_aload_n hx hb dL_law_329 rfl (lv_at hl 3 rfl) ?_
  refine lv_iload_n hx hb dL_law_330 rfl (lv_at hl 0 rfl) ?_
  refine lv_iconst (v := 2) hx hb dL_law_331 (by decide) ?_
  refine lv_iadd hx hb dL_law_332 ?_
  refine r_val (v := 2) (by decide) ?_
  refine va_sld hx hb hX hbl hbA w.2.2.1 (vpi (by decide) (by decide)) dL_law_333 ?_
  refine r_val (v := xs 2) (congrArg xs (show (2 : Int32).toNatClampNeg = 2 by decide)) ?_
  refine x_Vi F w (As := [.int (xs 1), .int (xs 2)]) (rest := [.int 0]) (a := 146) (by decide) (sh_12 rfl _ _) rfl (c_X12_cut_106 (rfl) h0) gv_L_40 hv_X12_cut ⟨Nat.le_of_ble_eq_true rfl, Nat.le_of_ble_eq_true rfl⟩ hl.1 rfl (Nat.le_of_ble_eq_true rfl) ⟨Nat.le_of_ble_eq_true rfl, Nat.le_of_ble_eq_true rfl⟩ dL_law_334 (fun H locs w => ?_)
  refine lv_icmp_eq (tgt := 1065) hx hb dL_law_337 (by decide) (fun _ => ?_) (fun c1 => absurd c1 (by decide))
  exact kk _ _ _ w
set_option maxRecDepth 4000 in
theorem c_X9_hasLine_107 {l : Launch} {D : va_G} {B : Nat} {cy : Nat → ClassId} {M : Mem} {p1 : Int32} {p2 : Int32} (h0 : ¬ p1 < 0) (h1 : M.1 44 0 = 0) (h2 : 0 ≤ p1) : Ci l D B cy yX9_hasLine cX9_hasLine 3 (some .boolean) 1 21 [.ref (B + 44), .int p1, .int p2] M (fun r M1 => r = 0 ∧ M1 = M) := by
  refine s_any (by decide) (Nat.le_of_ble_eq_true rfl) ?_
  intro p e s m below meth c ls F hr hlocks w hl
  have F : CallFix p m c cX9_hasLine 3 s _ TB RX9 := F
  have hx := F.1
  have hb := F.2.1
  have hl : lv_has ls 3 [(0, .ref (B + 44)), (1, .int p1), (2, .int p2)] := hl
  refine lv_aload_n hx hb dX9_hasLine_0 rfl (lv_at hl 0 rfl) ?_
  refine lv_iload_n hx hb dX9_hasLine_1 rfl (lv_at hl 1 rfl) ?_
  refine x_Vi F w (As := [.int p1]) (rest := []) (a := 44) (by decide) (sh_9 rfl _ _) rfl (c_X9_hasTone_98 h0 (h1) h2) gv_X9_41 hv_X9_hasTone ⟨Nat.le_of_ble_eq_true rfl, Nat.le_of_ble_eq_true rfl⟩ hl.1 rfl (Nat.le_of_ble_eq_true rfl) ⟨Nat.zero_le _, Nat.zero_le _⟩ dX9_hasLine_2 (fun H locs w => ?_)
  refine lv_if_eq (tgt := 33) hx hb dX9_hasLine_5 (by decide) (fun _ => ?_) (fun c1 => absurd c1 (by decide))
  refine lv_iconst (v := 0) hx hb dX9_hasLine_33 (by decide) ?_
  exact e_z F w hr hlocks (by decide) ⟨rfl, rfl⟩ dX9_hasLine_34
set_option maxRecDepth 4000 in
theorem c_X11_cut_108 {l : Launch} {D : va_G} {B : Nat} {cy : Nat → ClassId} {M : Mem} {p1 : Int32} {p2 : Int32} (h0 : ¬ p1 < 0) (h1 : M.1 44 0 = 0) (h2 : 0 ≤ p1) : Ci l D B cy yX11_cut cX11_cut 3 (some .boolean) 2 43 [.ref (B + 0), .int p1, .int p2] M (fun r M1 => r = 0 ∧ M1 = M) := by
  refine s_any (by decide) (Nat.le_of_ble_eq_true rfl) ?_
  intro p e s m below meth c ls F hr hlocks w hl
  have F : CallFix p m c cX11_cut 3 s _ TB RX11 := F
  have hx := F.1
  have hb := F.2.1
  have hl : lv_has ls 3 [(0, .ref (B + 0)), (1, .int p1), (2, .int p2)] := hl
  refine lv_aload_n hx hb dX11_cut_0 rfl (lv_at hl 0 rfl) ?_
  refine f_11_4 F w (a := 0) rfl tb_75 dX11_cut_1 ?_
  refine lv_iload_n hx hb dX11_cut_4 rfl (lv_at hl 1 rfl) ?_
  refine lv_iload_n hx hb dX11_cut_5 rfl (lv_at hl 2 rfl) ?_
  refine x_Vi F w (As := [.int p1, .int p2]) (rest := []) (a := 44) (by decide) (sh_9 rfl _ _) rfl (c_X9_hasLine_107 h0 (h1) h2) gv_X11_130 hv_X9_hasLine ⟨Nat.le_of_ble_eq_true rfl, Nat.le_of_ble_eq_true rfl⟩ hl.1 rfl (Nat.le_of_ble_eq_true rfl) ⟨Nat.zero_le _, Nat.zero_le _⟩ dX11_cut_6 (fun H locs w => ?_)
  refine lv_if_ne (tgt := 14) hx hb dX11_cut_9 (by decide) (fun c1 => absurd c1 (by decide)) (fun _ => ?_)
  refine lv_iconst (v := 0) hx hb dX11_cut_12 (by decide) ?_
  exact e_z F w hr hlocks (by decide) ⟨rfl, rfl⟩ dX11_cut_13
set_option maxRecDepth 4000 in
theorem c_X12_cut_109 {l : Launch} {D : va_G} {B : Nat} {cy : Nat → ClassId} {M : Mem} {p1 : Int32} {p2 : Int32} (h0 : M.1 147 0 = 0) (h1 : ¬ p1 < 0) (h2 : (-1) < p1) : Ci l D B cy yX12_cut cX12_cut 3 (some .boolean) 2 43 [.ref (B + 146), .int p1, .int p2] M (fun r M1 => r = 0 ∧ M1 = M) := by
  refine s_any (by decide) (Nat.le_of_ble_eq_true rfl) ?_
  intro p e s m below meth c ls F hr hlocks w hl
  have F : CallFix p m c cX12_cut 3 s _ TB RX12 := F
  have hx := F.1
  have hb := F.2.1
  have hl : lv_has ls 3 [(0, .ref (B + 146)), (1, .int p1), (2, .int p2)] := hl
  refine lv_aload_n hx hb dX12_cut_0 rfl (lv_at hl 0 rfl) ?_
  refine f_12_1 F w (a := 146) rfl tb_126 dX12_cut_1 ?_
  refine lv_iload_n hx hb dX12_cut_4 rfl (lv_at hl 1 rfl) ?_
  refine x_Si F w (As := [.ref (B + 147), .int p1]) (rest := []) (c_X12_isTone_102 (h0) h1 h2) gs_X12_105 hs_X12_isTone ⟨Nat.le_of_ble_eq_true rfl, Nat.le_of_ble_eq_true rfl⟩ hl.1 rfl (Nat.le_of_ble_eq_true rfl) ⟨Nat.zero_le _, Nat.zero_le _⟩ dX12_cut_5 (fun H locs w => ?_)
  refine lv_if_eq (tgt := 38) hx hb dX12_cut_8 (by decide) (fun _ => ?_) (fun c1 => absurd c1 (by decide))
  refine lv_iconst (v := 0) hx hb dX12_cut_38 (by decide) ?_
  exact e_z F w hr hlocks (by decide) ⟨rfl, rfl⟩ dX12_cut_39
set_option maxRecDepth 8000 in
theorem la_5_10 {p : Program} {l : Launch} {e : Env} {s : State} {m : MethodId} {below : List Frame} {meth : Method} {c : Code} {D : va_G} {B b : Nat} {cy : Nat → ClassId} {H : Heap} {locs : List Loc} {ls : Array Slot} {xs : Nat → Int32} {Q : State → Prop} (F : CallFix p m c code 4 s #[Value.ref b] TB RL) (hX : va_X b 6 xs s s.heap) (hbl : b < s.heap.size) (hbA : ¬ B ≤ b) (w : Wd D B cy s s.heap M0 H locs) (hl : lv_has ls 4 [(3, .int 0), (2, .ref (B + 146)), (1, .ref (B + 0)), (0, .ref b)]) (h0 : ¬ (xs 1) < 0) (h1 : 0 ≤ (xs 1)) (h2 : (-1) < (xs 1)) (kk : ∀ (M1 : Mem) (H1 : Heap) (locs1 : List Loc), Wd D B cy s s.heap M1 H1 locs1 → W p l e room_1 s m #[Value.ref b] below meth c H1 locs1 159 13107 Q (F0 m 1065 ls [])) : W p l e room_1 s m #[Value.ref b] below meth c H locs 159 13107 Q (F0 m 309 ls []) := by
  have hx := F.1
  have hb := F.2.1
  refine lv_aload_n hx hb dL_law_309 rfl (lv_at hl 2 rfl) ?_
  refine lv_aload_n hx hb dL_law_310 rfl (lv_at hl 3 rfl) ?_
  refine lv_iload_n hx hb dL_law_311 rfl (lv_at hl 0 rfl) ?_
  refine lv_iconst (v := 1) hx hb dL_law_312 (by decide) ?_
  refine lv_iadd hx hb dL_law_313 ?_
  refine r_val (v := 1) (by decide) ?_
  refine va_sld hx hb hX hbl hbA w.2.2.1 (vpi (by decide) (by decide)) dL_law_314 ?_
  refine r_val (v := xs 1) (congrArg xs (show (1 : Int32).toNatClampNeg = 1 by decide)) ?_
  refine lv_aload_n hx hb dL_law_315 rfl (lv_at hl 3 rfl) ?_
  refine lv_iload_n hx hb dL_law_316 rfl (lv_at hl 0 rfl) ?_
  refine lv_iconst (v := 2) hx hb dL_law_317 (by decide) ?_
  refine lv_iadd hx hb dL_law_318 ?_
  refine r_val (v := 2) (by decide) ?_
  refine va_sld hx hb hX hbl hbA w.2.2.1 (vpi (by decide) (by decide)) dL_law_319 ?_
  refine r_val (v := xs 2) (congrArg xs (show (2 : Int32).toNatClampNeg = 2 by decide)) ?_
  refine x_Vi F w (As := [.int (xs 1), .int (xs 2)]) (rest := []) (a := 0) (by decide) (sh_11 rfl _ _) rfl (c_X11_cut_108 h0 (rfl) h1) gv_L_37 hv_X11_cut ⟨Nat.le_of_ble_eq_true rfl, Nat.le_of_ble_eq_true rfl⟩ hl.1 rfl (Nat.le_of_ble_eq_true rfl) ⟨Nat.le_of_ble_eq_true rfl, Nat.le_of_ble_eq_true rfl⟩ dL_law_320 (fun H locs w => ?_)
  refine lv_aload_n hx hb dL_law_323 rfl (lv_at hl 1 rfl) ?_
  refine lv_aload_n hx hb dL_law_324 rfl (lv_at hl 3 rfl) ?_
  refine lv_iload_n hx hb dL_law_325 rfl (lv_at hl 0 rfl) ?_
  refine lv_iconst (v := 1) hx hb dL_law_326 (by decide) ?_
  refine lv_iadd hx hb dL_law_327 ?_
  refine r_val (v := 1) (by decide) ?_
  refine va_sld hx hb hX hbl hbA w.2.2.1 (vpi (by decide) (by decide)) dL_law_328 ?_
  refine r_val (v := xs 1) (congrArg xs (show (1 : Int32).toNatClampNeg = 1 by decide)) ?_
  refine lv_aload_n hx hb dL_law_329 rfl (lv_at hl 3 rfl) ?_
  refine lv_iload_n hx hb dL_law_330 rfl (lv_at hl 0 rfl) ?_
  refine lv_iconst (v := 2) hx hb dL_law_331 (by decide) ?_
  refine lv_iadd hx hb dL_law_332 ?_
  refine r_val (v := 2) (by decide) ?_
  refine va_sld hx hb hX hbl hbA w.2.2.1 (vpi (by decide) (by decide)) dL_law_333 ?_
  refine r_val (v := xs 2) (congrArg xs (show (2 : Int32).toNatClampNeg = 2 by decide)) ?_
  refine x_Vi F w (As := [.int (xs 1), .int (xs 2)]) (rest := [.int 0]) (a := 146) (by decide) (sh_12 rfl _ _) rfl (c_X12_cut_109 (rfl) h0 h2) gv_L_40 hv_X12_cut ⟨Nat.le_of_ble_eq_true rfl, Nat.le_of_ble_eq_true rfl⟩ hl.1 rfl (Nat.le_of_ble_eq_true rfl) ⟨Nat.le_of_ble_eq_true rfl, Nat.le_of_ble_eq_true rfl⟩ dL_law_334 (fun H locs w => ?_)
  refine lv_icmp_eq (tgt := 1065) hx hb dL_law_337 (by decide) (fun _ => ?_) (fun c1 => absurd c1 (by decide))
  exact kk _ _ _ w
set_option maxRecDepth 8000 in
theorem lc_5 {p : Program} {l : Launch} {e : Env} {s : State} {m : MethodId} {below : List Frame} {meth : Method} {c : Code} {D : va_G} {B b : Nat} {cy : Nat → ClassId} {H : Heap} {locs : List Loc} {ls : Array Slot} {xs : Nat → Int32} {Q : State → Prop} (F : CallFix p m c code 4 s #[Value.ref b] TB RL) (hX : va_X b 6 xs s s.heap) (hbl : b < s.heap.size) (hbA : ¬ B ≤ b) (w : Wd D B cy s s.heap M0 H locs) (hl : lv_has ls 4 [(3, .int 0), (2, .ref (B + 146)), (1, .ref (B + 0)), (0, .ref b)]) (kk : ∀ (M1 : Mem) (H1 : Heap) (locs1 : List Loc), Wd D B cy s s.heap M1 H1 locs1 → W p l e room_1 s m #[Value.ref b] below meth c H1 locs1 159 13107 Q (F0 m 1065 ls [])) : W p l e room_1 s m #[Value.ref b] below meth c H locs 159 13107 Q (F0 m 309 ls []) := by
  rcases (show (xs 1).toInt < 0 ∨ 0 ≤ (xs 1).toInt by omega) with h1 | h1
  · skip
    exact la_5_9 F hX hbl hbA w hl (by rw [Int32.lt_iff_toInt_lt, show (0 : Int32).toInt = 0 from by decide]; omega) kk
  · skip
    exact la_5_10 F hX hbl hbA w hl (by rw [Int32.lt_iff_toInt_lt, show (0 : Int32).toInt = 0 from by decide]; omega) (by rw [Int32.le_iff_toInt_le, show (0 : Int32).toInt = 0 from by decide]; omega) (by rw [Int32.lt_iff_toInt_lt, show (-1 : Int32).toInt = -1 from by decide]; omega) kk
theorem dL_law_342 : decode cL_law 342 = .ok (.aload_n 1, 1) := by decide +kernel
theorem dL_law_343 : decode cL_law 343 = .ok (.aload_n 0, 1) := by decide +kernel
theorem dL_law_344 : decode cL_law 344 = .ok (.iload_n 3, 1) := by decide +kernel
theorem dL_law_345 : decode cL_law 345 = .ok (.iconst 1, 1) := by decide +kernel
theorem dL_law_346 : decode cL_law 346 = .ok (.iadd, 1) := by decide +kernel
theorem dL_law_347 : decode cL_law 347 = .ok (.iaload, 1) := by decide +kernel
theorem dL_law_348 : decode cL_law 348 = .ok (.aload_n 0, 1) := by decide +kernel
theorem dL_law_349 : decode cL_law 349 = .ok (.iload_n 3, 1) := by decide +kernel
theorem dL_law_350 : decode cL_law 350 = .ok (.iconst 2, 1) := by decide +kernel
theorem dL_law_351 : decode cL_law 351 = .ok (.iadd, 1) := by decide +kernel
theorem dL_law_352 : decode cL_law 352 = .ok (.iaload, 1) := by decide +kernel
theorem dL_law_353 : decode cL_law 353 = .ok (.invokevirtual 41, 3) := by decide +kernel
theorem dX11_tone_0 : decode cX11_tone 0 = .ok (.iload_n 1, 1) := by decide +kernel
theorem dX11_tone_1 : decode cX11_tone 1 = .ok (.ifCond .lt 33, 3) := by decide +kernel
theorem dX11_tone_34 : decode cX11_tone 34 = .ok (.iconst 0, 1) := by decide +kernel
theorem dX11_tone_35 : decode cX11_tone 35 = .ok (.ireturn, 1) := by decide +kernel
set_option maxRecDepth 4000 in
theorem c_X11_tone_110 {l : Launch} {D : va_G} {B : Nat} {cy : Nat → ClassId} {M : Mem} {p1 : Int32} {p2 : Int32} (h0 : p1 < 0) : Ci l D B cy yX11_tone cX11_tone 3 (some .boolean) 0 0 [.ref (B + 0), .int p1, .int p2] M (fun r M1 => r = 0 ∧ M1 = M) := by
  refine s_any (by decide) (Nat.le_of_ble_eq_true rfl) ?_
  intro p e s m below meth c ls F hr hlocks w hl
  have F : CallFix p m c cX11_tone 3 s _ TB RX11 := F
  have hx := F.1
  have hb := F.2.1
  have hl : lv_has ls 3 [(0, .ref (B + 0)), (1, .int p1), (2, .int p2)] := hl
  refine lv_iload_n hx hb dX11_tone_0 rfl (lv_at hl 1 rfl) ?_
  refine lv_if_lt (tgt := 34) hx hb dX11_tone_1 (by decide) (fun _ => ?_) (fun c1 => absurd h0 c1)
  refine lv_iconst (v := 0) hx hb dX11_tone_34 (by decide) ?_
  exact e_z F w hr hlocks (by decide) ⟨rfl, rfl⟩ dX11_tone_35
theorem tk_X11_tone : Cond.code yX11_tone cX11_tone 3 (some .boolean) ∈ TB := tbm (tc3 (List.mem_of_getElem? (i := 159) rfl)) rfl
theorem gc_X11_tone : GoodIn TB (cw yX11_tone cX11_tone 3 (some .boolean)) := goodIn_c2 tk_X11_tone
theorem tb_254 : Cond.methodLink "ToneLinesLaw" 41 yX11_tone ∈ TB := tbm (tc3 (List.mem_of_getElem? (i := 156) rfl)) rfl
theorem tb_255 : Cond.instanceMethod yX11_tone ∈ TB := tbm (tc3 (List.mem_of_getElem? (i := 157) rfl)) rfl
theorem tb_256 : Cond.selects "ToneLines" yX11_tone yX11_tone ∈ TB := tbm (tc3 (List.mem_of_getElem? (i := 158) rfl)) rfl
theorem gv_L_41 : GoodIn TB (wsV RL 41 RX11 yX11_tone (cw yX11_tone cX11_tone 3 (some .boolean))) := goodIn_4 tb_254 tb_255 tb_256 tb_145 gc_X11_tone
theorem hv_X11_tone : yX11_tone.cls = RX11 ∧ yX11_tone.cls ≠ "java/lang/invoke/MethodHandle" ∧ yX11_tone.cls ≠ "java/lang/invoke/VarHandle" ∧ (parseMethodDescriptor yX11_tone.desc).map (fun d => d.parameters.length) = some 2 := by decide +kernel
theorem dL_law_356 : decode cL_law 356 = .ok (.aload_n 2, 1) := by decide +kernel
theorem dL_law_357 : decode cL_law 357 = .ok (.aload_n 0, 1) := by decide +kernel
theorem dL_law_358 : decode cL_law 358 = .ok (.iload_n 3, 1) := by decide +kernel
theorem dL_law_359 : decode cL_law 359 = .ok (.iconst 1, 1) := by decide +kernel
theorem dL_law_360 : decode cL_law 360 = .ok (.iadd, 1) := by decide +kernel
theorem dL_law_361 : decode cL_law 361 = .ok (.iaload, 1) := by decide +kernel
theorem dL_law_362 : decode cL_law 362 = .ok (.aload_n 0, 1) := by decide +kernel
theorem dL_law_363 : decode cL_law 363 = .ok (.iload_n 3, 1) := by decide +kernel
theorem dL_law_364 : decode cL_law 364 = .ok (.iconst 2, 1) := by decide +kernel
theorem dL_law_365 : decode cL_law 365 = .ok (.iadd, 1) := by decide +kernel
theorem dL_law_366 : decode cL_law 366 = .ok (.iaload, 1) := by decide +kernel
theorem dL_law_367 : decode cL_law 367 = .ok (.invokevirtual 44, 3) := by decide +kernel
theorem dX12_tone_0 : decode cX12_tone 0 = .ok (.iload_n 1, 1) := by decide +kernel
theorem dX12_tone_1 : decode cX12_tone 1 = .ok (.iconst 0, 1) := by decide +kernel
theorem dX12_tone_2 : decode cX12_tone 2 = .ok (.aload_n 0, 1) := by decide +kernel
theorem dX12_tone_3 : decode cX12_tone 3 = .ok (.getfield 13, 3) := by decide +kernel
theorem dX12_tone_6 : decode cX12_tone 6 = .ok (.iconst 0, 1) := by decide +kernel
theorem dX12_tone_7 : decode cX12_tone 7 = .ok (.iaload, 1) := by decide +kernel
theorem dX12_tone_8 : decode cX12_tone 8 = .ok (.invokestatic 55, 3) := by decide +kernel
theorem dX12_tone_11 : decode cX12_tone 11 = .ok (.ifCond .eq 23, 3) := by decide +kernel
theorem dX12_tone_34 : decode cX12_tone 34 = .ok (.iconst 0, 1) := by decide +kernel
theorem dX12_tone_35 : decode cX12_tone 35 = .ok (.ireturn, 1) := by decide +kernel
set_option maxRecDepth 4000 in
theorem c_X12_tone_111 {l : Launch} {D : va_G} {B : Nat} {cy : Nat → ClassId} {M : Mem} {p1 : Int32} {p2 : Int32} (h0 : M.1 147 0 = 0) (h1 : p1 < 0) : Ci l D B cy yX12_tone cX12_tone 3 (some .boolean) 1 22 [.ref (B + 146), .int p1, .int p2] M (fun r M1 => r = 0 ∧ M1 = M) := by
  refine s_any (by decide) (Nat.le_of_ble_eq_true rfl) ?_
  intro p e s m below meth c ls F hr hlocks w hl
  have F : CallFix p m c cX12_tone 3 s _ TB RX12 := F
  have hx := F.1
  have hb := F.2.1
  have hl : lv_has ls 3 [(0, .ref (B + 146)), (1, .int p1), (2, .int p2)] := hl
  refine lv_iload_n hx hb dX12_tone_0 rfl (lv_at hl 1 rfl) ?_
  refine lv_iconst (v := 0) hx hb dX12_tone_1 (by decide) ?_
  refine lv_aload_n hx hb dX12_tone_2 rfl (lv_at hl 0 rfl) ?_
  refine f_12_1 F w (a := 146) rfl tb_126 dX12_tone_3 ?_
  refine lv_iconst (v := 0) hx hb dX12_tone_6 (by decide) ?_
  refine g_iald F w (a := 147) rfl (j := 0) ⟨by decide, by decide⟩ (by decide) dX12_tone_7 ?_
  refine r_val (v := 0) (h0) ?_
  refine x_Si F w (As := [.int p1, .int 0, .int 0]) (rest := []) (c_X12_in_66 h1) gs_X12_55 hs_X12_in ⟨Nat.le_of_ble_eq_true rfl, Nat.le_of_ble_eq_true rfl⟩ hl.1 rfl (Nat.le_of_ble_eq_true rfl) ⟨Nat.zero_le _, Nat.zero_le _⟩ dX12_tone_8 (fun H locs w => ?_)
  refine lv_if_eq (tgt := 34) hx hb dX12_tone_11 (by decide) (fun _ => ?_) (fun c1 => absurd c1 (by decide))
  refine lv_iconst (v := 0) hx hb dX12_tone_34 (by decide) ?_
  exact e_z F w hr hlocks (by decide) ⟨rfl, rfl⟩ dX12_tone_35
theorem tk_X12_tone : Cond.code yX12_tone cX12_tone 3 (some .boolean) ∈ TB := tbm (tc6 (List.mem_of_getElem? (i := 17) rfl)) rfl
theorem gc_X12_tone : GoodIn TB (cw yX12_tone cX12_tone 3 (some .boolean)) := goodIn_c2 tk_X12_tone
theorem tb_257 : Cond.methodLink "ToneLinesLaw" 44 yX12_tone ∈ TB := tbm (tc6 (List.mem_of_getElem? (i := 14) rfl)) rfl
theorem tb_258 : Cond.instanceMethod yX12_tone ∈ TB := tbm (tc6 (List.mem_of_getElem? (i := 15) rfl)) rfl
theorem tb_259 : Cond.selects "ToneLinesModel" yX12_tone yX12_tone ∈ TB := tbm (tc6 (List.mem_of_getElem? (i := 16) rfl)) rfl
theorem gv_L_44 : GoodIn TB (wsV RL 44 RX12 yX12_tone (cw yX12_tone cX12_tone 3 (some .boolean))) := goodIn_4 tb_257 tb_258 tb_259 tb_150 gc_X12_tone
theorem hv_X12_tone : yX12_tone.cls = RX12 ∧ yX12_tone.cls ≠ "java/lang/invoke/MethodHandle" ∧ yX12_tone.cls ≠ "java/lang/invoke/VarHandle" ∧ (parseMethodDescriptor yX12_tone.desc).map (fun d => d.parameters.length) = some 2 := by decide +kernel
theorem dL_law_370 : decode cL_law 370 = .ok (.if_icmp .eq 695, 3) := by decide +kernel
set_option maxRecDepth 8000 in
theorem la_6_11 {p : Program} {l : Launch} {e : Env} {s : State} {m : MethodId} {below : List Frame} {meth : Method} {c : Code} {D : va_G} {B b : Nat} {cy : Nat → ClassId} {H : Heap} {locs : List Loc} {ls : Array Slot} {xs : Nat → Int32} {Q : State → Prop} (F : CallFix p m c code 4 s #[Value.ref b] TB RL) (hX : va_X b 6 xs s s.heap) (hbl : b < s.heap.size) (hbA : ¬ B ≤ b) (w : Wd D B cy s s.heap M0 H locs) (hl : lv_has ls 4 [(3, .int 0), (2, .ref (B + 146)), (1, .ref (B + 0)), (0, .ref b)]) (h0 : (xs 1) < 0) (kk : ∀ (M1 : Mem) (H1 : Heap) (locs1 : List Loc), Wd D B cy s s.heap M1 H1 locs1 → W p l e room_1 s m #[Value.ref b] below meth c H1 locs1 159 13107 Q (F0 m 1065 ls [])) : W p l e room_1 s m #[Value.ref b] below meth c H locs 159 13107 Q (F0 m 342 ls []) := by
  have hx := F.1
  have hb := F.2.1
  refine lv_aload_n hx hb dL_law_342 rfl (lv_at hl 2 rfl) ?_
  refine lv_aload_n hx hb dL_law_343 rfl (lv_at hl 3 rfl) ?_
  refine lv_iload_n hx hb dL_law_344 rfl (lv_at hl 0 rfl) ?_
  refine lv_iconst (v := 1) hx hb dL_law_345 (by decide) ?_
  refine lv_iadd hx hb dL_law_346 ?_
  refine r_val (v := 1) (by decide) ?_
  refine va_sld hx hb hX hbl hbA w.2.2.1 (vpi (by decide) (by decide)) dL_law_347 ?_
  refine r_val (v := xs 1) (congrArg xs (show (1 : Int32).toNatClampNeg = 1 by decide)) ?_
  refine lv_aload_n hx hb dL_law_348 rfl (lv_at hl 3 rfl) ?_
  refine lv_iload_n hx hb dL_law_349 rfl (lv_at hl 0 rfl) ?_
  refine lv_iconst (v := 2) hx hb dL_law_350 (by decide) ?_
  refine lv_iadd hx hb dL_law_351 ?_
  refine r_val (v := 2) (by decide) ?_
  refine va_sld hx hb hX hbl hbA w.2.2.1 (vpi (by decide) (by decide)) dL_law_352 ?_
  refine r_val (v := xs 2) (congrArg xs (show (2 : Int32).toNatClampNeg = 2 by decide)) ?_
  refine x_Vi F w (As := [.int (xs 1), .int (xs 2)]) (rest := []) (a := 0) (by decide) (sh_11 rfl _ _) rfl (c_X11_tone_110 h0) gv_L_41 hv_X11_tone ⟨Nat.le_of_ble_eq_true rfl, Nat.le_of_ble_eq_true rfl⟩ hl.1 rfl (Nat.le_of_ble_eq_true rfl) ⟨Nat.le_of_ble_eq_true rfl, Nat.le_of_ble_eq_true rfl⟩ dL_law_353 (fun H locs w => ?_)
  refine lv_aload_n hx hb dL_law_356 rfl (lv_at hl 1 rfl) ?_
  refine lv_aload_n hx hb dL_law_357 rfl (lv_at hl 3 rfl) ?_
  refine lv_iload_n hx hb dL_law_358 rfl (lv_at hl 0 rfl) ?_
  refine lv_iconst (v := 1) hx hb dL_law_359 (by decide) ?_
  refine lv_iadd hx hb dL_law_360 ?_
  refine r_val (v := 1) (by decide) ?_
  refine va_sld hx hb hX hbl hbA w.2.2.1 (vpi (by decide) (by decide)) dL_law_361 ?_
  refine r_val (v := xs 1) (congrArg xs (show (1 : Int32).toNatClampNeg = 1 by decide)) ?_
  refine lv_aload_n hx hb dL_law_362 rfl (lv_at hl 3 rfl) ?_
  refine lv_iload_n hx hb dL_law_363 rfl (lv_at hl 0 rfl) ?_
  refine lv_iconst (v := 2) hx hb dL_law_364 (by decide) ?_
  refine lv_iadd hx hb dL_law_365 ?_
  refine r_val (v := 2) (by decide) ?_
  refine va_sld hx hb hX hbl hbA w.2.2.1 (vpi (by decide) (by decide)) dL_law_366 ?_
  refine r_val (v := xs 2) (congrArg xs (show (2 : Int32).toNatClampNeg = 2 by decide)) ?_
  refine x_Vi F w (As := [.int (xs 1), .int (xs 2)]) (rest := [.int 0]) (a := 146) (by decide) (sh_12 rfl _ _) rfl (c_X12_tone_111 (rfl) h0) gv_L_44 hv_X12_tone ⟨Nat.le_of_ble_eq_true rfl, Nat.le_of_ble_eq_true rfl⟩ hl.1 rfl (Nat.le_of_ble_eq_true rfl) ⟨Nat.le_of_ble_eq_true rfl, Nat.le_of_ble_eq_true rfl⟩ dL_law_367 (fun H locs w => ?_)
  refine lv_icmp_eq (tgt := 1065) hx hb dL_law_370 (by decide) (fun _ => ?_) (fun c1 => absurd c1 (by decide))
  exact kk _ _ _ w
theorem dX11_tone_4 : decode cX11_tone 4 = .ok (.iload_n 1, 1) := by decide +kernel
theorem dX11_tone_5 : decode cX11_tone 5 = .ok (.aload_n 0, 1) := by decide +kernel
theorem dX11_tone_6 : decode cX11_tone 6 = .ok (.getfield 43, 3) := by decide +kernel
theorem dX11_tone_9 : decode cX11_tone 9 = .ok (.getfield 100, 3) := by decide +kernel
theorem tb_260 : Cond.fieldLink "ToneLines" 100 "ToneLines$Word" "tones" "I" ∈ TB := tbm (tc1 (List.mem_of_getElem? (i := 133) rfl)) rfl
theorem dX11_tone_12 : decode cX11_tone 12 = .ok (.if_icmp .gt 22, 3) := by decide +kernel
theorem dX11_tone_15 : decode cX11_tone 15 = .ok (.aload_n 0, 1) := by decide +kernel
theorem dX11_tone_16 : decode cX11_tone 16 = .ok (.getfield 43, 3) := by decide +kernel
theorem dX11_tone_19 : decode cX11_tone 19 = .ok (.getfield 100, 3) := by decide +kernel
theorem dX11_tone_22 : decode cX11_tone 22 = .ok (.bipush 12, 2) := by decide +kernel
theorem dX11_tone_24 : decode cX11_tone 24 = .ok (.if_icmp .ge 10, 3) := by decide +kernel
theorem dX11_tone_27 : decode cX11_tone 27 = .ok (.iload_n 2, 1) := by decide +kernel
theorem dX11_tone_28 : decode cX11_tone 28 = .ok (.invokestatic 133, 3) := by decide +kernel
theorem dX11_isKind_0 : decode cX11_isKind 0 = .ok (.iload_n 0, 1) := by decide +kernel
theorem dX11_isKind_1 : decode cX11_isKind 1 = .ok (.ifCond .lt 12, 3) := by decide +kernel
theorem dX11_isKind_13 : decode cX11_isKind 13 = .ok (.iconst 0, 1) := by decide +kernel
theorem dX11_isKind_14 : decode cX11_isKind 14 = .ok (.ireturn, 1) := by decide +kernel
set_option maxRecDepth 4000 in
theorem c_X11_isKind_112 {l : Launch} {D : va_G} {B : Nat} {cy : Nat → ClassId} {M : Mem} {p0 : Int32} (h0 : p0 < 0) : Ci l D B cy yX11_isKind cX11_isKind 1 (some .boolean) 0 0 [.int p0] M (fun r M1 => r = 0 ∧ M1 = M) := by
  refine s_any (by decide) (Nat.le_of_ble_eq_true rfl) ?_
  intro p e s m below meth c ls F hr hlocks w hl
  have F : CallFix p m c cX11_isKind 1 s _ TB RX11 := F
  have hx := F.1
  have hb := F.2.1
  have hl : lv_has ls 1 [(0, .int p0)] := hl
  refine lv_iload_n hx hb dX11_isKind_0 rfl (lv_at hl 0 rfl) ?_
  refine lv_if_lt (tgt := 13) hx hb dX11_isKind_1 (by decide) (fun _ => ?_) (fun c1 => absurd h0 c1)
  refine lv_iconst (v := 0) hx hb dX11_isKind_13 (by decide) ?_
  exact e_z F w hr hlocks (by decide) ⟨rfl, rfl⟩ dX11_isKind_14
theorem tk_X11_isKind : Cond.code yX11_isKind cX11_isKind 1 (some .boolean) ∈ TB := tbm (tc3 (List.mem_of_getElem? (i := 162) rfl)) rfl
theorem gc_X11_isKind : GoodIn TB (cw yX11_isKind cX11_isKind 1 (some .boolean)) := goodIn_c2 tk_X11_isKind
theorem tb_261 : Cond.methodLink "ToneLines" 133 yX11_isKind ∈ TB := tbm (tc3 (List.mem_of_getElem? (i := 160) rfl)) rfl
theorem tb_262 : Cond.static yX11_isKind ∈ TB := tbm (tc3 (List.mem_of_getElem? (i := 161) rfl)) rfl
theorem gs_X11_133 : GoodIn TB (va_wsS RX11 133 yX11_isKind (cw yX11_isKind cX11_isKind 1 (some .boolean))) := goodIn_3 tb_261 tb_262 tb_145 gc_X11_isKind
theorem hs_X11_isKind : yX11_isKind.cls ≠ "java/lang/invoke/MethodHandle" ∧ yX11_isKind.cls ≠ "java/lang/invoke/VarHandle" ∧ (parseMethodDescriptor yX11_isKind.desc).map (fun d => d.parameters.length) = some 1 := by decide +kernel
theorem dX11_tone_31 : decode cX11_tone 31 = .ok (.ifCond .ne 5, 3) := by decide +kernel
set_option maxRecDepth 4000 in
theorem c_X11_tone_113 {l : Launch} {D : va_G} {B : Nat} {cy : Nat → ClassId} {M : Mem} {p2 : Int32} (h0 : M.1 44 0 = 0) (h1 : p2 < 0) : Ci l D B cy yX11_tone cX11_tone 3 (some .boolean) 1 20 [.ref (B + 0), .int 0, .int p2] M (fun r M1 => r = 0 ∧ M1 = M) := by
  refine s_any (by decide) (Nat.le_of_ble_eq_true rfl) ?_
  intro p e s m below meth c ls F hr hlocks w hl
  have F : CallFix p m c cX11_tone 3 s _ TB RX11 := F
  have hx := F.1
  have hb := F.2.1
  have hl : lv_has ls 3 [(0, .ref (B + 0)), (1, .int 0), (2, .int p2)] := hl
  refine lv_iload_n hx hb dX11_tone_0 rfl (lv_at hl 1 rfl) ?_
  refine lv_if_lt (tgt := 34) hx hb dX11_tone_1 (by decide) (fun c1 => absurd c1 (by decide)) (fun _ => ?_)
  refine lv_iload_n hx hb dX11_tone_4 rfl (lv_at hl 1 rfl) ?_
  refine lv_aload_n hx hb dX11_tone_5 rfl (lv_at hl 0 rfl) ?_
  refine f_11_4 F w (a := 0) rfl tb_75 dX11_tone_6 ?_
  refine f_9_0 F w (a := 44) rfl tb_260 dX11_tone_9 ?_
  refine r_val (v := 0) (h0) ?_
  refine lv_icmp_gt (tgt := 34) hx hb dX11_tone_12 (by decide) (fun c1 => absurd c1 (by decide)) (fun _ => ?_)
  refine lv_aload_n hx hb dX11_tone_15 rfl (lv_at hl 0 rfl) ?_
  refine f_11_4 F w (a := 0) rfl tb_75 dX11_tone_16 ?_
  refine f_9_0 F w (a := 44) rfl tb_260 dX11_tone_19 ?_
  refine r_val (v := 0) (h0) ?_
  refine lv_bipush (v := 12) hx hb dX11_tone_22 (by decide) ?_
  refine lv_icmp_ge (tgt := 34) hx hb dX11_tone_24 (by decide) (fun c1 => absurd c1 (by decide)) (fun _ => ?_)
  refine lv_iload_n hx hb dX11_tone_27 rfl (lv_at hl 2 rfl) ?_
  refine x_Si F w (As := [.int p2]) (rest := []) (c_X11_isKind_112 h1) gs_X11_133 hs_X11_isKind ⟨Nat.le_of_ble_eq_true rfl, Nat.le_of_ble_eq_true rfl⟩ hl.1 rfl (Nat.le_of_ble_eq_true rfl) ⟨Nat.zero_le _, Nat.zero_le _⟩ dX11_tone_28 (fun H locs w => ?_)
  refine lv_if_ne (tgt := 36) hx hb dX11_tone_31 (by decide) (fun c1 => absurd c1 (by decide)) (fun _ => ?_)
  refine lv_iconst (v := 0) hx hb dX11_tone_34 (by decide) ?_
  exact e_z F w hr hlocks (by decide) ⟨rfl, rfl⟩ dX11_tone_35
theorem dX12_tone_14 : decode cX12_tone 14 = .ok (.iload_n 2, 1) := by decide +kernel
theorem dX12_tone_15 : decode cX12_tone 15 = .ok (.iconst 0, 1) := by decide +kernel
theorem dX12_tone_16 : decode cX12_tone 16 = .ok (.iconst 2, 1) := by decide +kernel
theorem dX12_tone_17 : decode cX12_tone 17 = .ok (.invokestatic 55, 3) := by decide +kernel
set_option maxRecDepth 4000 in
theorem c_X12_in_114 {l : Launch} {D : va_G} {B : Nat} {cy : Nat → ClassId} {M : Mem} {p0 : Int32} (h0 : p0 < 0) : Ci l D B cy yX12_in cX12_in 3 (some .boolean) 0 0 [.int p0, .int 0, .int 2] M (fun r M1 => r = 0 ∧ M1 = M) := by
  refine s_any (by decide) (Nat.le_of_ble_eq_true rfl) ?_
  intro p e s m below meth c ls F hr hlocks w hl
  have F : CallFix p m c cX12_in 3 s _ TB RX12 := F
  have hx := F.1
  have hb := F.2.1
  have hl : lv_has ls 3 [(0, .int p0), (1, .int 0), (2, .int 2)] := hl
  refine lv_iload_n hx hb dX12_in_0 rfl (lv_at hl 0 rfl) ?_
  refine lv_iload_n hx hb dX12_in_1 rfl (lv_at hl 1 rfl) ?_
  refine lv_icmp_lt (tgt := 14) hx hb dX12_in_2 (by decide) (fun _ => ?_) (fun c1 => absurd h0 c1)
  refine lv_iconst (v := 0) hx hb dX12_in_14 (by decide) ?_
  exact e_z F w hr hlocks (by decide) ⟨rfl, rfl⟩ dX12_in_15
theorem dX12_tone_20 : decode cX12_tone 20 = .ok (.ifCond .eq 14, 3) := by decide +kernel
set_option maxRecDepth 4000 in
theorem c_X12_tone_115 {l : Launch} {D : va_G} {B : Nat} {cy : Nat → ClassId} {M : Mem} {p2 : Int32} (h0 : M.1 147 0 = 0) (h1 : p2 < 0) : Ci l D B cy yX12_tone cX12_tone 3 (some .boolean) 1 22 [.ref (B + 146), .int 0, .int p2] M (fun r M1 => r = 0 ∧ M1 = M) := by
  refine s_any (by decide) (Nat.le_of_ble_eq_true rfl) ?_
  intro p e s m below meth c ls F hr hlocks w hl
  have F : CallFix p m c cX12_tone 3 s _ TB RX12 := F
  have hx := F.1
  have hb := F.2.1
  have hl : lv_has ls 3 [(0, .ref (B + 146)), (1, .int 0), (2, .int p2)] := hl
  refine lv_iload_n hx hb dX12_tone_0 rfl (lv_at hl 1 rfl) ?_
  refine lv_iconst (v := 0) hx hb dX12_tone_1 (by decide) ?_
  refine lv_aload_n hx hb dX12_tone_2 rfl (lv_at hl 0 rfl) ?_
  refine f_12_1 F w (a := 146) rfl tb_126 dX12_tone_3 ?_
  refine lv_iconst (v := 0) hx hb dX12_tone_6 (by decide) ?_
  refine g_iald F w (a := 147) rfl (j := 0) ⟨by decide, by decide⟩ (by decide) dX12_tone_7 ?_
  refine r_val (v := 0) (h0) ?_
  refine x_Si F w (As := [.int 0, .int 0, .int 0]) (rest := []) (c_X12_in_69) gs_X12_55 hs_X12_in ⟨Nat.le_of_ble_eq_true rfl, Nat.le_of_ble_eq_true rfl⟩ hl.1 rfl (Nat.le_of_ble_eq_true rfl) ⟨Nat.zero_le _, Nat.zero_le _⟩ dX12_tone_8 (fun H locs w => ?_)
  refine lv_if_eq (tgt := 34) hx hb dX12_tone_11 (by decide) (fun c1 => absurd c1 (by decide)) (fun _ => ?_)
  refine lv_iload_n hx hb dX12_tone_14 rfl (lv_at hl 2 rfl) ?_
  refine lv_iconst (v := 0) hx hb dX12_tone_15 (by decide) ?_
  refine lv_iconst (v := 2) hx hb dX12_tone_16 (by decide) ?_
  refine x_Si F w (As := [.int p2, .int 0, .int 2]) (rest := []) (c_X12_in_114 h1) gs_X12_55 hs_X12_in ⟨Nat.le_of_ble_eq_true rfl, Nat.le_of_ble_eq_true rfl⟩ hl.1 rfl (Nat.le_of_ble_eq_true rfl) ⟨Nat.zero_le _, Nat.zero_le _⟩ dX12_tone_17 (fun H locs w => ?_)
  refine lv_if_eq (tgt := 34) hx hb dX12_tone_20 (by decide) (fun _ => ?_) (fun c1 => absurd c1 (by decide))
  refine lv_iconst (v := 0) hx hb dX12_tone_34 (by decide) ?_
  exact e_z F w hr hlocks (by decide) ⟨rfl, rfl⟩ dX12_tone_35
set_option maxRecDepth 8000 in
theorem la_6_12 {p : Program} {l : Launch} {e : Env} {s : State} {m : MethodId} {below : List Frame} {meth : Method} {c : Code} {D : va_G} {B b : Nat} {cy : Nat → ClassId} {H : Heap} {locs : List Loc} {ls : Array Slot} {xs : Nat → Int32} {Q : State → Prop} (F : CallFix p m c code 4 s #[Value.ref b] TB RL) (hX : va_X b 6 xs s s.heap) (hbl : b < s.heap.size) (hbA : ¬ B ≤ b) (w : Wd D B cy s s.heap M0 H locs) (hl : lv_has ls 4 [(3, .int 0), (2, .ref (B + 146)), (1, .ref (B + 0)), (0, .ref b)]) (x1 : xs 1 = 0) (h0 : (xs 2) < 0) (kk : ∀ (M1 : Mem) (H1 : Heap) (locs1 : List Loc), Wd D B cy s s.heap M1 H1 locs1 → W p l e room_1 s m #[Value.ref b] below meth c H1 locs1 159 13107 Q (F0 m 1065 ls [])) : W p l e room_1 s m #[Value.ref b] below meth c H locs 159 13107 Q (F0 m 342 ls []) := by
  have hx := F.1
  have hb := F.2.1
  refine lv_aload_n hx hb dL_law_342 rfl (lv_at hl 2 rfl) ?_
  refine lv_aload_n hx hb dL_law_343 rfl (lv_at hl 3 rfl) ?_
  refine lv_iload_n hx hb dL_law_344 rfl (lv_at hl 0 rfl) ?_
  refine lv_iconst (v := 1) hx hb dL_law_345 (by decide) ?_
  refine lv_iadd hx hb dL_law_346 ?_
  refine r_val (v := 1) (by decide) ?_
  refine va_sld hx hb hX hbl hbA w.2.2.1 (vpi (by decide) (by decide)) dL_law_347 ?_
  refine r_val (v := 0) ((congrArg xs (show (1 : Int32).toNatClampNeg = 1 by decide)).trans x1) ?_
  refine lv_aload_n hx hb dL_law_348 rfl (lv_at hl 3 rfl) ?_
  refine lv_iload_n hx hb dL_law_349 rfl (lv_at hl 0 rfl) ?_
  refine lv_iconst (v := 2) hx hb dL_law_350 (by decide) ?_
  refine lv_iadd hx hb dL_law_351 ?_
  refine r_val (v := 2) (by decide) ?_
  refine va_sld hx hb hX hbl hbA w.2.2.1 (vpi (by decide) (by decide)) dL_law_352 ?_
  refine r_val (v := xs 2) (congrArg xs (show (2 : Int32).toNatClampNeg = 2 by decide)) ?_
  refine x_Vi F w (As := [.int 0, .int (xs 2)]) (rest := []) (a := 0) (by decide) (sh_11 rfl _ _) rfl (c_X11_tone_113 (rfl) h0) gv_L_41 hv_X11_tone ⟨Nat.le_of_ble_eq_true rfl, Nat.le_of_ble_eq_true rfl⟩ hl.1 rfl (Nat.le_of_ble_eq_true rfl) ⟨Nat.le_of_ble_eq_true rfl, Nat.le_of_ble_eq_true rfl⟩ dL_law_353 (fun H locs w => ?_)
  refine lv_aload_n hx hb dL_law_356 rfl (lv_at hl 1 rfl) ?_
  refine lv_aload_n hx hb dL_law_357 rfl (lv_at hl 3 rfl) ?_
  refine lv_iload_n hx hb dL_law_358 rfl (lv_at hl 0 rfl) ?_
  refine lv_iconst (v := 1) hx hb dL_law_359 (by decide) ?_
  refine lv_iadd hx hb dL_law_360 ?_
  refine r_val (v := 1) (by decide) ?_
  refine va_sld hx hb hX hbl hbA w.2.2.1 (vpi (by decide) (by decide)) dL_law_361 ?_
  refine r_val (v := 0) ((congrArg xs (show (1 : Int32).toNatClampNeg = 1 by decide)).trans x1) ?_
  refine lv_aload_n hx hb dL_law_362 rfl (lv_at hl 3 rfl) ?_
  refine lv_iload_n hx hb dL_law_363 rfl (lv_at hl 0 rfl) ?_
  refine lv_iconst (v := 2) hx hb dL_law_364 (by decide) ?_
  refine lv_iadd hx hb dL_law_365 ?_
  refine r_val (v := 2) (by decide) ?_
  refine va_sld hx hb hX hbl hbA w.2.2.1 (vpi (by decide) (by decide)) dL_law_366 ?_
  refine r_val (v := xs 2) (congrArg xs (show (2 : Int32).toNatClampNeg = 2 by decide)) ?_
  refine x_Vi F w (As := [.int 0, .int (xs 2)]) (rest := [.int 0]) (a := 146) (by decide) (sh_12 rfl _ _) rfl (c_X12_tone_115 (rfl) h0) gv_L_44 hv_X12_tone ⟨Nat.le_of_ble_eq_true rfl, Nat.le_of_ble_eq_true rfl⟩ hl.1 rfl (Nat.le_of_ble_eq_true rfl) ⟨Nat.le_of_ble_eq_true rfl, Nat.le_of_ble_eq_true rfl⟩ dL_law_367 (fun H locs w => ?_)
  refine lv_icmp_eq (tgt := 1065) hx hb dL_law_370 (by decide) (fun _ => ?_) (fun c1 => absurd c1 (by decide))
  exact kk _ _ _ w
theorem dX11_isKind_4 : decode cX11_isKind 4 = .ok (.iload_n 0, 1) := by decide +kernel
theorem dX11_isKind_5 : decode cX11_isKind 5 = .ok (.iconst 2, 1) := by decide +kernel
theorem dX11_isKind_6 : decode cX11_isKind 6 = .ok (.if_icmp .gt 7, 3) := by decide +kernel
theorem dX11_isKind_9 : decode cX11_isKind 9 = .ok (.iconst 1, 1) := by decide +kernel
theorem dX11_isKind_10 : decode cX11_isKind 10 = .ok (.goto 4, 3) := by decide +kernel
set_option maxRecDepth 4000 in
theorem c_X11_isKind_116 {l : Launch} {D : va_G} {B : Nat} {cy : Nat → ClassId} {M : Mem} : Ci l D B cy yX11_isKind cX11_isKind 1 (some .boolean) 0 0 [.int 0] M (fun r M1 => r = 1 ∧ M1 = M) := by
  refine s_any (by decide) (Nat.le_of_ble_eq_true rfl) ?_
  intro p e s m below meth c ls F hr hlocks w hl
  have F : CallFix p m c cX11_isKind 1 s _ TB RX11 := F
  have hx := F.1
  have hb := F.2.1
  have hl : lv_has ls 1 [(0, .int 0)] := hl
  refine lv_iload_n hx hb dX11_isKind_0 rfl (lv_at hl 0 rfl) ?_
  refine lv_if_lt (tgt := 13) hx hb dX11_isKind_1 (by decide) (fun c1 => absurd c1 (by decide)) (fun _ => ?_)
  refine lv_iload_n hx hb dX11_isKind_4 rfl (lv_at hl 0 rfl) ?_
  refine lv_iconst (v := 2) hx hb dX11_isKind_5 (by decide) ?_
  refine lv_icmp_gt (tgt := 13) hx hb dX11_isKind_6 (by decide) (fun c1 => absurd c1 (by decide)) (fun _ => ?_)
  refine lv_iconst (v := 1) hx hb dX11_isKind_9 (by decide) ?_
  refine lv_goto (tgt := 14) hx hb dX11_isKind_10 (by decide) ?_
  exact e_z F w hr hlocks (by decide) ⟨rfl, rfl⟩ dX11_isKind_14
theorem dX11_tone_36 : decode cX11_tone 36 = .ok (.aload_n 0, 1) := by decide +kernel
theorem dX11_tone_37 : decode cX11_tone 37 = .ok (.invokevirtual 123, 3) := by decide +kernel
theorem dX11_beginAct_0 : decode cX11_beginAct 0 = .ok (.aload_n 0, 1) := by decide +kernel
theorem dX11_beginAct_1 : decode cX11_beginAct 1 = .ok (.getfield 47, 3) := by decide +kernel
theorem dX11_beginAct_4 : decode cX11_beginAct 4 = .ok (.aload_n 0, 1) := by decide +kernel
theorem dX11_beginAct_5 : decode cX11_beginAct 5 = .ok (.getfield 43, 3) := by decide +kernel
theorem dX11_beginAct_8 : decode cX11_beginAct 8 = .ok (.invokevirtual 298, 3) := by decide +kernel
theorem dX2_keep_0 : decode cX2_keep 0 = .ok (.aload_n 0, 1) := by decide +kernel
theorem dX2_keep_1 : decode cX2_keep 1 = .ok (.getfield 11, 3) := by decide +kernel
theorem dX2_keep_4 : decode cX2_keep 4 = .ok (.aload_n 0, 1) := by decide +kernel
theorem dX2_keep_5 : decode cX2_keep 5 = .ok (.getfield 17, 3) := by decide +kernel
theorem dX2_keep_8 : decode cX2_keep 8 = .ok (.aaload, 1) := by decide +kernel
theorem dX2_keep_9 : decode cX2_keep 9 = .ok (.aload_n 1, 1) := by decide +kernel
theorem dX2_keep_10 : decode cX2_keep 10 = .ok (.invokevirtual 25, 3) := by decide +kernel
theorem dX9_copyFrom_0 : decode cX9_copyFrom 0 = .ok (.aload_n 0, 1) := by decide +kernel
theorem dX9_copyFrom_1 : decode cX9_copyFrom 1 = .ok (.aload_n 1, 1) := by decide +kernel
theorem dX9_copyFrom_2 : decode cX9_copyFrom 2 = .ok (.invokevirtual 31, 3) := by decide +kernel
theorem dX9_copySyllables_0 : decode cX9_copySyllables 0 = .ok (.aload_n 0, 1) := by decide +kernel
theorem dX9_copySyllables_1 : decode cX9_copySyllables 1 = .ok (.aload_n 1, 1) := by decide +kernel
theorem dX9_copySyllables_2 : decode cX9_copySyllables 2 = .ok (.getfield 15, 3) := by decide +kernel
theorem dX9_copySyllables_5 : decode cX9_copySyllables 5 = .ok (.putfield 15, 3) := by decide +kernel
theorem dX9_copySyllables_8 : decode cX9_copySyllables 8 = .ok (.aload_n 0, 1) := by decide +kernel
theorem dX9_copySyllables_9 : decode cX9_copySyllables 9 = .ok (.aload_n 1, 1) := by decide +kernel
theorem dX9_copySyllables_10 : decode cX9_copySyllables 10 = .ok (.getfield 18, 3) := by decide +kernel
theorem dX9_copySyllables_13 : decode cX9_copySyllables 13 = .ok (.putfield 18, 3) := by decide +kernel
theorem dX9_copySyllables_16 : decode cX9_copySyllables 16 = .ok (.aload_n 0, 1) := by decide +kernel
theorem dX9_copySyllables_17 : decode cX9_copySyllables 17 = .ok (.aload_n 1, 1) := by decide +kernel
theorem dX9_copySyllables_18 : decode cX9_copySyllables 18 = .ok (.getfield 21, 3) := by decide +kernel
theorem dX9_copySyllables_21 : decode cX9_copySyllables 21 = .ok (.putfield 21, 3) := by decide +kernel
theorem dX9_copySyllables_24 : decode cX9_copySyllables 24 = .ok (.return_, 1) := by decide +kernel
set_option maxRecDepth 4000 in
theorem c_X9_copySyllables_117 {l : Launch} {D : va_G} {B : Nat} {cy : Nat → ClassId} {M : Mem} (h0 : M.1 44 1 = 0) (h1 : M.1 73 1 = 0) (h2 : M.1 44 2 = 0) (h3 : M.1 73 2 = 0) (h4 : M.1 44 3 = 0) (h5 : M.1 73 3 = 0) : Cv l D B cy yX9_copySyllables cX9_copySyllables 2 0 0 [.ref (B + 73), .ref (B + 44)] M (fun M1 => M1 = M) := by
  refine s_any (by decide) (Nat.le_of_ble_eq_true rfl) ?_
  intro p e s m below meth c ls F hr hlocks w hl
  have F : CallFix p m c cX9_copySyllables 2 s _ TB RX9 := F
  have hx := F.1
  have hb := F.2.1
  have hl : lv_has ls 2 [(0, .ref (B + 73)), (1, .ref (B + 44))] := hl
  refine lv_aload_n hx hb dX9_copySyllables_0 rfl (lv_at hl 0 rfl) ?_
  refine lv_aload_n hx hb dX9_copySyllables_1 rfl (lv_at hl 1 rfl) ?_
  refine f_9_1 F w (a := 44) rfl tb_64 dX9_copySyllables_2 ?_
  refine r_val (v := 0) (h0) ?_
  refine u_9_1 F w (a := 73) rfl tb_64 dX9_copySyllables_5 (fun H locs w => ?_)
  rw [st_same (h1)] at w
  refine lv_aload_n hx hb dX9_copySyllables_8 rfl (lv_at hl 0 rfl) ?_
  refine lv_aload_n hx hb dX9_copySyllables_9 rfl (lv_at hl 1 rfl) ?_
  refine f_9_2 F w (a := 44) rfl tb_65 dX9_copySyllables_10 ?_
  refine r_val (v := 0) (h2) ?_
  refine u_9_2 F w (a := 73) rfl tb_65 dX9_copySyllables_13 (fun H locs w => ?_)
  rw [st_same (h3)] at w
  refine lv_aload_n hx hb dX9_copySyllables_16 rfl (lv_at hl 0 rfl) ?_
  refine lv_aload_n hx hb dX9_copySyllables_17 rfl (lv_at hl 1 rfl) ?_
  refine f_9_3 F w (a := 44) rfl tb_66 dX9_copySyllables_18 ?_
  refine r_val (v := 0) (h4) ?_
  refine u_9_3 F w (a := 73) rfl tb_66 dX9_copySyllables_21 (fun H locs w => ?_)
  rw [st_same (h5)] at w
  exact e_v F w hr hlocks rfl dX9_copySyllables_24
theorem tk_X9_copySyllables : Cond.code yX9_copySyllables cX9_copySyllables 2 none ∈ TB := tbm (tc3 (List.mem_of_getElem? (i := 25) rfl)) rfl
theorem gc_X9_copySyllables : GoodIn TB (cw yX9_copySyllables cX9_copySyllables 2 none) := goodIn_c2 tk_X9_copySyllables
theorem tb_263 : Cond.methodLink "ToneLines$Word" 31 yX9_copySyllables ∈ TB := tbm (tc3 (List.mem_of_getElem? (i := 22) rfl)) rfl
theorem tb_264 : Cond.instanceMethod yX9_copySyllables ∈ TB := tbm (tc3 (List.mem_of_getElem? (i := 23) rfl)) rfl
theorem tb_265 : Cond.selects "ToneLines$Word" yX9_copySyllables yX9_copySyllables ∈ TB := tbm (tc3 (List.mem_of_getElem? (i := 24) rfl)) rfl
theorem gv_X9_31 : GoodIn TB (wsV RX9 31 RX9 yX9_copySyllables (cw yX9_copySyllables cX9_copySyllables 2 none)) := goodIn_4 tb_263 tb_264 tb_265 tb_61 gc_X9_copySyllables
theorem hv_X9_copySyllables : yX9_copySyllables.cls = RX9 ∧ yX9_copySyllables.cls ≠ "java/lang/invoke/MethodHandle" ∧ yX9_copySyllables.cls ≠ "java/lang/invoke/VarHandle" ∧ (parseMethodDescriptor yX9_copySyllables.desc).map (fun d => d.parameters.length) = some 1 := by decide +kernel
theorem dX9_copyFrom_5 : decode cX9_copyFrom 5 = .ok (.aload_n 0, 1) := by decide +kernel
theorem dX9_copyFrom_6 : decode cX9_copyFrom 6 = .ok (.aload_n 1, 1) := by decide +kernel
theorem dX9_copyFrom_7 : decode cX9_copyFrom 7 = .ok (.getfield 9, 3) := by decide +kernel
theorem dX9_copyFrom_10 : decode cX9_copyFrom 10 = .ok (.putfield 9, 3) := by decide +kernel
theorem dX9_copyFrom_13 : decode cX9_copyFrom 13 = .ok (.aload_n 1, 1) := by decide +kernel
theorem dX9_copyFrom_14 : decode cX9_copyFrom 14 = .ok (.getfield 24, 3) := by decide +kernel
theorem dX9_copyFrom_17 : decode cX9_copyFrom 17 = .ok (.iconst 0, 1) := by decide +kernel
theorem dX9_copyFrom_18 : decode cX9_copyFrom 18 = .ok (.aload_n 0, 1) := by decide +kernel
theorem dX9_copyFrom_19 : decode cX9_copyFrom 19 = .ok (.getfield 24, 3) := by decide +kernel
theorem dX9_copyFrom_22 : decode cX9_copyFrom 22 = .ok (.iconst 0, 1) := by decide +kernel
theorem dX9_copyFrom_23 : decode cX9_copyFrom 23 = .ok (.bipush 12, 2) := by decide +kernel
theorem dX9_copyFrom_25 : decode cX9_copyFrom 25 = .ok (.invokestatic 35, 3) := by decide +kernel
theorem tb_266 : Cond.methodLink "ToneLines$Word" 35 arraycopyName ∈ TB := tbm (tc3 (List.mem_of_getElem? (i := 26) rfl)) rfl
theorem tb_267 : Cond.native arraycopyName ∈ TB := tbm (tc3 (List.mem_of_getElem? (i := 28) rfl)) rfl
theorem tb_268 : Cond.static arraycopyName ∈ TB := tbm (tc3 (List.mem_of_getElem? (i := 27) rfl)) rfl
theorem tb_269 : Cond.initialized "java/lang/System" ∈ TB := tbm (tc1 (List.mem_of_getElem? (i := 20) rfl)) rfl
theorem dX9_copyFrom_28 : decode cX9_copyFrom 28 = .ok (.aload_n 1, 1) := by decide +kernel
theorem dX9_copyFrom_29 : decode cX9_copyFrom 29 = .ok (.getfield 28, 3) := by decide +kernel
theorem dX9_copyFrom_32 : decode cX9_copyFrom 32 = .ok (.iconst 0, 1) := by decide +kernel
theorem dX9_copyFrom_33 : decode cX9_copyFrom 33 = .ok (.aload_n 0, 1) := by decide +kernel
theorem dX9_copyFrom_34 : decode cX9_copyFrom 34 = .ok (.getfield 28, 3) := by decide +kernel
theorem dX9_copyFrom_37 : decode cX9_copyFrom 37 = .ok (.iconst 0, 1) := by decide +kernel
theorem dX9_copyFrom_38 : decode cX9_copyFrom 38 = .ok (.bipush 12, 2) := by decide +kernel
theorem dX9_copyFrom_40 : decode cX9_copyFrom 40 = .ok (.invokestatic 35, 3) := by decide +kernel
theorem dX9_copyFrom_43 : decode cX9_copyFrom 43 = .ok (.return_, 1) := by decide +kernel
set_option maxRecDepth 4000 in
theorem c_X9_copyFrom_118 {l : Launch} {D : va_G} {B : Nat} {cy : Nat → ClassId} {M : Mem} (h0 : M.1 44 1 = 0) (h1 : M.1 73 1 = 0) (h2 : M.1 44 2 = 0) (h3 : M.1 73 2 = 0) (h4 : M.1 44 3 = 0) (h5 : M.1 73 3 = 0) (h6 : M.1 44 0 = 0) (h7 : M.1 73 0 = 0) (h8 : ∀ k, k < 12 → M.1 45 k = 0) (h9 : ∀ k, k < 12 → M.1 74 k = 0) (h10 : ∀ k, k < 12 → M.1 46 k = 0) (h11 : ∀ k, k < 12 → M.1 75 k = 0) : Cv l D B cy yX9_copyFrom cX9_copyFrom 2 1 40 [.ref (B + 73), .ref (B + 44)] M (fun M1 => M1 = M) := by
  refine s_any (by decide) (Nat.le_of_ble_eq_true rfl) ?_
  intro p e s m below meth c ls F hr hlocks w hl
  have F : CallFix p m c cX9_copyFrom 2 s _ TB RX9 := F
  have hx := F.1
  have hb := F.2.1
  have hl : lv_has ls 2 [(0, .ref (B + 73)), (1, .ref (B + 44))] := hl
  refine lv_aload_n hx hb dX9_copyFrom_0 rfl (lv_at hl 0 rfl) ?_
  refine lv_aload_n hx hb dX9_copyFrom_1 rfl (lv_at hl 1 rfl) ?_
  refine x_Vv F w (As := [.ref (B + 44)]) (rest := []) (a := 73) (by decide) (sh_9 rfl _ _) rfl (c_X9_copySyllables_117 (h0) (h1) (h2) (h3) (h4) (h5)) gv_X9_31 hv_X9_copySyllables ⟨Nat.le_of_ble_eq_true rfl, Nat.le_of_ble_eq_true rfl⟩ hl.1 rfl (Nat.le_of_ble_eq_true rfl) ⟨Nat.zero_le _, Nat.zero_le _⟩ dX9_copyFrom_2 (fun H locs w => ?_)
  refine lv_aload_n hx hb dX9_copyFrom_5 rfl (lv_at hl 0 rfl) ?_
  refine lv_aload_n hx hb dX9_copyFrom_6 rfl (lv_at hl 1 rfl) ?_
  refine f_9_0 F w (a := 44) rfl tb_63 dX9_copyFrom_7 ?_
  refine r_val (v := 0) (h6) ?_
  refine u_9_0 F w (a := 73) rfl tb_63 dX9_copyFrom_10 (fun H locs w => ?_)
  rw [st_same (h7)] at w
  refine lv_aload_n hx hb dX9_copyFrom_13 rfl (lv_at hl 1 rfl) ?_
  refine f_9_4 F w (a := 44) rfl tb_67 dX9_copyFrom_14 ?_
  refine lv_iconst (v := 0) hx hb dX9_copyFrom_17 (by decide) ?_
  refine lv_aload_n hx hb dX9_copyFrom_18 rfl (lv_at hl 0 rfl) ?_
  refine f_9_4 F w (a := 73) rfl tb_67 dX9_copyFrom_19 ?_
  refine lv_iconst (v := 0) hx hb dX9_copyFrom_22 (by decide) ?_
  refine lv_bipush (v := 12) hx hb dX9_copyFrom_23 (by decide) ?_
  refine g_copyi F w (a0 := 45) (a1 := 74) rfl rfl hl.1 tb_266 tb_267 tb_268 tb_269 (by decide) (by decide) (by decide) (by decide) (by decide) (Nat.le_of_ble_eq_true rfl) (Nat.le_of_ble_eq_true rfl) dX9_copyFrom_25 (fun H locs w => ?_)
  have w := (show _ = _ from cp_same (M := M) (a0 := 45) (a1 := 74) (n := 12) (fun k hk => ((fun k hk => (h8 k hk)) k hk).trans ((fun k hk => (h9 k hk)) k hk).symm)) ▸ w
  refine lv_aload_n hx hb dX9_copyFrom_28 rfl (lv_at hl 1 rfl) ?_
  refine f_9_5 F w (a := 44) rfl tb_68 dX9_copyFrom_29 ?_
  refine lv_iconst (v := 0) hx hb dX9_copyFrom_32 (by decide) ?_
  refine lv_aload_n hx hb dX9_copyFrom_33 rfl (lv_at hl 0 rfl) ?_
  refine f_9_5 F w (a := 73) rfl tb_68 dX9_copyFrom_34 ?_
  refine lv_iconst (v := 0) hx hb dX9_copyFrom_37 (by decide) ?_
  refine lv_bipush (v := 12) hx hb dX9_copyFrom_38 (by decide) ?_
  refine g_copyi F w (a0 := 46) (a1 := 75) rfl rfl hl.1 tb_266 tb_267 tb_268 tb_269 (by decide) (by decide) (by decide) (by decide) (by decide) (Nat.le_of_ble_eq_true rfl) (Nat.le_of_ble_eq_true rfl) dX9_copyFrom_40 (fun H locs w => ?_)
  have w := (show _ = _ from cp_same (M := M) (a0 := 46) (a1 := 75) (n := 12) (fun k hk => ((fun k hk => (h10 k hk)) k hk).trans ((fun k hk => (h11 k hk)) k hk).symm)) ▸ w
  exact e_v F w hr hlocks rfl dX9_copyFrom_43
theorem tk_X9_copyFrom : Cond.code yX9_copyFrom cX9_copyFrom 2 none ∈ TB := tbm (tc3 (List.mem_of_getElem? (i := 21) rfl)) rfl
theorem gc_X9_copyFrom : GoodIn TB (cw yX9_copyFrom cX9_copyFrom 2 none) := goodIn_c2 tk_X9_copyFrom
theorem tb_270 : Cond.methodLink "ToneLines$History" 25 yX9_copyFrom ∈ TB := tbm (tc3 (List.mem_of_getElem? (i := 146) rfl)) rfl
theorem tb_271 : Cond.instanceMethod yX9_copyFrom ∈ TB := tbm (tc3 (List.mem_of_getElem? (i := 19) rfl)) rfl
theorem tb_272 : Cond.selects "ToneLines$Word" yX9_copyFrom yX9_copyFrom ∈ TB := tbm (tc3 (List.mem_of_getElem? (i := 20) rfl)) rfl
theorem gv_X2_25 : GoodIn TB (wsV RX2 25 RX9 yX9_copyFrom (cw yX9_copyFrom cX9_copyFrom 2 none)) := goodIn_4 tb_270 tb_271 tb_272 tb_61 gc_X9_copyFrom
theorem hv_X9_copyFrom : yX9_copyFrom.cls = RX9 ∧ yX9_copyFrom.cls ≠ "java/lang/invoke/MethodHandle" ∧ yX9_copyFrom.cls ≠ "java/lang/invoke/VarHandle" ∧ (parseMethodDescriptor yX9_copyFrom.desc).map (fun d => d.parameters.length) = some 1 := by decide +kernel
theorem dX2_keep_13 : decode cX2_keep 13 = .ok (.aload_n 0, 1) := by decide +kernel
theorem dX2_keep_14 : decode cX2_keep 14 = .ok (.aload_n 0, 1) := by decide +kernel
theorem dX2_keep_15 : decode cX2_keep 15 = .ok (.getfield 17, 3) := by decide +kernel
theorem dX2_keep_18 : decode cX2_keep 18 = .ok (.iconst 1, 1) := by decide +kernel
theorem dX2_keep_19 : decode cX2_keep 19 = .ok (.iadd, 1) := by decide +kernel
theorem dX2_keep_20 : decode cX2_keep 20 = .ok (.bipush 12, 2) := by decide +kernel
theorem dX2_keep_22 : decode cX2_keep 22 = .ok (.if_icmp .ge 12, 3) := by decide +kernel
theorem dX2_keep_25 : decode cX2_keep 25 = .ok (.aload_n 0, 1) := by decide +kernel
theorem dX2_keep_26 : decode cX2_keep 26 = .ok (.getfield 17, 3) := by decide +kernel
theorem dX2_keep_29 : decode cX2_keep 29 = .ok (.iconst 1, 1) := by decide +kernel
theorem dX2_keep_30 : decode cX2_keep 30 = .ok (.iadd, 1) := by decide +kernel
theorem dX2_keep_31 : decode cX2_keep 31 = .ok (.goto 4, 3) := by decide +kernel
theorem dX2_keep_35 : decode cX2_keep 35 = .ok (.putfield 17, 3) := by decide +kernel
theorem dX2_keep_38 : decode cX2_keep 38 = .ok (.aload_n 0, 1) := by decide +kernel
theorem dX2_keep_39 : decode cX2_keep 39 = .ok (.aload_n 0, 1) := by decide +kernel
theorem dX2_keep_40 : decode cX2_keep 40 = .ok (.getfield 21, 3) := by decide +kernel
theorem dX2_keep_43 : decode cX2_keep 43 = .ok (.iconst 1, 1) := by decide +kernel
theorem dX2_keep_44 : decode cX2_keep 44 = .ok (.iadd, 1) := by decide +kernel
theorem dX2_keep_45 : decode cX2_keep 45 = .ok (.bipush 12, 2) := by decide +kernel
theorem dX2_keep_47 : decode cX2_keep 47 = .ok (.invokestatic 29, 3) := by decide +kernel
theorem tb_273 : Cond.methodLink "ToneLines$History" 29 yJ9_min_7cf53 ∈ TB := tbm (tc3 (List.mem_of_getElem? (i := 147) rfl)) rfl
theorem dX2_keep_50 : decode cX2_keep 50 = .ok (.putfield 21, 3) := by decide +kernel
theorem dX2_keep_53 : decode cX2_keep 53 = .ok (.return_, 1) := by decide +kernel
set_option maxRecDepth 4000 in
theorem c_X2_keep_119 {l : Launch} {D : va_G} {B : Nat} {cy : Nat → ClassId} {M : Mem} (h0 : M.1 71 1 = 0) (h1 : M.1 44 1 = 0) (h2 : M.1 73 1 = 0) (h3 : M.1 44 2 = 0) (h4 : M.1 73 2 = 0) (h5 : M.1 44 3 = 0) (h6 : M.1 73 3 = 0) (h7 : M.1 44 0 = 0) (h8 : M.1 73 0 = 0) (h9 : ∀ k, k < 12 → M.1 45 k = 0) (h10 : ∀ k, k < 12 → M.1 74 k = 0) (h11 : ∀ k, k < 12 → M.1 46 k = 0) (h12 : ∀ k, k < 12 → M.1 75 k = 0) (h13 : M.1 71 2 = 0) : Cv l D B cy yX2_keep cX2_keep 2 2 61 [.ref (B + 71), .ref (B + 44)] M (fun M1 => M1 = (st (st M 71 1 1) 71 2 1)) := by
  refine s_any (by decide) (Nat.le_of_ble_eq_true rfl) ?_
  intro p e s m below meth c ls F hr hlocks w hl
  have F : CallFix p m c cX2_keep 2 s _ TB RX2 := F
  have hx := F.1
  have hb := F.2.1
  have hl : lv_has ls 2 [(0, .ref (B + 71)), (1, .ref (B + 44))] := hl
  refine lv_aload_n hx hb dX2_keep_0 rfl (lv_at hl 0 rfl) ?_
  refine f_2_0 F w (a := 71) rfl tb_81 dX2_keep_1 ?_
  refine lv_aload_n hx hb dX2_keep_4 rfl (lv_at hl 0 rfl) ?_
  refine f_2_1 F w (a := 71) rfl tb_82 dX2_keep_5 ?_
  refine r_val (v := 0) (h0) ?_
  refine g_aldW F w (a := 72) rfl (j := 0) (o := 73) rfl ⟨by decide, by decide⟩ (by decide) dX2_keep_8 ?_
  refine lv_aload_n hx hb dX2_keep_9 rfl (lv_at hl 1 rfl) ?_
  refine x_Vv F w (As := [.ref (B + 44)]) (rest := []) (a := 73) (by decide) (sh_9 rfl _ _) rfl (c_X9_copyFrom_118 (h1) (h2) (h3) (h4) (h5) (h6) (h7) (h8) (fun k hk => (h9 k hk)) (fun k hk => (h10 k hk)) (fun k hk => (h11 k hk)) (fun k hk => (h12 k hk))) gv_X2_25 hv_X9_copyFrom ⟨Nat.le_of_ble_eq_true rfl, Nat.le_of_ble_eq_true rfl⟩ hl.1 rfl (Nat.le_of_ble_eq_true rfl) ⟨Nat.zero_le _, Nat.zero_le _⟩ dX2_keep_10 (fun H locs w => ?_)
  refine lv_aload_n hx hb dX2_keep_13 rfl (lv_at hl 0 rfl) ?_
  refine lv_aload_n hx hb dX2_keep_14 rfl (lv_at hl 0 rfl) ?_
  refine f_2_1 F w (a := 71) rfl tb_82 dX2_keep_15 ?_
  refine r_val (v := 0) (h0) ?_
  refine lv_iconst (v := 1) hx hb dX2_keep_18 (by decide) ?_
  refine lv_iadd hx hb dX2_keep_19 ?_
  refine r_val (v := 1) (by decide) ?_
  refine lv_bipush (v := 12) hx hb dX2_keep_20 (by decide) ?_
  refine lv_icmp_ge (tgt := 34) hx hb dX2_keep_22 (by decide) (fun c1 => absurd c1 (by decide)) (fun _ => ?_)
  refine lv_aload_n hx hb dX2_keep_25 rfl (lv_at hl 0 rfl) ?_
  refine f_2_1 F w (a := 71) rfl tb_82 dX2_keep_26 ?_
  refine r_val (v := 0) (h0) ?_
  refine lv_iconst (v := 1) hx hb dX2_keep_29 (by decide) ?_
  refine lv_iadd hx hb dX2_keep_30 ?_
  refine r_val (v := 1) (by decide) ?_
  refine lv_goto (tgt := 35) hx hb dX2_keep_31 (by decide) ?_
  refine u_2_1 F w (a := 71) rfl tb_82 dX2_keep_35 (fun H locs w => ?_)
  refine lv_aload_n hx hb dX2_keep_38 rfl (lv_at hl 0 rfl) ?_
  refine lv_aload_n hx hb dX2_keep_39 rfl (lv_at hl 0 rfl) ?_
  refine f_2_2 F w (a := 71) rfl tb_83 dX2_keep_40 ?_
  refine r_val (v := 0) ((st_ne (by decide)).trans h13) ?_
  refine lv_iconst (v := 1) hx hb dX2_keep_43 (by decide) ?_
  refine lv_iadd hx hb dX2_keep_44 ?_
  refine r_val (v := 1) (by decide) ?_
  refine lv_bipush (v := 12) hx hb dX2_keep_45 (by decide) ?_
  refine g_min F hl.1 tb_273 tb_204 tb_205 tq_min (Nat.le_of_ble_eq_true rfl) (Nat.le_of_ble_eq_true rfl) (Nat.zero_le _) (Nat.zero_le _) (v := 1) (by decide) dX2_keep_47 ?_
  refine u_2_2 F w (a := 71) rfl tb_83 dX2_keep_50 (fun H locs w => ?_)
  exact e_v F w hr hlocks rfl dX2_keep_53
theorem tk_X2_keep : Cond.code yX2_keep cX2_keep 2 none ∈ TB := tbm (tc3 (List.mem_of_getElem? (i := 145) rfl)) rfl
theorem gc_X2_keep : GoodIn TB (cw yX2_keep cX2_keep 2 none) := goodIn_c2 tk_X2_keep
theorem tb_274 : Cond.methodLink "ToneLines" 298 yX2_keep ∈ TB := tbm (tc3 (List.mem_of_getElem? (i := 142) rfl)) rfl
theorem tb_275 : Cond.instanceMethod yX2_keep ∈ TB := tbm (tc3 (List.mem_of_getElem? (i := 143) rfl)) rfl
theorem tb_276 : Cond.selects "ToneLines$History" yX2_keep yX2_keep ∈ TB := tbm (tc3 (List.mem_of_getElem? (i := 144) rfl)) rfl
theorem gv_X11_298 : GoodIn TB (wsV RX11 298 RX2 yX2_keep (cw yX2_keep cX2_keep 2 none)) := goodIn_4 tb_274 tb_275 tb_276 tb_78 gc_X2_keep
theorem hv_X2_keep : yX2_keep.cls = RX2 ∧ yX2_keep.cls ≠ "java/lang/invoke/MethodHandle" ∧ yX2_keep.cls ≠ "java/lang/invoke/VarHandle" ∧ (parseMethodDescriptor yX2_keep.desc).map (fun d => d.parameters.length) = some 1 := by decide +kernel
theorem dX11_beginAct_11 : decode cX11_beginAct 11 = .ok (.aload_n 0, 1) := by decide +kernel
theorem dX11_beginAct_12 : decode cX11_beginAct 12 = .ok (.invokevirtual 97, 3) := by decide +kernel
theorem dX11_beginAct_15 : decode cX11_beginAct 15 = .ok (.return_, 1) := by decide +kernel
set_option maxRecDepth 4000 in
theorem c_X11_beginAct_120 {l : Launch} {D : va_G} {B : Nat} {cy : Nat → ClassId} {M : Mem} (h0 : M.1 71 1 = 0) (h1 : M.1 44 1 = 0) (h2 : M.1 73 1 = 0) (h3 : M.1 44 2 = 0) (h4 : M.1 73 2 = 0) (h5 : M.1 44 3 = 0) (h6 : M.1 73 3 = 0) (h7 : M.1 44 0 = 0) (h8 : M.1 73 0 = 0) (h9 : ∀ k, k < 12 → M.1 45 k = 0) (h10 : ∀ k, k < 12 → M.1 74 k = 0) (h11 : ∀ k, k < 12 → M.1 46 k = 0) (h12 : ∀ k, k < 12 → M.1 75 k = 0) (h13 : M.1 71 2 = 0) (h14 : M.1 22 7 = 0) (h15 : M.1 109 0 = 0) (h16 : M.1 135 0 = 0) : Cv l D B cy yX11_beginAct cX11_beginAct 1 3 82 [.ref (B + 0)] M (fun M1 => M1 = (st (st M 71 1 1) 71 2 1)) := by
  refine s_any (by decide) (Nat.le_of_ble_eq_true rfl) ?_
  intro p e s m below meth c ls F hr hlocks w hl
  have F : CallFix p m c cX11_beginAct 1 s _ TB RX11 := F
  have hx := F.1
  have hb := F.2.1
  have hl : lv_has ls 1 [(0, .ref (B + 0))] := hl
  refine lv_aload_n hx hb dX11_beginAct_0 rfl (lv_at hl 0 rfl) ?_
  refine f_11_5 F w (a := 0) rfl tb_86 dX11_beginAct_1 ?_
  refine lv_aload_n hx hb dX11_beginAct_4 rfl (lv_at hl 0 rfl) ?_
  refine f_11_4 F w (a := 0) rfl tb_75 dX11_beginAct_5 ?_
  refine x_Vv F w (As := [.ref (B + 44)]) (rest := []) (a := 71) (by decide) (sh_2 rfl _ _) rfl (c_X2_keep_119 (h0) (h1) (h2) (h3) (h4) (h5) (h6) (h7) (h8) (fun k hk => (h9 k hk)) (fun k hk => (h10 k hk)) (fun k hk => (h11 k hk)) (fun k hk => (h12 k hk)) (h13)) gv_X11_298 hv_X2_keep ⟨Nat.le_of_ble_eq_true rfl, Nat.le_of_ble_eq_true rfl⟩ hl.1 rfl (Nat.le_of_ble_eq_true rfl) ⟨Nat.zero_le _, Nat.zero_le _⟩ dX11_beginAct_8 (fun H locs w => ?_)
  refine lv_aload_n hx hb dX11_beginAct_11 rfl (lv_at hl 0 rfl) ?_
  refine x_Vv F w (As := []) (rest := []) (a := 0) (by decide) (sh_11 rfl _ _) rfl (c_X11_outdate_88 ((st_ne (by decide)).trans ((st_ne (by decide)).trans h14)) ((st_ne (by decide)).trans ((st_ne (by decide)).trans h15)) ((st_ne (by decide)).trans ((st_ne (by decide)).trans h16))) gv_X11_97 hv_X11_outdate ⟨Nat.le_of_ble_eq_true rfl, Nat.le_of_ble_eq_true rfl⟩ hl.1 rfl (Nat.le_of_ble_eq_true rfl) ⟨Nat.zero_le _, Nat.zero_le _⟩ dX11_beginAct_12 (fun H locs w => ?_)
  exact e_v F w hr hlocks rfl dX11_beginAct_15
theorem tk_X11_beginAct : Cond.code yX11_beginAct cX11_beginAct 1 none ∈ TB := tbm (tc3 (List.mem_of_getElem? (i := 141) rfl)) rfl
theorem gc_X11_beginAct : GoodIn TB (cw yX11_beginAct cX11_beginAct 1 none) := goodIn_c2 tk_X11_beginAct
theorem tb_277 : Cond.methodLink "ToneLines" 123 yX11_beginAct ∈ TB := tbm (tc3 (List.mem_of_getElem? (i := 138) rfl)) rfl
theorem tb_278 : Cond.instanceMethod yX11_beginAct ∈ TB := tbm (tc3 (List.mem_of_getElem? (i := 140) rfl)) rfl
theorem tb_279 : Cond.selects "ToneLines" yX11_beginAct yX11_beginAct ∈ TB := tbp (List.mem_of_getElem? (i := 14) rfl) rfl
theorem gv_X11_123 : GoodIn TB (wsV RX11 123 RX11 yX11_beginAct (cw yX11_beginAct cX11_beginAct 1 none)) := goodIn_4 tb_277 tb_278 tb_279 tb_145 gc_X11_beginAct
theorem hv_X11_beginAct : yX11_beginAct.cls = RX11 ∧ yX11_beginAct.cls ≠ "java/lang/invoke/MethodHandle" ∧ yX11_beginAct.cls ≠ "java/lang/invoke/VarHandle" ∧ (parseMethodDescriptor yX11_beginAct.desc).map (fun d => d.parameters.length) = some 0 := by decide +kernel
theorem dX11_tone_40 : decode cX11_tone 40 = .ok (.aload_n 0, 1) := by decide +kernel
theorem dX11_tone_41 : decode cX11_tone 41 = .ok (.getfield 43, 3) := by decide +kernel
theorem dX11_tone_44 : decode cX11_tone 44 = .ok (.iload_n 1, 1) := by decide +kernel
theorem dX11_tone_45 : decode cX11_tone 45 = .ok (.iload_n 2, 1) := by decide +kernel
theorem dX11_tone_46 : decode cX11_tone 46 = .ok (.invokevirtual 137, 3) := by decide +kernel
theorem dX9_insertTone_0 : decode cX9_insertTone 0 = .ok (.iload_n 1, 1) := by decide +kernel
theorem dX9_insertTone_1 : decode cX9_insertTone 1 = .ok (.ifCond .lt 20, 3) := by decide +kernel
theorem dX9_insertTone_4 : decode cX9_insertTone 4 = .ok (.iload_n 1, 1) := by decide +kernel
theorem dX9_insertTone_5 : decode cX9_insertTone 5 = .ok (.aload_n 0, 1) := by decide +kernel
theorem dX9_insertTone_6 : decode cX9_insertTone 6 = .ok (.getfield 9, 3) := by decide +kernel
theorem dX9_insertTone_9 : decode cX9_insertTone 9 = .ok (.if_icmp .gt 12, 3) := by decide +kernel
theorem dX9_insertTone_12 : decode cX9_insertTone 12 = .ok (.aload_n 0, 1) := by decide +kernel
theorem dX9_insertTone_13 : decode cX9_insertTone 13 = .ok (.getfield 9, 3) := by decide +kernel
theorem dX9_insertTone_16 : decode cX9_insertTone 16 = .ok (.bipush 12, 2) := by decide +kernel
theorem dX9_insertTone_18 : decode cX9_insertTone 18 = .ok (.if_icmp .lt 4, 3) := by decide +kernel
theorem dX9_insertTone_22 : decode cX9_insertTone 22 = .ok (.aload_n 0, 1) := by decide +kernel
theorem dX9_insertTone_23 : decode cX9_insertTone 23 = .ok (.getfield 9, 3) := by decide +kernel
theorem dX9_insertTone_26 : decode cX9_insertTone 26 = .ok (.istore_n 3, 1) := by decide +kernel
theorem dX9_insertTone_27 : decode cX9_insertTone 27 = .ok (.iload_n 3, 1) := by decide +kernel
theorem dX9_insertTone_28 : decode cX9_insertTone 28 = .ok (.iload_n 1, 1) := by decide +kernel
theorem dX9_insertTone_29 : decode cX9_insertTone 29 = .ok (.if_icmp .le 37, 3) := by decide +kernel
theorem dX9_insertTone_66 : decode cX9_insertTone 66 = .ok (.aload_n 0, 1) := by decide +kernel
theorem dX9_insertTone_67 : decode cX9_insertTone 67 = .ok (.getfield 24, 3) := by decide +kernel
theorem dX9_insertTone_70 : decode cX9_insertTone 70 = .ok (.iload_n 1, 1) := by decide +kernel
theorem dX9_insertTone_71 : decode cX9_insertTone 71 = .ok (.iload_n 2, 1) := by decide +kernel
theorem dX9_insertTone_72 : decode cX9_insertTone 72 = .ok (.iastore, 1) := by decide +kernel
theorem dX9_insertTone_73 : decode cX9_insertTone 73 = .ok (.aload_n 0, 1) := by decide +kernel
theorem dX9_insertTone_74 : decode cX9_insertTone 74 = .ok (.getfield 28, 3) := by decide +kernel
theorem dX9_insertTone_77 : decode cX9_insertTone 77 = .ok (.iload_n 1, 1) := by decide +kernel
theorem dX9_insertTone_78 : decode cX9_insertTone 78 = .ok (.iconst 0, 1) := by decide +kernel
theorem dX9_insertTone_79 : decode cX9_insertTone 79 = .ok (.iastore, 1) := by decide +kernel
theorem dX9_insertTone_80 : decode cX9_insertTone 80 = .ok (.aload_n 0, 1) := by decide +kernel
theorem dX9_insertTone_81 : decode cX9_insertTone 81 = .ok (.dup, 1) := by decide +kernel
theorem dX9_insertTone_82 : decode cX9_insertTone 82 = .ok (.getfield 9, 3) := by decide +kernel
theorem dX9_insertTone_85 : decode cX9_insertTone 85 = .ok (.iconst 1, 1) := by decide +kernel
theorem dX9_insertTone_86 : decode cX9_insertTone 86 = .ok (.iadd, 1) := by decide +kernel
theorem dX9_insertTone_87 : decode cX9_insertTone 87 = .ok (.putfield 9, 3) := by decide +kernel
theorem dX9_insertTone_90 : decode cX9_insertTone 90 = .ok (.return_, 1) := by decide +kernel
set_option maxRecDepth 4000 in
theorem c_X9_insertTone_121 {l : Launch} {D : va_G} {B : Nat} {cy : Nat → ClassId} {M : Mem} (h0 : M.1 44 0 = 0) (h1 : M.1 45 0 = 0) (h2 : M.1 46 0 = 0) : Cv l D B cy yX9_insertTone cX9_insertTone 4 0 0 [.ref (B + 44), .int 0, .int 0] M (fun M1 => M1 = (st M 44 0 1)) := by
  refine s_any (by decide) (Nat.le_of_ble_eq_true rfl) ?_
  intro p e s m below meth c ls F hr hlocks w hl
  have F : CallFix p m c cX9_insertTone 4 s _ TB RX9 := F
  have hx := F.1
  have hb := F.2.1
  have hl : lv_has ls 4 [(0, .ref (B + 44)), (1, .int 0), (2, .int 0)] := hl
  refine lv_iload_n hx hb dX9_insertTone_0 rfl (lv_at hl 1 rfl) ?_
  refine lv_if_lt (tgt := 21) hx hb dX9_insertTone_1 (by decide) (fun c1 => absurd c1 (by decide)) (fun _ => ?_)
  refine lv_iload_n hx hb dX9_insertTone_4 rfl (lv_at hl 1 rfl) ?_
  refine lv_aload_n hx hb dX9_insertTone_5 rfl (lv_at hl 0 rfl) ?_
  refine f_9_0 F w (a := 44) rfl tb_63 dX9_insertTone_6 ?_
  refine r_val (v := 0) (h0) ?_
  refine lv_icmp_gt (tgt := 21) hx hb dX9_insertTone_9 (by decide) (fun c1 => absurd c1 (by decide)) (fun _ => ?_)
  refine lv_aload_n hx hb dX9_insertTone_12 rfl (lv_at hl 0 rfl) ?_
  refine f_9_0 F w (a := 44) rfl tb_63 dX9_insertTone_13 ?_
  refine r_val (v := 0) (h0) ?_
  refine lv_bipush (v := 12) hx hb dX9_insertTone_16 (by decide) ?_
  refine lv_icmp_lt (tgt := 22) hx hb dX9_insertTone_18 (by decide) (fun _ => ?_) (fun c1 => absurd c1 (by decide))
  refine lv_aload_n hx hb dX9_insertTone_22 rfl (lv_at hl 0 rfl) ?_
  refine f_9_0 F w (a := 44) rfl tb_63 dX9_insertTone_23 ?_
  refine r_val (v := 0) (h0) ?_
  refine lv_istore_n (lv' := [(3, .int 0), (0, .ref (B + 44)), (1, .int 0), (2, .int 0)]) hx hb dX9_insertTone_26 rfl hl (by decide) rfl (fun ls hl => ?_)
  refine lv_iload_n hx hb dX9_insertTone_27 rfl (lv_at hl 0 rfl) ?_
  refine lv_iload_n hx hb dX9_insertTone_28 rfl (lv_at hl 2 rfl) ?_
  refine lv_icmp_le (tgt := 66) hx hb dX9_insertTone_29 (by decide) (fun _ => ?_) (fun c1 => absurd c1 (by decide))
  refine lv_aload_n hx hb dX9_insertTone_66 rfl (lv_at hl 1 rfl) ?_
  refine f_9_4 F w (a := 44) rfl tb_67 dX9_insertTone_67 ?_
  refine lv_iload_n hx hb dX9_insertTone_70 rfl (lv_at hl 2 rfl) ?_
  refine lv_iload_n hx hb dX9_insertTone_71 rfl (lv_at hl 3 rfl) ?_
  refine g_iast F w (a := 45) rfl (j := 0) ⟨by decide, by decide⟩ (by decide) dX9_insertTone_72 (fun H locs w => ?_)
  rw [st_same (h1)] at w
  refine lv_aload_n hx hb dX9_insertTone_73 rfl (lv_at hl 1 rfl) ?_
  refine f_9_5 F w (a := 44) rfl tb_68 dX9_insertTone_74 ?_
  refine lv_iload_n hx hb dX9_insertTone_77 rfl (lv_at hl 2 rfl) ?_
  refine lv_iconst (v := 0) hx hb dX9_insertTone_78 (by decide) ?_
  refine g_iast F w (a := 46) rfl (j := 0) ⟨by decide, by decide⟩ (by decide) dX9_insertTone_79 (fun H locs w => ?_)
  rw [st_same (h2)] at w
  refine lv_aload_n hx hb dX9_insertTone_80 rfl (lv_at hl 1 rfl) ?_
  refine lv_dup hx hb dX9_insertTone_81 rfl ?_
  refine f_9_0 F w (a := 44) rfl tb_63 dX9_insertTone_82 ?_
  refine r_val (v := 0) (h0) ?_
  refine lv_iconst (v := 1) hx hb dX9_insertTone_85 (by decide) ?_
  refine lv_iadd hx hb dX9_insertTone_86 ?_
  refine r_val (v := 1) (by decide) ?_
  refine u_9_0 F w (a := 44) rfl tb_63 dX9_insertTone_87 (fun H locs w => ?_)
  exact e_v F w hr hlocks rfl dX9_insertTone_90
theorem tk_X9_insertTone : Cond.code yX9_insertTone cX9_insertTone 4 none ∈ TB := tbm (tc2 (List.mem_of_getElem? (i := 214) rfl)) rfl
theorem gc_X9_insertTone : GoodIn TB (cw yX9_insertTone cX9_insertTone 4 none) := goodIn_c2 tk_X9_insertTone
theorem tb_280 : Cond.methodLink "ToneLines" 137 yX9_insertTone ∈ TB := tbm (tc3 (List.mem_of_getElem? (i := 163) rfl)) rfl
theorem tb_281 : Cond.instanceMethod yX9_insertTone ∈ TB := tbm (tc2 (List.mem_of_getElem? (i := 212) rfl)) rfl
theorem tb_282 : Cond.selects "ToneLines$Word" yX9_insertTone yX9_insertTone ∈ TB := tbm (tc2 (List.mem_of_getElem? (i := 213) rfl)) rfl
theorem gv_X11_137 : GoodIn TB (wsV RX11 137 RX9 yX9_insertTone (cw yX9_insertTone cX9_insertTone 4 none)) := goodIn_4 tb_280 tb_281 tb_282 tb_61 gc_X9_insertTone
theorem hv_X9_insertTone : yX9_insertTone.cls = RX9 ∧ yX9_insertTone.cls ≠ "java/lang/invoke/MethodHandle" ∧ yX9_insertTone.cls ≠ "java/lang/invoke/VarHandle" ∧ (parseMethodDescriptor yX9_insertTone.desc).map (fun d => d.parameters.length) = some 2 := by decide +kernel
theorem dX11_tone_49 : decode cX11_tone 49 = .ok (.iconst 1, 1) := by decide +kernel
theorem dX11_tone_50 : decode cX11_tone 50 = .ok (.ireturn, 1) := by decide +kernel
set_option maxRecDepth 4000 in
theorem c_X11_tone_122 {l : Launch} {D : va_G} {B : Nat} {cy : Nat → ClassId} {M : Mem} (h0 : M.1 44 0 = 0) (h1 : M.1 71 1 = 0) (h2 : M.1 44 1 = 0) (h3 : M.1 73 1 = 0) (h4 : M.1 44 2 = 0) (h5 : M.1 73 2 = 0) (h6 : M.1 44 3 = 0) (h7 : M.1 73 3 = 0) (h8 : M.1 73 0 = 0) (h9 : ∀ k, k < 12 → M.1 45 k = 0) (h10 : ∀ k, k < 12 → M.1 74 k = 0) (h11 : ∀ k, k < 12 → M.1 46 k = 0) (h12 : ∀ k, k < 12 → M.1 75 k = 0) (h13 : M.1 71 2 = 0) (h14 : M.1 22 7 = 0) (h15 : M.1 109 0 = 0) (h16 : M.1 135 0 = 0) (h17 : M.1 45 0 = 0) (h18 : M.1 46 0 = 0) : Ci l D B cy yX11_tone cX11_tone 3 (some .boolean) 4 102 [.ref (B + 0), .int 0, .int 0] M (fun r M1 => r = 1 ∧ M1 = (st (st (st M 71 1 1) 71 2 1) 44 0 1)) := by
  refine s_any (by decide) (Nat.le_of_ble_eq_true rfl) ?_
  intro p e s m below meth c ls F hr hlocks w hl
  have F : CallFix p m c cX11_tone 3 s _ TB RX11 := F
  have hx := F.1
  have hb := F.2.1
  have hl : lv_has ls 3 [(0, .ref (B + 0)), (1, .int 0), (2, .int 0)] := hl
  refine lv_iload_n hx hb dX11_tone_0 rfl (lv_at hl 1 rfl) ?_
  refine lv_if_lt (tgt := 34) hx hb dX11_tone_1 (by decide) (fun c1 => absurd c1 (by decide)) (fun _ => ?_)
  refine lv_iload_n hx hb dX11_tone_4 rfl (lv_at hl 1 rfl) ?_
  refine lv_aload_n hx hb dX11_tone_5 rfl (lv_at hl 0 rfl) ?_
  refine f_11_4 F w (a := 0) rfl tb_75 dX11_tone_6 ?_
  refine f_9_0 F w (a := 44) rfl tb_260 dX11_tone_9 ?_
  refine r_val (v := 0) (h0) ?_
  refine lv_icmp_gt (tgt := 34) hx hb dX11_tone_12 (by decide) (fun c1 => absurd c1 (by decide)) (fun _ => ?_)
  refine lv_aload_n hx hb dX11_tone_15 rfl (lv_at hl 0 rfl) ?_
  refine f_11_4 F w (a := 0) rfl tb_75 dX11_tone_16 ?_
  refine f_9_0 F w (a := 44) rfl tb_260 dX11_tone_19 ?_
  refine r_val (v := 0) (h0) ?_
  refine lv_bipush (v := 12) hx hb dX11_tone_22 (by decide) ?_
  refine lv_icmp_ge (tgt := 34) hx hb dX11_tone_24 (by decide) (fun c1 => absurd c1 (by decide)) (fun _ => ?_)
  refine lv_iload_n hx hb dX11_tone_27 rfl (lv_at hl 2 rfl) ?_
  refine x_Si F w (As := [.int 0]) (rest := []) (c_X11_isKind_116) gs_X11_133 hs_X11_isKind ⟨Nat.le_of_ble_eq_true rfl, Nat.le_of_ble_eq_true rfl⟩ hl.1 rfl (Nat.le_of_ble_eq_true rfl) ⟨Nat.zero_le _, Nat.zero_le _⟩ dX11_tone_28 (fun H locs w => ?_)
  refine lv_if_ne (tgt := 36) hx hb dX11_tone_31 (by decide) (fun _ => ?_) (fun c1 => absurd c1 (by decide))
  refine lv_aload_n hx hb dX11_tone_36 rfl (lv_at hl 0 rfl) ?_
  refine x_Vv F w (As := []) (rest := []) (a := 0) (by decide) (sh_11 rfl _ _) rfl (c_X11_beginAct_120 (h1) (h2) (h3) (h4) (h5) (h6) (h7) (h0) (h8) (fun k hk => (h9 k hk)) (fun k hk => (h10 k hk)) (fun k hk => (h11 k hk)) (fun k hk => (h12 k hk)) (h13) (h14) (h15) (h16)) gv_X11_123 hv_X11_beginAct ⟨Nat.le_of_ble_eq_true rfl, Nat.le_of_ble_eq_true rfl⟩ hl.1 rfl (Nat.le_of_ble_eq_true rfl) ⟨Nat.zero_le _, Nat.zero_le _⟩ dX11_tone_37 (fun H locs w => ?_)
  refine lv_aload_n hx hb dX11_tone_40 rfl (lv_at hl 0 rfl) ?_
  refine f_11_4 F w (a := 0) rfl tb_75 dX11_tone_41 ?_
  refine lv_iload_n hx hb dX11_tone_44 rfl (lv_at hl 1 rfl) ?_
  refine lv_iload_n hx hb dX11_tone_45 rfl (lv_at hl 2 rfl) ?_
  refine x_Vv F w (As := [.int 0, .int 0]) (rest := []) (a := 44) (by decide) (sh_9 rfl _ _) rfl (c_X9_insertTone_121 ((st_ne (by decide)).trans ((st_ne (by decide)).trans h0)) ((st_ne (by decide)).trans ((st_ne (by decide)).trans h17)) ((st_ne (by decide)).trans ((st_ne (by decide)).trans h18))) gv_X11_137 hv_X9_insertTone ⟨Nat.le_of_ble_eq_true rfl, Nat.le_of_ble_eq_true rfl⟩ hl.1 rfl (Nat.le_of_ble_eq_true rfl) ⟨Nat.zero_le _, Nat.zero_le _⟩ dX11_tone_46 (fun H locs w => ?_)
  refine lv_iconst (v := 1) hx hb dX11_tone_49 (by decide) ?_
  exact e_z F w hr hlocks (by decide) ⟨rfl, rfl⟩ dX11_tone_50
set_option maxRecDepth 4000 in
theorem c_X12_in_123 {l : Launch} {D : va_G} {B : Nat} {cy : Nat → ClassId} {M : Mem} : Ci l D B cy yX12_in cX12_in 3 (some .boolean) 0 0 [.int 0, .int 0, .int 2] M (fun r M1 => r = 1 ∧ M1 = M) := by
  refine s_any (by decide) (Nat.le_of_ble_eq_true rfl) ?_
  intro p e s m below meth c ls F hr hlocks w hl
  have F : CallFix p m c cX12_in 3 s _ TB RX12 := F
  have hx := F.1
  have hb := F.2.1
  have hl : lv_has ls 3 [(0, .int 0), (1, .int 0), (2, .int 2)] := hl
  refine lv_iload_n hx hb dX12_in_0 rfl (lv_at hl 0 rfl) ?_
  refine lv_iload_n hx hb dX12_in_1 rfl (lv_at hl 1 rfl) ?_
  refine lv_icmp_lt (tgt := 14) hx hb dX12_in_2 (by decide) (fun c1 => absurd c1 (by decide)) (fun _ => ?_)
  refine lv_iload_n hx hb dX12_in_5 rfl (lv_at hl 0 rfl) ?_
  refine lv_iload_n hx hb dX12_in_6 rfl (lv_at hl 2 rfl) ?_
  refine lv_icmp_gt (tgt := 14) hx hb dX12_in_7 (by decide) (fun c1 => absurd c1 (by decide)) (fun _ => ?_)
  refine lv_iconst (v := 1) hx hb dX12_in_10 (by decide) ?_
  refine lv_goto (tgt := 15) hx hb dX12_in_11 (by decide) ?_
  exact e_z F w hr hlocks (by decide) ⟨rfl, rfl⟩ dX12_in_15
theorem dX12_tone_23 : decode cX12_tone 23 = .ok (.aload_n 0, 1) := by decide +kernel
theorem dX12_tone_24 : decode cX12_tone 24 = .ok (.getfield 13, 3) := by decide +kernel
theorem dX12_tone_27 : decode cX12_tone 27 = .ok (.iconst 0, 1) := by decide +kernel
theorem dX12_tone_28 : decode cX12_tone 28 = .ok (.iaload, 1) := by decide +kernel
theorem dX12_tone_29 : decode cX12_tone 29 = .ok (.bipush 12, 2) := by decide +kernel
theorem dX12_tone_31 : decode cX12_tone 31 = .ok (.if_icmp .ne 5, 3) := by decide +kernel
theorem dX12_tone_36 : decode cX12_tone 36 = .ok (.aload_n 0, 1) := by decide +kernel
theorem dX12_tone_37 : decode cX12_tone 37 = .ok (.invokevirtual 242, 3) := by decide +kernel
theorem dX12_keeps_0 : decode cX12_keeps 0 = .ok (.aload_n 0, 1) := by decide +kernel
theorem dX12_keeps_1 : decode cX12_keeps 1 = .ok (.getfield 201, 3) := by decide +kernel
theorem tb_283 : Cond.fieldLink "ToneLinesModel" 201 "ToneLinesModel" "acts" "I" ∈ TB := tbm (tc5 (List.mem_of_getElem? (i := 76) rfl)) rfl
theorem dX12_keeps_4 : decode cX12_keeps 4 = .ok (.bipush 12, 2) := by decide +kernel
theorem dX12_keeps_6 : decode cX12_keeps 6 = .ok (.if_icmp .ne 44, 3) := by decide +kernel
theorem dX12_keeps_50 : decode cX12_keeps 50 = .ok (.iconst 0, 1) := by decide +kernel
theorem dX12_keeps_51 : decode cX12_keeps 51 = .ok (.istore_n 1, 1) := by decide +kernel
theorem dX12_keeps_52 : decode cX12_keeps 52 = .ok (.iload_n 1, 1) := by decide +kernel
theorem dX12_keeps_53 : decode cX12_keeps 53 = .ok (.bipush 28, 2) := by decide +kernel
theorem dX12_keeps_55 : decode cX12_keeps 55 = .ok (.if_icmp .ge 29, 3) := by decide +kernel
theorem dX12_keeps_58 : decode cX12_keeps 58 = .ok (.aload_n 0, 1) := by decide +kernel
theorem dX12_keeps_59 : decode cX12_keeps 59 = .ok (.getfield 39, 3) := by decide +kernel
theorem dX12_keeps_62 : decode cX12_keeps 62 = .ok (.bipush 28, 2) := by decide +kernel
theorem dX12_keeps_64 : decode cX12_keeps 64 = .ok (.aload_n 0, 1) := by decide +kernel
theorem dX12_keeps_65 : decode cX12_keeps 65 = .ok (.getfield 201, 3) := by decide +kernel
theorem dX12_keeps_68 : decode cX12_keeps 68 = .ok (.imul, 1) := by decide +kernel
theorem dX12_keeps_69 : decode cX12_keeps 69 = .ok (.iload_n 1, 1) := by decide +kernel
theorem dX12_keeps_70 : decode cX12_keeps 70 = .ok (.iadd, 1) := by decide +kernel
theorem dX12_keeps_71 : decode cX12_keeps 71 = .ok (.aload_n 0, 1) := by decide +kernel
theorem dX12_keeps_72 : decode cX12_keeps 72 = .ok (.getfield 13, 3) := by decide +kernel
theorem dX12_keeps_75 : decode cX12_keeps 75 = .ok (.iload_n 1, 1) := by decide +kernel
theorem dX12_keeps_76 : decode cX12_keeps 76 = .ok (.iaload, 1) := by decide +kernel
theorem dX12_keeps_77 : decode cX12_keeps 77 = .ok (.iastore, 1) := by decide +kernel
theorem dX12_keeps_78 : decode cX12_keeps 78 = .ok (.iinc 1 1, 3) := by decide +kernel
theorem dX12_keeps_81 : decode cX12_keeps 81 = .ok (.goto (-29), 3) := by decide +kernel
theorem dX12_keeps_84 : decode cX12_keeps 84 = .ok (.aload_n 0, 1) := by decide +kernel
theorem dX12_keeps_85 : decode cX12_keeps 85 = .ok (.dup, 1) := by decide +kernel
theorem dX12_keeps_86 : decode cX12_keeps 86 = .ok (.getfield 201, 3) := by decide +kernel
theorem dX12_keeps_89 : decode cX12_keeps 89 = .ok (.iconst 1, 1) := by decide +kernel
theorem dX12_keeps_90 : decode cX12_keeps 90 = .ok (.iadd, 1) := by decide +kernel
theorem dX12_keeps_91 : decode cX12_keeps 91 = .ok (.putfield 201, 3) := by decide +kernel
theorem dX12_keeps_94 : decode cX12_keeps 94 = .ok (.return_, 1) := by decide +kernel
set_option maxRecDepth 4000 in
theorem c_X12_keeps_124 {l : Launch} {D : va_G} {B : Nat} {cy : Nat → ClassId} {M : Mem} (h0 : M.1 146 20 = 0) (h1 : M.1 147 0 = 0) (h2 : M.1 155 0 = 0) (h3 : M.1 147 1 = 0) (h4 : M.1 155 1 = 0) (h5 : M.1 147 2 = 0) (h6 : M.1 155 2 = 0) (h7 : M.1 147 3 = 0) (h8 : M.1 155 3 = 0) (h9 : M.1 147 4 = 0) (h10 : M.1 155 4 = 0) (h11 : M.1 147 5 = 0) (h12 : M.1 155 5 = 0) (h13 : M.1 147 6 = 0) (h14 : M.1 155 6 = 0) (h15 : M.1 147 7 = 0) (h16 : M.1 155 7 = 0) (h17 : M.1 147 8 = 0) (h18 : M.1 155 8 = 0) (h19 : M.1 147 9 = 0) (h20 : M.1 155 9 = 0) (h21 : M.1 147 10 = 0) (h22 : M.1 155 10 = 0) (h23 : M.1 147 11 = 0) (h24 : M.1 155 11 = 0) (h25 : M.1 147 12 = 0) (h26 : M.1 155 12 = 0) (h27 : M.1 147 13 = 0) (h28 : M.1 155 13 = 0) (h29 : M.1 147 14 = 0) (h30 : M.1 155 14 = 0) (h31 : M.1 147 15 = 0) (h32 : M.1 155 15 = 0) (h33 : M.1 147 16 = 0) (h34 : M.1 155 16 = 0) (h35 : M.1 147 17 = 0) (h36 : M.1 155 17 = 0) (h37 : M.1 147 18 = 0) (h38 : M.1 155 18 = 0) (h39 : M.1 147 19 = 0) (h40 : M.1 155 19 = 0) (h41 : M.1 147 20 = 0) (h42 : M.1 155 20 = 0) (h43 : M.1 147 21 = 0) (h44 : M.1 155 21 = 0) (h45 : M.1 147 22 = 0) (h46 : M.1 155 22 = 0) (h47 : M.1 147 23 = 0) (h48 : M.1 155 23 = 0) (h49 : M.1 147 24 = 0) (h50 : M.1 155 24 = 0) (h51 : M.1 147 25 = 0) (h52 : M.1 155 25 = 0) (h53 : M.1 147 26 = 0) (h54 : M.1 155 26 = 0) (h55 : M.1 147 27 = 0) (h56 : M.1 155 27 = 0) : Cv l D B cy yX12_keeps cX12_keeps 2 0 0 [.ref (B + 146)] M (fun M1 => M1 = (st M 146 20 1)) := by
  refine s_any (by decide) (Nat.le_of_ble_eq_true rfl) ?_
  intro p e s m below meth c ls F hr hlocks w hl
  have F : CallFix p m c cX12_keeps 2 s _ TB RX12 := F
  have hx := F.1
  have hb := F.2.1
  have hl : lv_has ls 2 [(0, .ref (B + 146))] := hl
  refine lv_aload_n hx hb dX12_keeps_0 rfl (lv_at hl 0 rfl) ?_
  refine f_12_20 F w (a := 146) rfl tb_283 dX12_keeps_1 ?_
  refine r_val (v := 0) (h0) ?_
  refine lv_bipush (v := 12) hx hb dX12_keeps_4 (by decide) ?_
  refine lv_icmp_ne (tgt := 50) hx hb dX12_keeps_6 (by decide) (fun _ => ?_) (fun c1 => absurd c1 (by decide))
  refine lv_iconst (v := 0) hx hb dX12_keeps_50 (by decide) ?_
  refine lv_istore_n (lv' := [(1, .int 0), (0, .ref (B + 146))]) hx hb dX12_keeps_51 rfl hl (by decide) rfl (fun ls hl => ?_)
  refine lv_iload_n hx hb dX12_keeps_52 rfl (lv_at hl 0 rfl) ?_
  refine lv_bipush (v := 28) hx hb dX12_keeps_53 (by decide) ?_
  refine lv_icmp_ge (tgt := 84) hx hb dX12_keeps_55 (by decide) (fun c1 => absurd c1 (by decide)) (fun _ => ?_)
  refine lv_aload_n hx hb dX12_keeps_58 rfl (lv_at hl 1 rfl) ?_
  refine f_12_19 F w (a := 146) rfl tb_134 dX12_keeps_59 ?_
  refine lv_bipush (v := 28) hx hb dX12_keeps_62 (by decide) ?_
  refine lv_aload_n hx hb dX12_keeps_64 rfl (lv_at hl 1 rfl) ?_
  refine f_12_20 F w (a := 146) rfl tb_283 dX12_keeps_65 ?_
  refine r_val (v := 0) (h0) ?_
  refine lv_imul hx hb dX12_keeps_68 ?_
  refine r_val (v := 0) (by decide) ?_
  refine lv_iload_n hx hb dX12_keeps_69 rfl (lv_at hl 0 rfl) ?_
  refine lv_iadd hx hb dX12_keeps_70 ?_
  refine r_val (v := 0) (by decide) ?_
  refine lv_aload_n hx hb dX12_keeps_71 rfl (lv_at hl 1 rfl) ?_
  refine f_12_1 F w (a := 146) rfl tb_126 dX12_keeps_72 ?_
  refine lv_iload_n hx hb dX12_keeps_75 rfl (lv_at hl 0 rfl) ?_
  refine g_iald F w (a := 147) rfl (j := 0) ⟨by decide, by decide⟩ (by decide) dX12_keeps_76 ?_
  refine r_val (v := 0) (h1) ?_
  refine g_iast F w (a := 155) rfl (j := 0) ⟨by decide, by decide⟩ (by decide) dX12_keeps_77 (fun H locs w => ?_)
  rw [st_same (h2)] at w
  refine lv_iinc (v := 1) (lv' := [(1, .int 1), (0, .ref (B + 146))]) hx hb dX12_keeps_78 hl (k := 0) rfl (by decide) (by decide) rfl (fun ls hl => ?_)
  refine lv_goto (tgt := 52) hx hb dX12_keeps_81 (by decide) ?_
  refine lv_iload_n hx hb dX12_keeps_52 rfl (lv_at hl 0 rfl) ?_
  refine lv_bipush (v := 28) hx hb dX12_keeps_53 (by decide) ?_
  refine lv_icmp_ge (tgt := 84) hx hb dX12_keeps_55 (by decide) (fun c1 => absurd c1 (by decide)) (fun _ => ?_)
  refine lv_aload_n hx hb dX12_keeps_58 rfl (lv_at hl 1 rfl) ?_
  refine f_12_19 F w (a := 146) rfl tb_134 dX12_keeps_59 ?_
  refine lv_bipush (v := 28) hx hb dX12_keeps_62 (by decide) ?_
  refine lv_aload_n hx hb dX12_keeps_64 rfl (lv_at hl 1 rfl) ?_
  refine f_12_20 F w (a := 146) rfl tb_283 dX12_keeps_65 ?_
  refine r_val (v := 0) (h0) ?_
  refine lv_imul hx hb dX12_keeps_68 ?_
  refine r_val (v := 0) (by decide) ?_
  refine lv_iload_n hx hb dX12_keeps_69 rfl (lv_at hl 0 rfl) ?_
  refine lv_iadd hx hb dX12_keeps_70 ?_
  refine r_val (v := 1) (by decide) ?_
  refine lv_aload_n hx hb dX12_keeps_71 rfl (lv_at hl 1 rfl) ?_
  refine f_12_1 F w (a := 146) rfl tb_126 dX12_keeps_72 ?_
  refine lv_iload_n hx hb dX12_keeps_75 rfl (lv_at hl 0 rfl) ?_
  refine g_iald F w (a := 147) rfl (j := 1) ⟨by decide, by decide⟩ (by decide) dX12_keeps_76 ?_
  refine r_val (v := 0) (h3) ?_
  refine g_iast F w (a := 155) rfl (j := 1) ⟨by decide, by decide⟩ (by decide) dX12_keeps_77 (fun H locs w => ?_)
  rw [st_same (h4)] at w
  refine lv_iinc (v := 2) (lv' := [(1, .int 2), (0, .ref (B + 146))]) hx hb dX12_keeps_78 hl (k := 0) rfl (by decide) (by decide) rfl (fun ls hl => ?_)
  refine lv_goto (tgt := 52) hx hb dX12_keeps_81 (by decide) ?_
  refine lv_iload_n hx hb dX12_keeps_52 rfl (lv_at hl 0 rfl) ?_
  refine lv_bipush (v := 28) hx hb dX12_keeps_53 (by decide) ?_
  refine lv_icmp_ge (tgt := 84) hx hb dX12_keeps_55 (by decide) (fun c1 => absurd c1 (by decide)) (fun _ => ?_)
  refine lv_aload_n hx hb dX12_keeps_58 rfl (lv_at hl 1 rfl) ?_
  refine f_12_19 F w (a := 146) rfl tb_134 dX12_keeps_59 ?_
  refine lv_bipush (v := 28) hx hb dX12_keeps_62 (by decide) ?_
  refine lv_aload_n hx hb dX12_keeps_64 rfl (lv_at hl 1 rfl) ?_
  refine f_12_20 F w (a := 146) rfl tb_283 dX12_keeps_65 ?_
  refine r_val (v := 0) (h0) ?_
  refine lv_imul hx hb dX12_keeps_68 ?_
  refine r_val (v := 0) (by decide) ?_
  refine lv_iload_n hx hb dX12_keeps_69 rfl (lv_at hl 0 rfl) ?_
  refine lv_iadd hx hb dX12_keeps_70 ?_
  refine r_val (v := 2) (by decide) ?_
  refine lv_aload_n hx hb dX12_keeps_71 rfl (lv_at hl 1 rfl) ?_
  refine f_12_1 F w (a := 146) rfl tb_126 dX12_keeps_72 ?_
  refine lv_iload_n hx hb dX12_keeps_75 rfl (lv_at hl 0 rfl) ?_
  refine g_iald F w (a := 147) rfl (j := 2) ⟨by decide, by decide⟩ (by decide) dX12_keeps_76 ?_
  refine r_val (v := 0) (h5) ?_
  refine g_iast F w (a := 155) rfl (j := 2) ⟨by decide, by decide⟩ (by decide) dX12_keeps_77 (fun H locs w => ?_)
  rw [st_same (h6)] at w
  refine lv_iinc (v := 3) (lv' := [(1, .int 3), (0, .ref (B + 146))]) hx hb dX12_keeps_78 hl (k := 0) rfl (by decide) (by decide) rfl (fun ls hl => ?_)
  refine lv_goto (tgt := 52) hx hb dX12_keeps_81 (by decide) ?_
  refine lv_iload_n hx hb dX12_keeps_52 rfl (lv_at hl 0 rfl) ?_
  refine lv_bipush (v := 28) hx hb dX12_keeps_53 (by decide) ?_
  refine lv_icmp_ge (tgt := 84) hx hb dX12_keeps_55 (by decide) (fun c1 => absurd c1 (by decide)) (fun _ => ?_)
  refine lv_aload_n hx hb dX12_keeps_58 rfl (lv_at hl 1 rfl) ?_
  refine f_12_19 F w (a := 146) rfl tb_134 dX12_keeps_59 ?_
  refine lv_bipush (v := 28) hx hb dX12_keeps_62 (by decide) ?_
  refine lv_aload_n hx hb dX12_keeps_64 rfl (lv_at hl 1 rfl) ?_
  refine f_12_20 F w (a := 146) rfl tb_283 dX12_keeps_65 ?_
  refine r_val (v := 0) (h0) ?_
  refine lv_imul hx hb dX12_keeps_68 ?_
  refine r_val (v := 0) (by decide) ?_
  refine lv_iload_n hx hb dX12_keeps_69 rfl (lv_at hl 0 rfl) ?_
  refine lv_iadd hx hb dX12_keeps_70 ?_
  refine r_val (v := 3) (by decide) ?_
  refine lv_aload_n hx hb dX12_keeps_71 rfl (lv_at hl 1 rfl) ?_
  refine f_12_1 F w (a := 146) rfl tb_126 dX12_keeps_72 ?_
  refine lv_iload_n hx hb dX12_keeps_75 rfl (lv_at hl 0 rfl) ?_
  refine g_iald F w (a := 147) rfl (j := 3) ⟨by decide, by decide⟩ (by decide) dX12_keeps_76 ?_
  refine r_val (v := 0) (h7) ?_
  refine g_iast F w (a := 155) rfl (j := 3) ⟨by decide, by decide⟩ (by decide) dX12_keeps_77 (fun H locs w => ?_)
  rw [st_same (h8)] at w
  refine lv_iinc (v := 4) (lv' := [(1, .int 4), (0, .ref (B + 146))]) hx hb dX12_keeps_78 hl (k := 0) rfl (by decide) (by decide) rfl (fun ls hl => ?_)
  refine lv_goto (tgt := 52) hx hb dX12_keeps_81 (by decide) ?_
  refine lv_iload_n hx hb dX12_keeps_52 rfl (lv_at hl 0 rfl) ?_
  refine lv_bipush (v := 28) hx hb dX12_keeps_53 (by decide) ?_
  refine lv_icmp_ge (tgt := 84) hx hb dX12_keeps_55 (by decide) (fun c1 => absurd c1 (by decide)) (fun _ => ?_)
  refine lv_aload_n hx hb dX12_keeps_58 rfl (lv_at hl 1 rfl) ?_
  refine f_12_19 F w (a := 146) rfl tb_134 dX12_keeps_59 ?_
  refine lv_bipush (v := 28) hx hb dX12_keeps_62 (by decide) ?_
  refine lv_aload_n hx hb dX12_keeps_64 rfl (lv_at hl 1 rfl) ?_
  refine f_12_20 F w (a := 146) rfl tb_283 dX12_keeps_65 ?_
  refine r_val (v := 0) (h0) ?_
  refine lv_imul hx hb dX12_keeps_68 ?_
  refine r_val (v := 0) (by decide) ?_
  refine lv_iload_n hx hb dX12_keeps_69 rfl (lv_at hl 0 rfl) ?_
  refine lv_iadd hx hb dX12_keeps_70 ?_
  refine r_val (v := 4) (by decide) ?_
  refine lv_aload_n hx hb dX12_keeps_71 rfl (lv_at hl 1 rfl) ?_
  refine f_12_1 F w (a := 146) rfl tb_126 dX12_keeps_72 ?_
  refine lv_iload_n hx hb dX12_keeps_75 rfl (lv_at hl 0 rfl) ?_
  refine g_iald F w (a := 147) rfl (j := 4) ⟨by decide, by decide⟩ (by decide) dX12_keeps_76 ?_
  refine r_val (v := 0) (h9) ?_
  refine g_iast F w (a := 155) rfl (j := 4) ⟨by decide, by decide⟩ (by decide) dX12_keeps_77 (fun H locs w => ?_)
  rw [st_same (h10)] at w
  refine lv_iinc (v := 5) (lv' := [(1, .int 5), (0, .ref (B + 146))]) hx hb dX12_keeps_78 hl (k := 0) rfl (by decide) (by decide) rfl (fun ls hl => ?_)
  refine lv_goto (tgt := 52) hx hb dX12_keeps_81 (by decide) ?_
  refine lv_iload_n hx hb dX12_keeps_52 rfl (lv_at hl 0 rfl) ?_
  refine lv_bipush (v := 28) hx hb dX12_keeps_53 (by decide) ?_
  refine lv_icmp_ge (tgt := 84) hx hb dX12_keeps_55 (by decide) (fun c1 => absurd c1 (by decide)) (fun _ => ?_)
  refine lv_aload_n hx hb dX12_keeps_58 rfl (lv_at hl 1 rfl) ?_
  refine f_12_19 F w (a := 146) rfl tb_134 dX12_keeps_59 ?_
  refine lv_bipush (v := 28) hx hb dX12_keeps_62 (by decide) ?_
  refine lv_aload_n hx hb dX12_keeps_64 rfl (lv_at hl 1 rfl) ?_
  refine f_12_20 F w (a := 146) rfl tb_283 dX12_keeps_65 ?_
  refine r_val (v := 0) (h0) ?_
  refine lv_imul hx hb dX12_keeps_68 ?_
  refine r_val (v := 0) (by decide) ?_
  refine lv_iload_n hx hb dX12_keeps_69 rfl (lv_at hl 0 rfl) ?_
  refine lv_iadd hx hb dX12_keeps_70 ?_
  refine r_val (v := 5) (by decide) ?_
  refine lv_aload_n hx hb dX12_keeps_71 rfl (lv_at hl 1 rfl) ?_
  refine f_12_1 F w (a := 146) rfl tb_126 dX12_keeps_72 ?_
  refine lv_iload_n hx hb dX12_keeps_75 rfl (lv_at hl 0 rfl) ?_
  refine g_iald F w (a := 147) rfl (j := 5) ⟨by decide, by decide⟩ (by decide) dX12_keeps_76 ?_
  refine r_val (v := 0) (h11) ?_
  refine g_iast F w (a := 155) rfl (j := 5) ⟨by decide, by decide⟩ (by decide) dX12_keeps_77 (fun H locs w => ?_)
  rw [st_same (h12)] at w
  refine lv_iinc (v := 6) (lv' := [(1, .int 6), (0, .ref (B + 146))]) hx hb dX12_keeps_78 hl (k := 0) rfl (by decide) (by decide) rfl (fun ls hl => ?_)
  refine lv_goto (tgt := 52) hx hb dX12_keeps_81 (by decide) ?_
  refine lv_iload_n hx hb dX12_keeps_52 rfl (lv_at hl 0 rfl) ?_
  refine lv_bipush (v := 28) hx hb dX12_keeps_53 (by decide) ?_
  refine lv_icmp_ge (tgt := 84) hx hb dX12_keeps_55 (by decide) (fun c1 => absurd c1 (by decide)) (fun _ => ?_)
  refine lv_aload_n hx hb dX12_keeps_58 rfl (lv_at hl 1 rfl) ?_
  refine f_12_19 F w (a := 146) rfl tb_134 dX12_keeps_59 ?_
  refine lv_bipush (v := 28) hx hb dX12_keeps_62 (by decide) ?_
  refine lv_aload_n hx hb dX12_keeps_64 rfl (lv_at hl 1 rfl) ?_
  refine f_12_20 F w (a := 146) rfl tb_283 dX12_keeps_65 ?_
  refine r_val (v := 0) (h0) ?_
  refine lv_imul hx hb dX12_keeps_68 ?_
  refine r_val (v := 0) (by decide) ?_
  refine lv_iload_n hx hb dX12_keeps_69 rfl (lv_at hl 0 rfl) ?_
  refine lv_iadd hx hb dX12_keeps_70 ?_
  refine r_val (v := 6) (by decide) ?_
  refine lv_aload_n hx hb dX12_keeps_71 rfl (lv_at hl 1 rfl) ?_
  refine f_12_1 F w (a := 146) rfl tb_126 dX12_keeps_72 ?_
  refine lv_iload_n hx hb dX12_keeps_75 rfl (lv_at hl 0 rfl) ?_
  refine g_iald F w (a := 147) rfl (j := 6) ⟨by decide, by decide⟩ (by decide) dX12_keeps_76 ?_
  refine r_val (v := 0) (h13) ?_
  refine g_iast F w (a := 155) rfl (j := 6) ⟨by decide, by decide⟩ (by decide) dX12_keeps_77 (fun H locs w => ?_)
  rw [st_same (h14)] at w
  refine lv_iinc (v := 7) (lv' := [(1, .int 7), (0, .ref (B + 146))]) hx hb dX12_keeps_78 hl (k := 0) rfl (by decide) (by decide) rfl (fun ls hl => ?_)
  refine lv_goto (tgt := 52) hx hb dX12_keeps_81 (by decide) ?_
  refine lv_iload_n hx hb dX12_keeps_52 rfl (lv_at hl 0 rfl) ?_
  refine lv_bipush (v := 28) hx hb dX12_keeps_53 (by decide) ?_
  refine lv_icmp_ge (tgt := 84) hx hb dX12_keeps_55 (by decide) (fun c1 => absurd c1 (by decide)) (fun _ => ?_)
  refine lv_aload_n hx hb dX12_keeps_58 rfl (lv_at hl 1 rfl) ?_
  refine f_12_19 F w (a := 146) rfl tb_134 dX12_keeps_59 ?_
  refine lv_bipush (v := 28) hx hb dX12_keeps_62 (by decide) ?_
  refine lv_aload_n hx hb dX12_keeps_64 rfl (lv_at hl 1 rfl) ?_
  refine f_12_20 F w (a := 146) rfl tb_283 dX12_keeps_65 ?_
  refine r_val (v := 0) (h0) ?_
  refine lv_imul hx hb dX12_keeps_68 ?_
  refine r_val (v := 0) (by decide) ?_
  refine lv_iload_n hx hb dX12_keeps_69 rfl (lv_at hl 0 rfl) ?_
  refine lv_iadd hx hb dX12_keeps_70 ?_
  refine r_val (v := 7) (by decide) ?_
  refine lv_aload_n hx hb dX12_keeps_71 rfl (lv_at hl 1 rfl) ?_
  refine f_12_1 F w (a := 146) rfl tb_126 dX12_keeps_72 ?_
  refine lv_iload_n hx hb dX12_keeps_75 rfl (lv_at hl 0 rfl) ?_
  refine g_iald F w (a := 147) rfl (j := 7) ⟨by decide, by decide⟩ (by decide) dX12_keeps_76 ?_
  refine r_val (v := 0) (h15) ?_
  refine g_iast F w (a := 155) rfl (j := 7) ⟨by decide, by decide⟩ (by decide) dX12_keeps_77 (fun H locs w => ?_)
  rw [st_same (h16)] at w
  refine lv_iinc (v := 8) (lv' := [(1, .int 8), (0, .ref (B + 146))]) hx hb dX12_keeps_78 hl (k := 0) rfl (by decide) (by decide) rfl (fun ls hl => ?_)
  refine lv_goto (tgt := 52) hx hb dX12_keeps_81 (by decide) ?_
  refine lv_iload_n hx hb dX12_keeps_52 rfl (lv_at hl 0 rfl) ?_
  refine lv_bipush (v := 28) hx hb dX12_keeps_53 (by decide) ?_
  refine lv_icmp_ge (tgt := 84) hx hb dX12_keeps_55 (by decide) (fun c1 => absurd c1 (by decide)) (fun _ => ?_)
  refine lv_aload_n hx hb dX12_keeps_58 rfl (lv_at hl 1 rfl) ?_
  refine f_12_19 F w (a := 146) rfl tb_134 dX12_keeps_59 ?_
  refine lv_bipush (v := 28) hx hb dX12_keeps_62 (by decide) ?_
  refine lv_aload_n hx hb dX12_keeps_64 rfl (lv_at hl 1 rfl) ?_
  refine f_12_20 F w (a := 146) rfl tb_283 dX12_keeps_65 ?_
  refine r_val (v := 0) (h0) ?_
  refine lv_imul hx hb dX12_keeps_68 ?_
  refine r_val (v := 0) (by decide) ?_
  refine lv_iload_n hx hb dX12_keeps_69 rfl (lv_at hl 0 rfl) ?_
  refine lv_iadd hx hb dX12_keeps_70 ?_
  refine r_val (v := 8) (by decide) ?_
  refine lv_aload_n hx hb dX12_keeps_71 rfl (lv_at hl 1 rfl) ?_
  refine f_12_1 F w (a := 146) rfl tb_126 dX12_keeps_72 ?_
  refine lv_iload_n hx hb dX12_keeps_75 rfl (lv_at hl 0 rfl) ?_
  refine g_iald F w (a := 147) rfl (j := 8) ⟨by decide, by decide⟩ (by decide) dX12_keeps_76 ?_
  refine r_val (v := 0) (h17) ?_
  refine g_iast F w (a := 155) rfl (j := 8) ⟨by decide, by decide⟩ (by decide) dX12_keeps_77 (fun H locs w => ?_)
  rw [st_same (h18)] at w
  refine lv_iinc (v := 9) (lv' := [(1, .int 9), (0, .ref (B + 146))]) hx hb dX12_keeps_78 hl (k := 0) rfl (by decide) (by decide) rfl (fun ls hl => ?_)
  refine lv_goto (tgt := 52) hx hb dX12_keeps_81 (by decide) ?_
  refine lv_iload_n hx hb dX12_keeps_52 rfl (lv_at hl 0 rfl) ?_
  refine lv_bipush (v := 28) hx hb dX12_keeps_53 (by decide) ?_
  refine lv_icmp_ge (tgt := 84) hx hb dX12_keeps_55 (by decide) (fun c1 => absurd c1 (by decide)) (fun _ => ?_)
  refine lv_aload_n hx hb dX12_keeps_58 rfl (lv_at hl 1 rfl) ?_
  refine f_12_19 F w (a := 146) rfl tb_134 dX12_keeps_59 ?_
  refine lv_bipush (v := 28) hx hb dX12_keeps_62 (by decide) ?_
  refine lv_aload_n hx hb dX12_keeps_64 rfl (lv_at hl 1 rfl) ?_
  refine f_12_20 F w (a := 146) rfl tb_283 dX12_keeps_65 ?_
  refine r_val (v := 0) (h0) ?_
  refine lv_imul hx hb dX12_keeps_68 ?_
  refine r_val (v := 0) (by decide) ?_
  refine lv_iload_n hx hb dX12_keeps_69 rfl (lv_at hl 0 rfl) ?_
  refine lv_iadd hx hb dX12_keeps_70 ?_
  refine r_val (v := 9) (by decide) ?_
  refine lv_aload_n hx hb dX12_keeps_71 rfl (lv_at hl 1 rfl) ?_
  refine f_12_1 F w (a := 146) rfl tb_126 dX12_keeps_72 ?_
  refine lv_iload_n hx hb dX12_keeps_75 rfl (lv_at hl 0 rfl) ?_
  refine g_iald F w (a := 147) rfl (j := 9) ⟨by decide, by decide⟩ (by decide) dX12_keeps_76 ?_
  refine r_val (v := 0) (h19) ?_
  refine g_iast F w (a := 155) rfl (j := 9) ⟨by decide, by decide⟩ (by decide) dX12_keeps_77 (fun H locs w => ?_)
  rw [st_same (h20)] at w
  refine lv_iinc (v := 10) (lv' := [(1, .int 10), (0, .ref (B + 146))]) hx hb dX12_keeps_78 hl (k := 0) rfl (by decide) (by decide) rfl (fun ls hl => ?_)
  refine lv_goto (tgt := 52) hx hb dX12_keeps_81 (by decide) ?_
  refine lv_iload_n hx hb dX12_keeps_52 rfl (lv_at hl 0 rfl) ?_
  refine lv_bipush (v := 28) hx hb dX12_keeps_53 (by decide) ?_
  refine lv_icmp_ge (tgt := 84) hx hb dX12_keeps_55 (by decide) (fun c1 => absurd c1 (by decide)) (fun _ => ?_)
  refine lv_aload_n hx hb dX12_keeps_58 rfl (lv_at hl 1 rfl) ?_
  refine f_12_19 F w (a := 146) rfl tb_134 dX12_keeps_59 ?_
  refine lv_bipush (v := 28) hx hb dX12_keeps_62 (by decide) ?_
  refine lv_aload_n hx hb dX12_keeps_64 rfl (lv_at hl 1 rfl) ?_
  refine f_12_20 F w (a := 146) rfl tb_283 dX12_keeps_65 ?_
  refine r_val (v := 0) (h0) ?_
  refine lv_imul hx hb dX12_keeps_68 ?_
  refine r_val (v := 0) (by decide) ?_
  refine lv_iload_n hx hb dX12_keeps_69 rfl (lv_at hl 0 rfl) ?_
  refine lv_iadd hx hb dX12_keeps_70 ?_
  refine r_val (v := 10) (by decide) ?_
  refine lv_aload_n hx hb dX12_keeps_71 rfl (lv_at hl 1 rfl) ?_
  refine f_12_1 F w (a := 146) rfl tb_126 dX12_keeps_72 ?_
  refine lv_iload_n hx hb dX12_keeps_75 rfl (lv_at hl 0 rfl) ?_
  refine g_iald F w (a := 147) rfl (j := 10) ⟨by decide, by decide⟩ (by decide) dX12_keeps_76 ?_
  refine r_val (v := 0) (h21) ?_
  refine g_iast F w (a := 155) rfl (j := 10) ⟨by decide, by decide⟩ (by decide) dX12_keeps_77 (fun H locs w => ?_)
  rw [st_same (h22)] at w
  refine lv_iinc (v := 11) (lv' := [(1, .int 11), (0, .ref (B + 146))]) hx hb dX12_keeps_78 hl (k := 0) rfl (by decide) (by decide) rfl (fun ls hl => ?_)
  refine lv_goto (tgt := 52) hx hb dX12_keeps_81 (by decide) ?_
  refine lv_iload_n hx hb dX12_keeps_52 rfl (lv_at hl 0 rfl) ?_
  refine lv_bipush (v := 28) hx hb dX12_keeps_53 (by decide) ?_
  refine lv_icmp_ge (tgt := 84) hx hb dX12_keeps_55 (by decide) (fun c1 => absurd c1 (by decide)) (fun _ => ?_)
  refine lv_aload_n hx hb dX12_keeps_58 rfl (lv_at hl 1 rfl) ?_
  refine f_12_19 F w (a := 146) rfl tb_134 dX12_keeps_59 ?_
  refine lv_bipush (v := 28) hx hb dX12_keeps_62 (by decide) ?_
  refine lv_aload_n hx hb dX12_keeps_64 rfl (lv_at hl 1 rfl) ?_
  refine f_12_20 F w (a := 146) rfl tb_283 dX12_keeps_65 ?_
  refine r_val (v := 0) (h0) ?_
  refine lv_imul hx hb dX12_keeps_68 ?_
  refine r_val (v := 0) (by decide) ?_
  refine lv_iload_n hx hb dX12_keeps_69 rfl (lv_at hl 0 rfl) ?_
  refine lv_iadd hx hb dX12_keeps_70 ?_
  refine r_val (v := 11) (by decide) ?_
  refine lv_aload_n hx hb dX12_keeps_71 rfl (lv_at hl 1 rfl) ?_
  refine f_12_1 F w (a := 146) rfl tb_126 dX12_keeps_72 ?_
  refine lv_iload_n hx hb dX12_keeps_75 rfl (lv_at hl 0 rfl) ?_
  refine g_iald F w (a := 147) rfl (j := 11) ⟨by decide, by decide⟩ (by decide) dX12_keeps_76 ?_
  refine r_val (v := 0) (h23) ?_
  refine g_iast F w (a := 155) rfl (j := 11) ⟨by decide, by decide⟩ (by decide) dX12_keeps_77 (fun H locs w => ?_)
  rw [st_same (h24)] at w
  refine lv_iinc (v := 12) (lv' := [(1, .int 12), (0, .ref (B + 146))]) hx hb dX12_keeps_78 hl (k := 0) rfl (by decide) (by decide) rfl (fun ls hl => ?_)
  refine lv_goto (tgt := 52) hx hb dX12_keeps_81 (by decide) ?_
  refine lv_iload_n hx hb dX12_keeps_52 rfl (lv_at hl 0 rfl) ?_
  refine lv_bipush (v := 28) hx hb dX12_keeps_53 (by decide) ?_
  refine lv_icmp_ge (tgt := 84) hx hb dX12_keeps_55 (by decide) (fun c1 => absurd c1 (by decide)) (fun _ => ?_)
  refine lv_aload_n hx hb dX12_keeps_58 rfl (lv_at hl 1 rfl) ?_
  refine f_12_19 F w (a := 146) rfl tb_134 dX12_keeps_59 ?_
  refine lv_bipush (v := 28) hx hb dX12_keeps_62 (by decide) ?_
  refine lv_aload_n hx hb dX12_keeps_64 rfl (lv_at hl 1 rfl) ?_
  refine f_12_20 F w (a := 146) rfl tb_283 dX12_keeps_65 ?_
  refine r_val (v := 0) (h0) ?_
  refine lv_imul hx hb dX12_keeps_68 ?_
  refine r_val (v := 0) (by decide) ?_
  refine lv_iload_n hx hb dX12_keeps_69 rfl (lv_at hl 0 rfl) ?_
  refine lv_iadd hx hb dX12_keeps_70 ?_
  refine r_val (v := 12) (by decide) ?_
  refine lv_aload_n hx hb dX12_keeps_71 rfl (lv_at hl 1 rfl) ?_
  refine f_12_1 F w (a := 146) rfl tb_126 dX12_keeps_72 ?_
  refine lv_iload_n hx hb dX12_keeps_75 rfl (lv_at hl 0 rfl) ?_
  refine g_iald F w (a := 147) rfl (j := 12) ⟨by decide, by decide⟩ (by decide) dX12_keeps_76 ?_
  refine r_val (v := 0) (h25) ?_
  refine g_iast F w (a := 155) rfl (j := 12) ⟨by decide, by decide⟩ (by decide) dX12_keeps_77 (fun H locs w => ?_)
  rw [st_same (h26)] at w
  refine lv_iinc (v := 13) (lv' := [(1, .int 13), (0, .ref (B + 146))]) hx hb dX12_keeps_78 hl (k := 0) rfl (by decide) (by decide) rfl (fun ls hl => ?_)
  refine lv_goto (tgt := 52) hx hb dX12_keeps_81 (by decide) ?_
  refine lv_iload_n hx hb dX12_keeps_52 rfl (lv_at hl 0 rfl) ?_
  refine lv_bipush (v := 28) hx hb dX12_keeps_53 (by decide) ?_
  refine lv_icmp_ge (tgt := 84) hx hb dX12_keeps_55 (by decide) (fun c1 => absurd c1 (by decide)) (fun _ => ?_)
  refine lv_aload_n hx hb dX12_keeps_58 rfl (lv_at hl 1 rfl) ?_
  refine f_12_19 F w (a := 146) rfl tb_134 dX12_keeps_59 ?_
  refine lv_bipush (v := 28) hx hb dX12_keeps_62 (by decide) ?_
  refine lv_aload_n hx hb dX12_keeps_64 rfl (lv_at hl 1 rfl) ?_
  refine f_12_20 F w (a := 146) rfl tb_283 dX12_keeps_65 ?_
  refine r_val (v := 0) (h0) ?_
  refine lv_imul hx hb dX12_keeps_68 ?_
  refine r_val (v := 0) (by decide) ?_
  refine lv_iload_n hx hb dX12_keeps_69 rfl (lv_at hl 0 rfl) ?_
  refine lv_iadd hx hb dX12_keeps_70 ?_
  refine r_val (v := 13) (by decide) ?_
  refine lv_aload_n hx hb dX12_keeps_71 rfl (lv_at hl 1 rfl) ?_
  refine f_12_1 F w (a := 146) rfl tb_126 dX12_keeps_72 ?_
  refine lv_iload_n hx hb dX12_keeps_75 rfl (lv_at hl 0 rfl) ?_
  refine g_iald F w (a := 147) rfl (j := 13) ⟨by decide, by decide⟩ (by decide) dX12_keeps_76 ?_
  refine r_val (v := 0) (h27) ?_
  refine g_iast F w (a := 155) rfl (j := 13) ⟨by decide, by decide⟩ (by decide) dX12_keeps_77 (fun H locs w => ?_)
  rw [st_same (h28)] at w
  refine lv_iinc (v := 14) (lv' := [(1, .int 14), (0, .ref (B + 146))]) hx hb dX12_keeps_78 hl (k := 0) rfl (by decide) (by decide) rfl (fun ls hl => ?_)
  refine lv_goto (tgt := 52) hx hb dX12_keeps_81 (by decide) ?_
  refine lv_iload_n hx hb dX12_keeps_52 rfl (lv_at hl 0 rfl) ?_
  refine lv_bipush (v := 28) hx hb dX12_keeps_53 (by decide) ?_
  refine lv_icmp_ge (tgt := 84) hx hb dX12_keeps_55 (by decide) (fun c1 => absurd c1 (by decide)) (fun _ => ?_)
  refine lv_aload_n hx hb dX12_keeps_58 rfl (lv_at hl 1 rfl) ?_
  refine f_12_19 F w (a := 146) rfl tb_134 dX12_keeps_59 ?_
  refine lv_bipush (v := 28) hx hb dX12_keeps_62 (by decide) ?_
  refine lv_aload_n hx hb dX12_keeps_64 rfl (lv_at hl 1 rfl) ?_
  refine f_12_20 F w (a := 146) rfl tb_283 dX12_keeps_65 ?_
  refine r_val (v := 0) (h0) ?_
  refine lv_imul hx hb dX12_keeps_68 ?_
  refine r_val (v := 0) (by decide) ?_
  refine lv_iload_n hx hb dX12_keeps_69 rfl (lv_at hl 0 rfl) ?_
  refine lv_iadd hx hb dX12_keeps_70 ?_
  refine r_val (v := 14) (by decide) ?_
  refine lv_aload_n hx hb dX12_keeps_71 rfl (lv_at hl 1 rfl) ?_
  refine f_12_1 F w (a := 146) rfl tb_126 dX12_keeps_72 ?_
  refine lv_iload_n hx hb dX12_keeps_75 rfl (lv_at hl 0 rfl) ?_
  refine g_iald F w (a := 147) rfl (j := 14) ⟨by decide, by decide⟩ (by decide) dX12_keeps_76 ?_
  refine r_val (v := 0) (h29) ?_
  refine g_iast F w (a := 155) rfl (j := 14) ⟨by decide, by decide⟩ (by decide) dX12_keeps_77 (fun H locs w => ?_)
  rw [st_same (h30)] at w
  refine lv_iinc (v := 15) (lv' := [(1, .int 15), (0, .ref (B + 146))]) hx hb dX12_keeps_78 hl (k := 0) rfl (by decide) (by decide) rfl (fun ls hl => ?_)
  refine lv_goto (tgt := 52) hx hb dX12_keeps_81 (by decide) ?_
  refine lv_iload_n hx hb dX12_keeps_52 rfl (lv_at hl 0 rfl) ?_
  refine lv_bipush (v := 28) hx hb dX12_keeps_53 (by decide) ?_
  refine lv_icmp_ge (tgt := 84) hx hb dX12_keeps_55 (by decide) (fun c1 => absurd c1 (by decide)) (fun _ => ?_)
  refine lv_aload_n hx hb dX12_keeps_58 rfl (lv_at hl 1 rfl) ?_
  refine f_12_19 F w (a := 146) rfl tb_134 dX12_keeps_59 ?_
  refine lv_bipush (v := 28) hx hb dX12_keeps_62 (by decide) ?_
  refine lv_aload_n hx hb dX12_keeps_64 rfl (lv_at hl 1 rfl) ?_
  refine f_12_20 F w (a := 146) rfl tb_283 dX12_keeps_65 ?_
  refine r_val (v := 0) (h0) ?_
  refine lv_imul hx hb dX12_keeps_68 ?_
  refine r_val (v := 0) (by decide) ?_
  refine lv_iload_n hx hb dX12_keeps_69 rfl (lv_at hl 0 rfl) ?_
  refine lv_iadd hx hb dX12_keeps_70 ?_
  refine r_val (v := 15) (by decide) ?_
  refine lv_aload_n hx hb dX12_keeps_71 rfl (lv_at hl 1 rfl) ?_
  refine f_12_1 F w (a := 146) rfl tb_126 dX12_keeps_72 ?_
  refine lv_iload_n hx hb dX12_keeps_75 rfl (lv_at hl 0 rfl) ?_
  refine g_iald F w (a := 147) rfl (j := 15) ⟨by decide, by decide⟩ (by decide) dX12_keeps_76 ?_
  refine r_val (v := 0) (h31) ?_
  refine g_iast F w (a := 155) rfl (j := 15) ⟨by decide, by decide⟩ (by decide) dX12_keeps_77 (fun H locs w => ?_)
  rw [st_same (h32)] at w
  refine lv_iinc (v := 16) (lv' := [(1, .int 16), (0, .ref (B + 146))]) hx hb dX12_keeps_78 hl (k := 0) rfl (by decide) (by decide) rfl (fun ls hl => ?_)
  refine lv_goto (tgt := 52) hx hb dX12_keeps_81 (by decide) ?_
  refine lv_iload_n hx hb dX12_keeps_52 rfl (lv_at hl 0 rfl) ?_
  refine lv_bipush (v := 28) hx hb dX12_keeps_53 (by decide) ?_
  refine lv_icmp_ge (tgt := 84) hx hb dX12_keeps_55 (by decide) (fun c1 => absurd c1 (by decide)) (fun _ => ?_)
  refine lv_aload_n hx hb dX12_keeps_58 rfl (lv_at hl 1 rfl) ?_
  refine f_12_19 F w (a := 146) rfl tb_134 dX12_keeps_59 ?_
  refine lv_bipush (v := 28) hx hb dX12_keeps_62 (by decide) ?_
  refine lv_aload_n hx hb dX12_keeps_64 rfl (lv_at hl 1 rfl) ?_
  refine f_12_20 F w (a := 146) rfl tb_283 dX12_keeps_65 ?_
  refine r_val (v := 0) (h0) ?_
  refine lv_imul hx hb dX12_keeps_68 ?_
  refine r_val (v := 0) (by decide) ?_
  refine lv_iload_n hx hb dX12_keeps_69 rfl (lv_at hl 0 rfl) ?_
  refine lv_iadd hx hb dX12_keeps_70 ?_
  refine r_val (v := 16) (by decide) ?_
  refine lv_aload_n hx hb dX12_keeps_71 rfl (lv_at hl 1 rfl) ?_
  refine f_12_1 F w (a := 146) rfl tb_126 dX12_keeps_72 ?_
  refine lv_iload_n hx hb dX12_keeps_75 rfl (lv_at hl 0 rfl) ?_
  refine g_iald F w (a := 147) rfl (j := 16) ⟨by decide, by decide⟩ (by decide) dX12_keeps_76 ?_
  refine r_val (v := 0) (h33) ?_
  refine g_iast F w (a := 155) rfl (j := 16) ⟨by decide, by decide⟩ (by decide) dX12_keeps_77 (fun H locs w => ?_)
  rw [st_same (h34)] at w
  refine lv_iinc (v := 17) (lv' := [(1, .int 17), (0, .ref (B + 146))]) hx hb dX12_keeps_78 hl (k := 0) rfl (by decide) (by decide) rfl (fun ls hl => ?_)
  refine lv_goto (tgt := 52) hx hb dX12_keeps_81 (by decide) ?_
  refine lv_iload_n hx hb dX12_keeps_52 rfl (lv_at hl 0 rfl) ?_
  refine lv_bipush (v := 28) hx hb dX12_keeps_53 (by decide) ?_
  refine lv_icmp_ge (tgt := 84) hx hb dX12_keeps_55 (by decide) (fun c1 => absurd c1 (by decide)) (fun _ => ?_)
  refine lv_aload_n hx hb dX12_keeps_58 rfl (lv_at hl 1 rfl) ?_
  refine f_12_19 F w (a := 146) rfl tb_134 dX12_keeps_59 ?_
  refine lv_bipush (v := 28) hx hb dX12_keeps_62 (by decide) ?_
  refine lv_aload_n hx hb dX12_keeps_64 rfl (lv_at hl 1 rfl) ?_
  refine f_12_20 F w (a := 146) rfl tb_283 dX12_keeps_65 ?_
  refine r_val (v := 0) (h0) ?_
  refine lv_imul hx hb dX12_keeps_68 ?_
  refine r_val (v := 0) (by decide) ?_
  refine lv_iload_n hx hb dX12_keeps_69 rfl (lv_at hl 0 rfl) ?_
  refine lv_iadd hx hb dX12_keeps_70 ?_
  refine r_val (v := 17) (by decide) ?_
  refine lv_aload_n hx hb dX12_keeps_71 rfl (lv_at hl 1 rfl) ?_
  refine f_12_1 F w (a := 146) rfl tb_126 dX12_keeps_72 ?_
  refine lv_iload_n hx hb dX12_keeps_75 rfl (lv_at hl 0 rfl) ?_
  refine g_iald F w (a := 147) rfl (j := 17) ⟨by decide, by decide⟩ (by decide) dX12_keeps_76 ?_
  refine r_val (v := 0) (h35) ?_
  refine g_iast F w (a := 155) rfl (j := 17) ⟨by decide, by decide⟩ (by decide) dX12_keeps_77 (fun H locs w => ?_)
  rw [st_same (h36)] at w
  refine lv_iinc (v := 18) (lv' := [(1, .int 18), (0, .ref (B + 146))]) hx hb dX12_keeps_78 hl (k := 0) rfl (by decide) (by decide) rfl (fun ls hl => ?_)
  refine lv_goto (tgt := 52) hx hb dX12_keeps_81 (by decide) ?_
  refine lv_iload_n hx hb dX12_keeps_52 rfl (lv_at hl 0 rfl) ?_
  refine lv_bipush (v := 28) hx hb dX12_keeps_53 (by decide) ?_
  refine lv_icmp_ge (tgt := 84) hx hb dX12_keeps_55 (by decide) (fun c1 => absurd c1 (by decide)) (fun _ => ?_)
  refine lv_aload_n hx hb dX12_keeps_58 rfl (lv_at hl 1 rfl) ?_
  refine f_12_19 F w (a := 146) rfl tb_134 dX12_keeps_59 ?_
  refine lv_bipush (v := 28) hx hb dX12_keeps_62 (by decide) ?_
  refine lv_aload_n hx hb dX12_keeps_64 rfl (lv_at hl 1 rfl) ?_
  refine f_12_20 F w (a := 146) rfl tb_283 dX12_keeps_65 ?_
  refine r_val (v := 0) (h0) ?_
  refine lv_imul hx hb dX12_keeps_68 ?_
  refine r_val (v := 0) (by decide) ?_
  refine lv_iload_n hx hb dX12_keeps_69 rfl (lv_at hl 0 rfl) ?_
  refine lv_iadd hx hb dX12_keeps_70 ?_
  refine r_val (v := 18) (by decide) ?_
  refine lv_aload_n hx hb dX12_keeps_71 rfl (lv_at hl 1 rfl) ?_
  refine f_12_1 F w (a := 146) rfl tb_126 dX12_keeps_72 ?_
  refine lv_iload_n hx hb dX12_keeps_75 rfl (lv_at hl 0 rfl) ?_
  refine g_iald F w (a := 147) rfl (j := 18) ⟨by decide, by decide⟩ (by decide) dX12_keeps_76 ?_
  refine r_val (v := 0) (h37) ?_
  refine g_iast F w (a := 155) rfl (j := 18) ⟨by decide, by decide⟩ (by decide) dX12_keeps_77 (fun H locs w => ?_)
  rw [st_same (h38)] at w
  refine lv_iinc (v := 19) (lv' := [(1, .int 19), (0, .ref (B + 146))]) hx hb dX12_keeps_78 hl (k := 0) rfl (by decide) (by decide) rfl (fun ls hl => ?_)
  refine lv_goto (tgt := 52) hx hb dX12_keeps_81 (by decide) ?_
  refine lv_iload_n hx hb dX12_keeps_52 rfl (lv_at hl 0 rfl) ?_
  refine lv_bipush (v := 28) hx hb dX12_keeps_53 (by decide) ?_
  refine lv_icmp_ge (tgt := 84) hx hb dX12_keeps_55 (by decide) (fun c1 => absurd c1 (by decide)) (fun _ => ?_)
  refine lv_aload_n hx hb dX12_keeps_58 rfl (lv_at hl 1 rfl) ?_
  refine f_12_19 F w (a := 146) rfl tb_134 dX12_keeps_59 ?_
  refine lv_bipush (v := 28) hx hb dX12_keeps_62 (by decide) ?_
  refine lv_aload_n hx hb dX12_keeps_64 rfl (lv_at hl 1 rfl) ?_
  refine f_12_20 F w (a := 146) rfl tb_283 dX12_keeps_65 ?_
  refine r_val (v := 0) (h0) ?_
  refine lv_imul hx hb dX12_keeps_68 ?_
  refine r_val (v := 0) (by decide) ?_
  refine lv_iload_n hx hb dX12_keeps_69 rfl (lv_at hl 0 rfl) ?_
  refine lv_iadd hx hb dX12_keeps_70 ?_
  refine r_val (v := 19) (by decide) ?_
  refine lv_aload_n hx hb dX12_keeps_71 rfl (lv_at hl 1 rfl) ?_
  refine f_12_1 F w (a := 146) rfl tb_126 dX12_keeps_72 ?_
  refine lv_iload_n hx hb dX12_keeps_75 rfl (lv_at hl 0 rfl) ?_
  refine g_iald F w (a := 147) rfl (j := 19) ⟨by decide, by decide⟩ (by decide) dX12_keeps_76 ?_
  refine r_val (v := 0) (h39) ?_
  refine g_iast F w (a := 155) rfl (j := 19) ⟨by decide, by decide⟩ (by decide) dX12_keeps_77 (fun H locs w => ?_)
  rw [st_same (h40)] at w
  refine lv_iinc (v := 20) (lv' := [(1, .int 20), (0, .ref (B + 146))]) hx hb dX12_keeps_78 hl (k := 0) rfl (by decide) (by decide) rfl (fun ls hl => ?_)
  refine lv_goto (tgt := 52) hx hb dX12_keeps_81 (by decide) ?_
  refine lv_iload_n hx hb dX12_keeps_52 rfl (lv_at hl 0 rfl) ?_
  refine lv_bipush (v := 28) hx hb dX12_keeps_53 (by decide) ?_
  refine lv_icmp_ge (tgt := 84) hx hb dX12_keeps_55 (by decide) (fun c1 => absurd c1 (by decide)) (fun _ => ?_)
  refine lv_aload_n hx hb dX12_keeps_58 rfl (lv_at hl 1 rfl) ?_
  refine f_12_19 F w (a := 146) rfl tb_134 dX12_keeps_59 ?_
  refine lv_bipush (v := 28) hx hb dX12_keeps_62 (by decide) ?_
  refine lv_aload_n hx hb dX12_keeps_64 rfl (lv_at hl 1 rfl) ?_
  refine f_12_20 F w (a := 146) rfl tb_283 dX12_keeps_65 ?_
  refine r_val (v := 0) (h0) ?_
  refine lv_imul hx hb dX12_keeps_68 ?_
  refine r_val (v := 0) (by decide) ?_
  refine lv_iload_n hx hb dX12_keeps_69 rfl (lv_at hl 0 rfl) ?_
  refine lv_iadd hx hb dX12_keeps_70 ?_
  refine r_val (v := 20) (by decide) ?_
  refine lv_aload_n hx hb dX12_keeps_71 rfl (lv_at hl 1 rfl) ?_
  refine f_12_1 F w (a := 146) rfl tb_126 dX12_keeps_72 ?_
  refine lv_iload_n hx hb dX12_keeps_75 rfl (lv_at hl 0 rfl) ?_
  refine g_iald F w (a := 147) rfl (j := 20) ⟨by decide, by decide⟩ (by decide) dX12_keeps_76 ?_
  refine r_val (v := 0) (h41) ?_
  refine g_iast F w (a := 155) rfl (j := 20) ⟨by decide, by decide⟩ (by decide) dX12_keeps_77 (fun H locs w => ?_)
  rw [st_same (h42)] at w
  refine lv_iinc (v := 21) (lv' := [(1, .int 21), (0, .ref (B + 146))]) hx hb dX12_keeps_78 hl (k := 0) rfl (by decide) (by decide) rfl (fun ls hl => ?_)
  refine lv_goto (tgt := 52) hx hb dX12_keeps_81 (by decide) ?_
  refine lv_iload_n hx hb dX12_keeps_52 rfl (lv_at hl 0 rfl) ?_
  refine lv_bipush (v := 28) hx hb dX12_keeps_53 (by decide) ?_
  refine lv_icmp_ge (tgt := 84) hx hb dX12_keeps_55 (by decide) (fun c1 => absurd c1 (by decide)) (fun _ => ?_)
  refine lv_aload_n hx hb dX12_keeps_58 rfl (lv_at hl 1 rfl) ?_
  refine f_12_19 F w (a := 146) rfl tb_134 dX12_keeps_59 ?_
  refine lv_bipush (v := 28) hx hb dX12_keeps_62 (by decide) ?_
  refine lv_aload_n hx hb dX12_keeps_64 rfl (lv_at hl 1 rfl) ?_
  refine f_12_20 F w (a := 146) rfl tb_283 dX12_keeps_65 ?_
  refine r_val (v := 0) (h0) ?_
  refine lv_imul hx hb dX12_keeps_68 ?_
  refine r_val (v := 0) (by decide) ?_
  refine lv_iload_n hx hb dX12_keeps_69 rfl (lv_at hl 0 rfl) ?_
  refine lv_iadd hx hb dX12_keeps_70 ?_
  refine r_val (v := 21) (by decide) ?_
  refine lv_aload_n hx hb dX12_keeps_71 rfl (lv_at hl 1 rfl) ?_
  refine f_12_1 F w (a := 146) rfl tb_126 dX12_keeps_72 ?_
  refine lv_iload_n hx hb dX12_keeps_75 rfl (lv_at hl 0 rfl) ?_
  refine g_iald F w (a := 147) rfl (j := 21) ⟨by decide, by decide⟩ (by decide) dX12_keeps_76 ?_
  refine r_val (v := 0) (h43) ?_
  refine g_iast F w (a := 155) rfl (j := 21) ⟨by decide, by decide⟩ (by decide) dX12_keeps_77 (fun H locs w => ?_)
  rw [st_same (h44)] at w
  refine lv_iinc (v := 22) (lv' := [(1, .int 22), (0, .ref (B + 146))]) hx hb dX12_keeps_78 hl (k := 0) rfl (by decide) (by decide) rfl (fun ls hl => ?_)
  refine lv_goto (tgt := 52) hx hb dX12_keeps_81 (by decide) ?_
  refine lv_iload_n hx hb dX12_keeps_52 rfl (lv_at hl 0 rfl) ?_
  refine lv_bipush (v := 28) hx hb dX12_keeps_53 (by decide) ?_
  refine lv_icmp_ge (tgt := 84) hx hb dX12_keeps_55 (by decide) (fun c1 => absurd c1 (by decide)) (fun _ => ?_)
  refine lv_aload_n hx hb dX12_keeps_58 rfl (lv_at hl 1 rfl) ?_
  refine f_12_19 F w (a := 146) rfl tb_134 dX12_keeps_59 ?_
  refine lv_bipush (v := 28) hx hb dX12_keeps_62 (by decide) ?_
  refine lv_aload_n hx hb dX12_keeps_64 rfl (lv_at hl 1 rfl) ?_
  refine f_12_20 F w (a := 146) rfl tb_283 dX12_keeps_65 ?_
  refine r_val (v := 0) (h0) ?_
  refine lv_imul hx hb dX12_keeps_68 ?_
  refine r_val (v := 0) (by decide) ?_
  refine lv_iload_n hx hb dX12_keeps_69 rfl (lv_at hl 0 rfl) ?_
  refine lv_iadd hx hb dX12_keeps_70 ?_
  refine r_val (v := 22) (by decide) ?_
  refine lv_aload_n hx hb dX12_keeps_71 rfl (lv_at hl 1 rfl) ?_
  refine f_12_1 F w (a := 146) rfl tb_126 dX12_keeps_72 ?_
  refine lv_iload_n hx hb dX12_keeps_75 rfl (lv_at hl 0 rfl) ?_
  refine g_iald F w (a := 147) rfl (j := 22) ⟨by decide, by decide⟩ (by decide) dX12_keeps_76 ?_
  refine r_val (v := 0) (h45) ?_
  refine g_iast F w (a := 155) rfl (j := 22) ⟨by decide, by decide⟩ (by decide) dX12_keeps_77 (fun H locs w => ?_)
  rw [st_same (h46)] at w
  refine lv_iinc (v := 23) (lv' := [(1, .int 23), (0, .ref (B + 146))]) hx hb dX12_keeps_78 hl (k := 0) rfl (by decide) (by decide) rfl (fun ls hl => ?_)
  refine lv_goto (tgt := 52) hx hb dX12_keeps_81 (by decide) ?_
  refine lv_iload_n hx hb dX12_keeps_52 rfl (lv_at hl 0 rfl) ?_
  refine lv_bipush (v := 28) hx hb dX12_keeps_53 (by decide) ?_
  refine lv_icmp_ge (tgt := 84) hx hb dX12_keeps_55 (by decide) (fun c1 => absurd c1 (by decide)) (fun _ => ?_)
  refine lv_aload_n hx hb dX12_keeps_58 rfl (lv_at hl 1 rfl) ?_
  refine f_12_19 F w (a := 146) rfl tb_134 dX12_keeps_59 ?_
  refine lv_bipush (v := 28) hx hb dX12_keeps_62 (by decide) ?_
  refine lv_aload_n hx hb dX12_keeps_64 rfl (lv_at hl 1 rfl) ?_
  refine f_12_20 F w (a := 146) rfl tb_283 dX12_keeps_65 ?_
  refine r_val (v := 0) (h0) ?_
  refine lv_imul hx hb dX12_keeps_68 ?_
  refine r_val (v := 0) (by decide) ?_
  refine lv_iload_n hx hb dX12_keeps_69 rfl (lv_at hl 0 rfl) ?_
  refine lv_iadd hx hb dX12_keeps_70 ?_
  refine r_val (v := 23) (by decide) ?_
  refine lv_aload_n hx hb dX12_keeps_71 rfl (lv_at hl 1 rfl) ?_
  refine f_12_1 F w (a := 146) rfl tb_126 dX12_keeps_72 ?_
  refine lv_iload_n hx hb dX12_keeps_75 rfl (lv_at hl 0 rfl) ?_
  refine g_iald F w (a := 147) rfl (j := 23) ⟨by decide, by decide⟩ (by decide) dX12_keeps_76 ?_
  refine r_val (v := 0) (h47) ?_
  refine g_iast F w (a := 155) rfl (j := 23) ⟨by decide, by decide⟩ (by decide) dX12_keeps_77 (fun H locs w => ?_)
  rw [st_same (h48)] at w
  refine lv_iinc (v := 24) (lv' := [(1, .int 24), (0, .ref (B + 146))]) hx hb dX12_keeps_78 hl (k := 0) rfl (by decide) (by decide) rfl (fun ls hl => ?_)
  refine lv_goto (tgt := 52) hx hb dX12_keeps_81 (by decide) ?_
  refine lv_iload_n hx hb dX12_keeps_52 rfl (lv_at hl 0 rfl) ?_
  refine lv_bipush (v := 28) hx hb dX12_keeps_53 (by decide) ?_
  refine lv_icmp_ge (tgt := 84) hx hb dX12_keeps_55 (by decide) (fun c1 => absurd c1 (by decide)) (fun _ => ?_)
  refine lv_aload_n hx hb dX12_keeps_58 rfl (lv_at hl 1 rfl) ?_
  refine f_12_19 F w (a := 146) rfl tb_134 dX12_keeps_59 ?_
  refine lv_bipush (v := 28) hx hb dX12_keeps_62 (by decide) ?_
  refine lv_aload_n hx hb dX12_keeps_64 rfl (lv_at hl 1 rfl) ?_
  refine f_12_20 F w (a := 146) rfl tb_283 dX12_keeps_65 ?_
  refine r_val (v := 0) (h0) ?_
  refine lv_imul hx hb dX12_keeps_68 ?_
  refine r_val (v := 0) (by decide) ?_
  refine lv_iload_n hx hb dX12_keeps_69 rfl (lv_at hl 0 rfl) ?_
  refine lv_iadd hx hb dX12_keeps_70 ?_
  refine r_val (v := 24) (by decide) ?_
  refine lv_aload_n hx hb dX12_keeps_71 rfl (lv_at hl 1 rfl) ?_
  refine f_12_1 F w (a := 146) rfl tb_126 dX12_keeps_72 ?_
  refine lv_iload_n hx hb dX12_keeps_75 rfl (lv_at hl 0 rfl) ?_
  refine g_iald F w (a := 147) rfl (j := 24) ⟨by decide, by decide⟩ (by decide) dX12_keeps_76 ?_
  refine r_val (v := 0) (h49) ?_
  refine g_iast F w (a := 155) rfl (j := 24) ⟨by decide, by decide⟩ (by decide) dX12_keeps_77 (fun H locs w => ?_)
  rw [st_same (h50)] at w
  refine lv_iinc (v := 25) (lv' := [(1, .int 25), (0, .ref (B + 146))]) hx hb dX12_keeps_78 hl (k := 0) rfl (by decide) (by decide) rfl (fun ls hl => ?_)
  refine lv_goto (tgt := 52) hx hb dX12_keeps_81 (by decide) ?_
  refine lv_iload_n hx hb dX12_keeps_52 rfl (lv_at hl 0 rfl) ?_
  refine lv_bipush (v := 28) hx hb dX12_keeps_53 (by decide) ?_
  refine lv_icmp_ge (tgt := 84) hx hb dX12_keeps_55 (by decide) (fun c1 => absurd c1 (by decide)) (fun _ => ?_)
  refine lv_aload_n hx hb dX12_keeps_58 rfl (lv_at hl 1 rfl) ?_
  refine f_12_19 F w (a := 146) rfl tb_134 dX12_keeps_59 ?_
  refine lv_bipush (v := 28) hx hb dX12_keeps_62 (by decide) ?_
  refine lv_aload_n hx hb dX12_keeps_64 rfl (lv_at hl 1 rfl) ?_
  refine f_12_20 F w (a := 146) rfl tb_283 dX12_keeps_65 ?_
  refine r_val (v := 0) (h0) ?_
  refine lv_imul hx hb dX12_keeps_68 ?_
  refine r_val (v := 0) (by decide) ?_
  refine lv_iload_n hx hb dX12_keeps_69 rfl (lv_at hl 0 rfl) ?_
  refine lv_iadd hx hb dX12_keeps_70 ?_
  refine r_val (v := 25) (by decide) ?_
  refine lv_aload_n hx hb dX12_keeps_71 rfl (lv_at hl 1 rfl) ?_
  refine f_12_1 F w (a := 146) rfl tb_126 dX12_keeps_72 ?_
  refine lv_iload_n hx hb dX12_keeps_75 rfl (lv_at hl 0 rfl) ?_
  refine g_iald F w (a := 147) rfl (j := 25) ⟨by decide, by decide⟩ (by decide) dX12_keeps_76 ?_
  refine r_val (v := 0) (h51) ?_
  refine g_iast F w (a := 155) rfl (j := 25) ⟨by decide, by decide⟩ (by decide) dX12_keeps_77 (fun H locs w => ?_)
  rw [st_same (h52)] at w
  refine lv_iinc (v := 26) (lv' := [(1, .int 26), (0, .ref (B + 146))]) hx hb dX12_keeps_78 hl (k := 0) rfl (by decide) (by decide) rfl (fun ls hl => ?_)
  refine lv_goto (tgt := 52) hx hb dX12_keeps_81 (by decide) ?_
  refine lv_iload_n hx hb dX12_keeps_52 rfl (lv_at hl 0 rfl) ?_
  refine lv_bipush (v := 28) hx hb dX12_keeps_53 (by decide) ?_
  refine lv_icmp_ge (tgt := 84) hx hb dX12_keeps_55 (by decide) (fun c1 => absurd c1 (by decide)) (fun _ => ?_)
  refine lv_aload_n hx hb dX12_keeps_58 rfl (lv_at hl 1 rfl) ?_
  refine f_12_19 F w (a := 146) rfl tb_134 dX12_keeps_59 ?_
  refine lv_bipush (v := 28) hx hb dX12_keeps_62 (by decide) ?_
  refine lv_aload_n hx hb dX12_keeps_64 rfl (lv_at hl 1 rfl) ?_
  refine f_12_20 F w (a := 146) rfl tb_283 dX12_keeps_65 ?_
  refine r_val (v := 0) (h0) ?_
  refine lv_imul hx hb dX12_keeps_68 ?_
  refine r_val (v := 0) (by decide) ?_
  refine lv_iload_n hx hb dX12_keeps_69 rfl (lv_at hl 0 rfl) ?_
  refine lv_iadd hx hb dX12_keeps_70 ?_
  refine r_val (v := 26) (by decide) ?_
  refine lv_aload_n hx hb dX12_keeps_71 rfl (lv_at hl 1 rfl) ?_
  refine f_12_1 F w (a := 146) rfl tb_126 dX12_keeps_72 ?_
  refine lv_iload_n hx hb dX12_keeps_75 rfl (lv_at hl 0 rfl) ?_
  refine g_iald F w (a := 147) rfl (j := 26) ⟨by decide, by decide⟩ (by decide) dX12_keeps_76 ?_
  refine r_val (v := 0) (h53) ?_
  refine g_iast F w (a := 155) rfl (j := 26) ⟨by decide, by decide⟩ (by decide) dX12_keeps_77 (fun H locs w => ?_)
  rw [st_same (h54)] at w
  refine lv_iinc (v := 27) (lv' := [(1, .int 27), (0, .ref (B + 146))]) hx hb dX12_keeps_78 hl (k := 0) rfl (by decide) (by decide) rfl (fun ls hl => ?_)
  refine lv_goto (tgt := 52) hx hb dX12_keeps_81 (by decide) ?_
  refine lv_iload_n hx hb dX12_keeps_52 rfl (lv_at hl 0 rfl) ?_
  refine lv_bipush (v := 28) hx hb dX12_keeps_53 (by decide) ?_
  refine lv_icmp_ge (tgt := 84) hx hb dX12_keeps_55 (by decide) (fun c1 => absurd c1 (by decide)) (fun _ => ?_)
  refine lv_aload_n hx hb dX12_keeps_58 rfl (lv_at hl 1 rfl) ?_
  refine f_12_19 F w (a := 146) rfl tb_134 dX12_keeps_59 ?_
  refine lv_bipush (v := 28) hx hb dX12_keeps_62 (by decide) ?_
  refine lv_aload_n hx hb dX12_keeps_64 rfl (lv_at hl 1 rfl) ?_
  refine f_12_20 F w (a := 146) rfl tb_283 dX12_keeps_65 ?_
  refine r_val (v := 0) (h0) ?_
  refine lv_imul hx hb dX12_keeps_68 ?_
  refine r_val (v := 0) (by decide) ?_
  refine lv_iload_n hx hb dX12_keeps_69 rfl (lv_at hl 0 rfl) ?_
  refine lv_iadd hx hb dX12_keeps_70 ?_
  refine r_val (v := 27) (by decide) ?_
  refine lv_aload_n hx hb dX12_keeps_71 rfl (lv_at hl 1 rfl) ?_
  refine f_12_1 F w (a := 146) rfl tb_126 dX12_keeps_72 ?_
  refine lv_iload_n hx hb dX12_keeps_75 rfl (lv_at hl 0 rfl) ?_
  refine g_iald F w (a := 147) rfl (j := 27) ⟨by decide, by decide⟩ (by decide) dX12_keeps_76 ?_
  refine r_val (v := 0) (h55) ?_
  refine g_iast F w (a := 155) rfl (j := 27) ⟨by decide, by decide⟩ (by decide) dX12_keeps_77 (fun H locs w => ?_)
  rw [st_same (h56)] at w
  refine lv_iinc (v := 28) (lv' := [(1, .int 28), (0, .ref (B + 146))]) hx hb dX12_keeps_78 hl (k := 0) rfl (by decide) (by decide) rfl (fun ls hl => ?_)
  refine lv_goto (tgt := 52) hx hb dX12_keeps_81 (by decide) ?_
  refine lv_iload_n hx hb dX12_keeps_52 rfl (lv_at hl 0 rfl) ?_
  refine lv_bipush (v := 28) hx hb dX12_keeps_53 (by decide) ?_
  refine lv_icmp_ge (tgt := 84) hx hb dX12_keeps_55 (by decide) (fun _ => ?_) (fun c1 => absurd c1 (by decide))
  refine lv_aload_n hx hb dX12_keeps_84 rfl (lv_at hl 1 rfl) ?_
  refine lv_dup hx hb dX12_keeps_85 rfl ?_
  refine f_12_20 F w (a := 146) rfl tb_283 dX12_keeps_86 ?_
  refine r_val (v := 0) (h0) ?_
  refine lv_iconst (v := 1) hx hb dX12_keeps_89 (by decide) ?_
  refine lv_iadd hx hb dX12_keeps_90 ?_
  refine r_val (v := 1) (by decide) ?_
  refine u_12_20 F w (a := 146) rfl tb_283 dX12_keeps_91 (fun H locs w => ?_)
  exact e_v F w hr hlocks rfl dX12_keeps_94
