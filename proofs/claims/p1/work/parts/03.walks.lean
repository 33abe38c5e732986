theorem goodIn_c2 {w : Cond} (h : w ∈ TB) : GoodIn TB (w :: TB) := fun v hv => (List.mem_cons.mp hv).elim (fun e => e ▸ TB_good w h) (fun h2 => TB_good v h2)
theorem goodIn_3 {a b c : Cond} {ws : List Cond} (ha : a ∈ TB) (hb : b ∈ TB) (hc : c ∈ TB) (h : GoodIn TB ws) : GoodIn TB ([a, b, c] ++ ws) := by
  intro v hv
  rcases List.mem_append.mp hv with hv | hv
  · simp only [List.mem_cons, List.not_mem_nil, or_false] at hv
    rcases hv with rfl | rfl | rfl
    · exact TB_good _ ha
    · exact TB_good _ hb
    · exact TB_good _ hc
  · exact h v hv
theorem goodIn_4 {a b c d : Cond} {ws : List Cond} (ha : a ∈ TB) (hb : b ∈ TB) (hc : c ∈ TB) (hd : d ∈ TB) (h : GoodIn TB ws) : GoodIn TB ([a, b, c, d] ++ ws) := by
  intro v hv
  rcases List.mem_append.mp hv with hv | hv
  · simp only [List.mem_cons, List.not_mem_nil, or_false] at hv
    rcases hv with rfl | rfl | rfl | rfl
    · exact TB_good _ ha
    · exact TB_good _ hb
    · exact TB_good _ hc
    · exact TB_good _ hd
  · exact h v hv
theorem dX11_feed_0 : decode cX11_feed 0 = .ok (.aload_n 0, 1) := by decide +kernel
theorem dX11_feed_1 : decode cX11_feed 1 = .ok (.getfield 12, 3) := by decide +kernel
theorem tb_0 : Cond.fieldLink "ToneLines" 12 "ToneLines" "tape" "LToneLines$Tape;" ∈ TB := tbm (tc2 (List.mem_of_getElem? (i := 57) rfl)) rfl
theorem dX11_feed_4 : decode cX11_feed 4 = .ok (.getfield 78, 3) := by decide +kernel
theorem tb_1 : Cond.fieldLink "ToneLines" 78 "ToneLines$Tape" "size" "I" ∈ TB := tbm (tc1 (List.mem_of_getElem? (i := 39) rfl)) rfl
theorem dX11_feed_7 : decode cX11_feed 7 = .ok (.bipush 20, 2) := by decide +kernel
theorem dX11_feed_9 : decode cX11_feed 9 = .ok (.iadd, 1) := by decide +kernel
theorem dX11_feed_10 : decode cX11_feed 10 = .ok (.sipush 300, 3) := by decide +kernel
theorem dX11_feed_13 : decode cX11_feed 13 = .ok (.if_icmp .le 5, 3) := by decide +kernel
theorem dX11_feed_18 : decode cX11_feed 18 = .ok (.aload_n 0, 1) := by decide +kernel
theorem dX11_feed_19 : decode cX11_feed 19 = .ok (.getfield 12, 3) := by decide +kernel
theorem dX11_feed_22 : decode cX11_feed 22 = .ok (.iload_n 1, 1) := by decide +kernel
theorem dX11_feed_23 : decode cX11_feed 23 = .ok (.invokevirtual 82, 3) := by decide +kernel
theorem dX8_append_0 : decode cX8_append 0 = .ok (.bipush 24, 2) := by decide +kernel
theorem dX8_append_2 : decode cX8_append 2 = .ok (.istore_n 2, 1) := by decide +kernel
theorem dX8_append_3 : decode cX8_append 3 = .ok (.iload_n 2, 1) := by decide +kernel
theorem dX8_append_4 : decode cX8_append 4 = .ok (.ifCond .lt 42, 3) := by decide +kernel
theorem dX8_append_7 : decode cX8_append 7 = .ok (.aload_n 0, 1) := by decide +kernel
theorem dX8_append_8 : decode cX8_append 8 = .ok (.getfield 15, 3) := by decide +kernel
theorem tb_2 : Cond.fieldLink "ToneLines$Tape" 15 "ToneLines$Tape" "size" "I" ∈ TB := tbm (tc1 (List.mem_of_getElem? (i := 38) rfl)) rfl
theorem dX8_append_11 : decode cX8_append 11 = .ok (.sipush 300, 3) := by decide +kernel
theorem dX8_append_14 : decode cX8_append 14 = .ok (.if_icmp .ge 32, 3) := by decide +kernel
theorem dX8_append_17 : decode cX8_append 17 = .ok (.aload_n 0, 1) := by decide +kernel
theorem dX8_append_18 : decode cX8_append 18 = .ok (.getfield 9, 3) := by decide +kernel
theorem tb_3 : Cond.fieldLink "ToneLines$Tape" 9 "ToneLines$Tape" "bytes" "[B" ∈ TB := tbm (tc1 (List.mem_of_getElem? (i := 37) rfl)) rfl
theorem dX8_append_21 : decode cX8_append 21 = .ok (.aload_n 0, 1) := by decide +kernel
theorem dX8_append_22 : decode cX8_append 22 = .ok (.getfield 15, 3) := by decide +kernel
theorem dX8_append_25 : decode cX8_append 25 = .ok (.iload_n 1, 1) := by decide +kernel
theorem dX8_append_26 : decode cX8_append 26 = .ok (.iload_n 2, 1) := by decide +kernel
theorem dX8_append_27 : decode cX8_append 27 = .ok (.ishr, 1) := by decide +kernel
theorem dX8_append_28 : decode cX8_append 28 = .ok (.i2b, 1) := by decide +kernel
theorem dX8_append_29 : decode cX8_append 29 = .ok (.bastore, 1) := by decide +kernel
theorem dX8_append_30 : decode cX8_append 30 = .ok (.aload_n 0, 1) := by decide +kernel
theorem dX8_append_31 : decode cX8_append 31 = .ok (.dup, 1) := by decide +kernel
theorem dX8_append_32 : decode cX8_append 32 = .ok (.getfield 15, 3) := by decide +kernel
theorem dX8_append_35 : decode cX8_append 35 = .ok (.iconst 1, 1) := by decide +kernel
theorem dX8_append_36 : decode cX8_append 36 = .ok (.iadd, 1) := by decide +kernel
theorem dX8_append_37 : decode cX8_append 37 = .ok (.putfield 15, 3) := by decide +kernel
theorem dX8_append_40 : decode cX8_append 40 = .ok (.iinc 2 (-8), 3) := by decide +kernel
theorem dX8_append_43 : decode cX8_append 43 = .ok (.goto (-40), 3) := by decide +kernel
theorem dX8_append_46 : decode cX8_append 46 = .ok (.return_, 1) := by decide +kernel
set_option maxRecDepth 4000 in
theorem c_X8_append_1 {l : Launch} {D : va_G} {B : Nat} {cy : Nat → ClassId} {M : Mem} {p1 : Int32} (h0 : M.1 1 1 = 0) : Cv l D B cy yX8_append cX8_append 3 0 0 [.ref (B + 1), .int p1] M (fun M1 => M1 = (st (st (st (st (st (st (st (st M 2 0 ((vp_nar .byte ((p1 >>> (24 &&& 31)).toInt8.toInt32)))) 1 1 1) 2 1 ((vp_nar .byte ((p1 >>> (16 &&& 31)).toInt8.toInt32)))) 1 1 2) 2 2 ((vp_nar .byte ((p1 >>> (8 &&& 31)).toInt8.toInt32)))) 1 1 3) 2 3 ((vp_nar .byte ((p1 >>> (0 &&& 31)).toInt8.toInt32)))) 1 1 4)) := by
  refine s_any (by decide) (Nat.le_of_ble_eq_true rfl) ?_
  intro p e s m below meth c ls F hr hlocks w hl
  have F : CallFix p m c cX8_append 3 s _ TB RX8 := F
  have hx := F.1
  have hb := F.2.1
  have hl : lv_has ls 3 [(0, .ref (B + 1)), (1, .int p1)] := hl
  refine lv_bipush (v := 24) hx hb dX8_append_0 (by decide) ?_
  refine lv_istore_n (lv' := [(2, .int 24), (0, .ref (B + 1)), (1, .int p1)]) hx hb dX8_append_2 rfl hl (by decide) rfl (fun ls hl => ?_)
  refine lv_iload_n hx hb dX8_append_3 rfl (lv_at hl 0 rfl) ?_
  refine lv_if_lt (tgt := 46) hx hb dX8_append_4 (by decide) (fun c1 => absurd c1 (by decide)) (fun _ => ?_)
  refine lv_aload_n hx hb dX8_append_7 rfl (lv_at hl 1 rfl) ?_
  refine f_8_1 F w (a := 1) rfl tb_2 dX8_append_8 ?_
  refine r_val (v := 0) (h0) ?_
  refine lv_sipush (v := 300) hx hb dX8_append_11 (by decide) ?_
  refine lv_icmp_ge (tgt := 46) hx hb dX8_append_14 (by decide) (fun c1 => absurd c1 (by decide)) (fun _ => ?_)
  refine lv_aload_n hx hb dX8_append_17 rfl (lv_at hl 1 rfl) ?_
  refine f_8_0 F w (a := 1) rfl tb_3 dX8_append_18 ?_
  refine lv_aload_n hx hb dX8_append_21 rfl (lv_at hl 1 rfl) ?_
  refine f_8_1 F w (a := 1) rfl tb_2 dX8_append_22 ?_
  refine r_val (v := 0) (h0) ?_
  refine lv_iload_n hx hb dX8_append_25 rfl (lv_at hl 2 rfl) ?_
  refine lv_iload_n hx hb dX8_append_26 rfl (lv_at hl 0 rfl) ?_
  refine lv_ishr hx hb dX8_append_27 ?_
  refine lv_i2b (v := ((p1 >>> (24 &&& 31)).toInt8.toInt32)) hx hb dX8_append_28 rfl ?_
  refine g_bast F w (a := 2) rfl (j := 0) ⟨by decide, by decide⟩ (by decide) dX8_append_29 (fun H locs w => ?_)
  refine lv_aload_n hx hb dX8_append_30 rfl (lv_at hl 1 rfl) ?_
  refine lv_dup hx hb dX8_append_31 rfl ?_
  refine f_8_1 F w (a := 1) rfl tb_2 dX8_append_32 ?_
  refine r_val (v := 0) ((st_ne (by decide)).trans h0) ?_
  refine lv_iconst (v := 1) hx hb dX8_append_35 (by decide) ?_
  refine lv_iadd hx hb dX8_append_36 ?_
  refine r_val (v := 1) (by decide) ?_
  refine u_8_1 F w (a := 1) rfl tb_2 dX8_append_37 (fun H locs w => ?_)
  refine lv_iinc (v := 16) (lv' := [(2, .int 16), (0, .ref (B + 1)), (1, .int p1)]) hx hb dX8_append_40 hl (k := 0) rfl (by decide) (by decide) rfl (fun ls hl => ?_)
  refine lv_goto (tgt := 3) hx hb dX8_append_43 (by decide) ?_
  refine lv_iload_n hx hb dX8_append_3 rfl (lv_at hl 0 rfl) ?_
  refine lv_if_lt (tgt := 46) hx hb dX8_append_4 (by decide) (fun c1 => absurd c1 (by decide)) (fun _ => ?_)
  refine lv_aload_n hx hb dX8_append_7 rfl (lv_at hl 1 rfl) ?_
  refine f_8_1 F w (a := 1) rfl tb_2 dX8_append_8 ?_
  refine r_val (v := 1) (st_at) ?_
  refine lv_sipush (v := 300) hx hb dX8_append_11 (by decide) ?_
  refine lv_icmp_ge (tgt := 46) hx hb dX8_append_14 (by decide) (fun c1 => absurd c1 (by decide)) (fun _ => ?_)
  refine lv_aload_n hx hb dX8_append_17 rfl (lv_at hl 1 rfl) ?_
  refine f_8_0 F w (a := 1) rfl tb_3 dX8_append_18 ?_
  refine lv_aload_n hx hb dX8_append_21 rfl (lv_at hl 1 rfl) ?_
  refine f_8_1 F w (a := 1) rfl tb_2 dX8_append_22 ?_
  refine r_val (v := 1) (st_at) ?_
  refine lv_iload_n hx hb dX8_append_25 rfl (lv_at hl 2 rfl) ?_
  refine lv_iload_n hx hb dX8_append_26 rfl (lv_at hl 0 rfl) ?_
  refine lv_ishr hx hb dX8_append_27 ?_
  refine lv_i2b (v := ((p1 >>> (16 &&& 31)).toInt8.toInt32)) hx hb dX8_append_28 rfl ?_
  refine g_bast F w (a := 2) rfl (j := 1) ⟨by decide, by decide⟩ (by decide) dX8_append_29 (fun H locs w => ?_)
  refine lv_aload_n hx hb dX8_append_30 rfl (lv_at hl 1 rfl) ?_
  refine lv_dup hx hb dX8_append_31 rfl ?_
  refine f_8_1 F w (a := 1) rfl tb_2 dX8_append_32 ?_
  refine r_val (v := 1) ((st_ne (by decide)).trans st_at) ?_
  refine lv_iconst (v := 1) hx hb dX8_append_35 (by decide) ?_
  refine lv_iadd hx hb dX8_append_36 ?_
  refine r_val (v := 2) (by decide) ?_
  refine u_8_1 F w (a := 1) rfl tb_2 dX8_append_37 (fun H locs w => ?_)
  refine lv_iinc (v := 8) (lv' := [(2, .int 8), (0, .ref (B + 1)), (1, .int p1)]) hx hb dX8_append_40 hl (k := 0) rfl (by decide) (by decide) rfl (fun ls hl => ?_)
  refine lv_goto (tgt := 3) hx hb dX8_append_43 (by decide) ?_
  refine lv_iload_n hx hb dX8_append_3 rfl (lv_at hl 0 rfl) ?_
  refine lv_if_lt (tgt := 46) hx hb dX8_append_4 (by decide) (fun c1 => absurd c1 (by decide)) (fun _ => ?_)
  refine lv_aload_n hx hb dX8_append_7 rfl (lv_at hl 1 rfl) ?_
  refine f_8_1 F w (a := 1) rfl tb_2 dX8_append_8 ?_
  refine r_val (v := 2) (st_at) ?_
  refine lv_sipush (v := 300) hx hb dX8_append_11 (by decide) ?_
  refine lv_icmp_ge (tgt := 46) hx hb dX8_append_14 (by decide) (fun c1 => absurd c1 (by decide)) (fun _ => ?_)
  refine lv_aload_n hx hb dX8_append_17 rfl (lv_at hl 1 rfl) ?_
  refine f_8_0 F w (a := 1) rfl tb_3 dX8_append_18 ?_
  refine lv_aload_n hx hb dX8_append_21 rfl (lv_at hl 1 rfl) ?_
  refine f_8_1 F w (a := 1) rfl tb_2 dX8_append_22 ?_
  refine r_val (v := 2) (st_at) ?_
  refine lv_iload_n hx hb dX8_append_25 rfl (lv_at hl 2 rfl) ?_
  refine lv_iload_n hx hb dX8_append_26 rfl (lv_at hl 0 rfl) ?_
  refine lv_ishr hx hb dX8_append_27 ?_
  refine lv_i2b (v := ((p1 >>> (8 &&& 31)).toInt8.toInt32)) hx hb dX8_append_28 rfl ?_
  refine g_bast F w (a := 2) rfl (j := 2) ⟨by decide, by decide⟩ (by decide) dX8_append_29 (fun H locs w => ?_)
  refine lv_aload_n hx hb dX8_append_30 rfl (lv_at hl 1 rfl) ?_
  refine lv_dup hx hb dX8_append_31 rfl ?_
  refine f_8_1 F w (a := 1) rfl tb_2 dX8_append_32 ?_
  refine r_val (v := 2) ((st_ne (by decide)).trans st_at) ?_
  refine lv_iconst (v := 1) hx hb dX8_append_35 (by decide) ?_
  refine lv_iadd hx hb dX8_append_36 ?_
  refine r_val (v := 3) (by decide) ?_
  refine u_8_1 F w (a := 1) rfl tb_2 dX8_append_37 (fun H locs w => ?_)
  refine lv_iinc (v := 0) (lv' := [(2, .int 0), (0, .ref (B + 1)), (1, .int p1)]) hx hb dX8_append_40 hl (k := 0) rfl (by decide) (by decide) rfl (fun ls hl => ?_)
  refine lv_goto (tgt := 3) hx hb dX8_append_43 (by decide) ?_
  refine lv_iload_n hx hb dX8_append_3 rfl (lv_at hl 0 rfl) ?_
  refine lv_if_lt (tgt := 46) hx hb dX8_append_4 (by decide) (fun c1 => absurd c1 (by decide)) (fun _ => ?_)
  refine lv_aload_n hx hb dX8_append_7 rfl (lv_at hl 1 rfl) ?_
  refine f_8_1 F w (a := 1) rfl tb_2 dX8_append_8 ?_
  refine r_val (v := 3) (st_at) ?_
  refine lv_sipush (v := 300) hx hb dX8_append_11 (by decide) ?_
  refine lv_icmp_ge (tgt := 46) hx hb dX8_append_14 (by decide) (fun c1 => absurd c1 (by decide)) (fun _ => ?_)
  refine lv_aload_n hx hb dX8_append_17 rfl (lv_at hl 1 rfl) ?_
  refine f_8_0 F w (a := 1) rfl tb_3 dX8_append_18 ?_
  refine lv_aload_n hx hb dX8_append_21 rfl (lv_at hl 1 rfl) ?_
  refine f_8_1 F w (a := 1) rfl tb_2 dX8_append_22 ?_
  refine r_val (v := 3) (st_at) ?_
  refine lv_iload_n hx hb dX8_append_25 rfl (lv_at hl 2 rfl) ?_
  refine lv_iload_n hx hb dX8_append_26 rfl (lv_at hl 0 rfl) ?_
  refine lv_ishr hx hb dX8_append_27 ?_
  refine lv_i2b (v := ((p1 >>> (0 &&& 31)).toInt8.toInt32)) hx hb dX8_append_28 rfl ?_
  refine g_bast F w (a := 2) rfl (j := 3) ⟨by decide, by decide⟩ (by decide) dX8_append_29 (fun H locs w => ?_)
  refine lv_aload_n hx hb dX8_append_30 rfl (lv_at hl 1 rfl) ?_
  refine lv_dup hx hb dX8_append_31 rfl ?_
  refine f_8_1 F w (a := 1) rfl tb_2 dX8_append_32 ?_
  refine r_val (v := 3) ((st_ne (by decide)).trans st_at) ?_
  refine lv_iconst (v := 1) hx hb dX8_append_35 (by decide) ?_
  refine lv_iadd hx hb dX8_append_36 ?_
  refine r_val (v := 4) (by decide) ?_
  refine u_8_1 F w (a := 1) rfl tb_2 dX8_append_37 (fun H locs w => ?_)
  refine lv_iinc (v := (-8)) (lv' := [(2, .int (-8)), (0, .ref (B + 1)), (1, .int p1)]) hx hb dX8_append_40 hl (k := 0) rfl (by decide) (by decide) rfl (fun ls hl => ?_)
  refine lv_goto (tgt := 3) hx hb dX8_append_43 (by decide) ?_
  refine lv_iload_n hx hb dX8_append_3 rfl (lv_at hl 0 rfl) ?_
  refine lv_if_lt (tgt := 46) hx hb dX8_append_4 (by decide) (fun _ => ?_) (fun c1 => absurd c1 (by decide))
  exact e_v F w hr hlocks rfl dX8_append_46
theorem tk_X8_append : Cond.code yX8_append cX8_append 3 none ∈ TB := tbm (tc2 (List.mem_of_getElem? (i := 95) rfl)) rfl
theorem gc_X8_append : GoodIn TB (cw yX8_append cX8_append 3 none) := goodIn_c2 tk_X8_append
theorem tb_4 : Cond.methodLink "ToneLines" 82 yX8_append ∈ TB := tbm (tc2 (List.mem_of_getElem? (i := 92) rfl)) rfl
theorem tb_5 : Cond.instanceMethod yX8_append ∈ TB := tbm (tc2 (List.mem_of_getElem? (i := 93) rfl)) rfl
theorem tb_6 : Cond.selects "ToneLines$Tape" yX8_append yX8_append ∈ TB := tbm (tc2 (List.mem_of_getElem? (i := 94) rfl)) rfl
theorem tb_7 : Cond.initialized "ToneLines$Tape" ∈ TB := tbm (tc1 (List.mem_of_getElem? (i := 2) rfl)) rfl
theorem gv_X11_82 : GoodIn TB (wsV RX11 82 RX8 yX8_append (cw yX8_append cX8_append 3 none)) := goodIn_4 tb_4 tb_5 tb_6 tb_7 gc_X8_append
theorem hv_X8_append : yX8_append.cls = RX8 ∧ yX8_append.cls ≠ "java/lang/invoke/MethodHandle" ∧ yX8_append.cls ≠ "java/lang/invoke/VarHandle" ∧ (parseMethodDescriptor yX8_append.desc).map (fun d => d.parameters.length) = some 1 := by decide +kernel
theorem dX11_feed_26 : decode cX11_feed 26 = .ok (.aload_n 0, 1) := by decide +kernel
theorem dX11_feed_27 : decode cX11_feed 27 = .ok (.getfield 12, 3) := by decide +kernel
theorem dX11_feed_30 : decode cX11_feed 30 = .ok (.iload_n 2, 1) := by decide +kernel
theorem dX11_feed_31 : decode cX11_feed 31 = .ok (.invokevirtual 82, 3) := by decide +kernel
set_option maxRecDepth 4000 in
theorem c_X8_append_2 {l : Launch} {D : va_G} {B : Nat} {cy : Nat → ClassId} {M : Mem} {p1 : Int32} (h0 : M.1 1 1 = 4) : Cv l D B cy yX8_append cX8_append 3 0 0 [.ref (B + 1), .int p1] M (fun M1 => M1 = (st (st (st (st (st (st (st (st M 2 4 ((vp_nar .byte ((p1 >>> (24 &&& 31)).toInt8.toInt32)))) 1 1 5) 2 5 ((vp_nar .byte ((p1 >>> (16 &&& 31)).toInt8.toInt32)))) 1 1 6) 2 6 ((vp_nar .byte ((p1 >>> (8 &&& 31)).toInt8.toInt32)))) 1 1 7) 2 7 ((vp_nar .byte ((p1 >>> (0 &&& 31)).toInt8.toInt32)))) 1 1 8)) := by
  refine s_any (by decide) (Nat.le_of_ble_eq_true rfl) ?_
  intro p e s m below meth c ls F hr hlocks w hl
  have F : CallFix p m c cX8_append 3 s _ TB RX8 := F
  have hx := F.1
  have hb := F.2.1
  have hl : lv_has ls 3 [(0, .ref (B + 1)), (1, .int p1)] := hl
  refine lv_bipush (v := 24) hx hb dX8_append_0 (by decide) ?_
  refine lv_istore_n (lv' := [(2, .int 24), (0, .ref (B + 1)), (1, .int p1)]) hx hb dX8_append_2 rfl hl (by decide) rfl (fun ls hl => ?_)
  refine lv_iload_n hx hb dX8_append_3 rfl (lv_at hl 0 rfl) ?_
  refine lv_if_lt (tgt := 46) hx hb dX8_append_4 (by decide) (fun c1 => absurd c1 (by decide)) (fun _ => ?_)
  refine lv_aload_n hx hb dX8_append_7 rfl (lv_at hl 1 rfl) ?_
  refine f_8_1 F w (a := 1) rfl tb_2 dX8_append_8 ?_
  refine r_val (v := 4) (h0) ?_
  refine lv_sipush (v := 300) hx hb dX8_append_11 (by decide) ?_
  refine lv_icmp_ge (tgt := 46) hx hb dX8_append_14 (by decide) (fun c1 => absurd c1 (by decide)) (fun _ => ?_)
  refine lv_aload_n hx hb dX8_append_17 rfl (lv_at hl 1 rfl) ?_
  refine f_8_0 F w (a := 1) rfl tb_3 dX8_append_18 ?_
  refine lv_aload_n hx hb dX8_append_21 rfl (lv_at hl 1 rfl) ?_
  refine f_8_1 F w (a := 1) rfl tb_2 dX8_append_22 ?_
  refine r_val (v := 4) (h0) ?_
  refine lv_iload_n hx hb dX8_append_25 rfl (lv_at hl 2 rfl) ?_
  refine lv_iload_n hx hb dX8_append_26 rfl (lv_at hl 0 rfl) ?_
  refine lv_ishr hx hb dX8_append_27 ?_
  refine lv_i2b (v := ((p1 >>> (24 &&& 31)).toInt8.toInt32)) hx hb dX8_append_28 rfl ?_
  refine g_bast F w (a := 2) rfl (j := 4) ⟨by decide, by decide⟩ (by decide) dX8_append_29 (fun H locs w => ?_)
  refine lv_aload_n hx hb dX8_append_30 rfl (lv_at hl 1 rfl) ?_
  refine lv_dup hx hb dX8_append_31 rfl ?_
  refine f_8_1 F w (a := 1) rfl tb_2 dX8_append_32 ?_
  refine r_val (v := 4) ((st_ne (by decide)).trans h0) ?_
  refine lv_iconst (v := 1) hx hb dX8_append_35 (by decide) ?_
  refine lv_iadd hx hb dX8_append_36 ?_
  refine r_val (v := 5) (by decide) ?_
  refine u_8_1 F w (a := 1) rfl tb_2 dX8_append_37 (fun H locs w => ?_)
  refine lv_iinc (v := 16) (lv' := [(2, .int 16), (0, .ref (B + 1)), (1, .int p1)]) hx hb dX8_append_40 hl (k := 0) rfl (by decide) (by decide) rfl (fun ls hl => ?_)
  refine lv_goto (tgt := 3) hx hb dX8_append_43 (by decide) ?_
  refine lv_iload_n hx hb dX8_append_3 rfl (lv_at hl 0 rfl) ?_
  refine lv_if_lt (tgt := 46) hx hb dX8_append_4 (by decide) (fun c1 => absurd c1 (by decide)) (fun _ => ?_)
  refine lv_aload_n hx hb dX8_append_7 rfl (lv_at hl 1 rfl) ?_
  refine f_8_1 F w (a := 1) rfl tb_2 dX8_append_8 ?_
  refine r_val (v := 5) (st_at) ?_
  refine lv_sipush (v := 300) hx hb dX8_append_11 (by decide) ?_
  refine lv_icmp_ge (tgt := 46) hx hb dX8_append_14 (by decide) (fun c1 => absurd c1 (by decide)) (fun _ => ?_)
  refine lv_aload_n hx hb dX8_append_17 rfl (lv_at hl 1 rfl) ?_
  refine f_8_0 F w (a := 1) rfl tb_3 dX8_append_18 ?_
  refine lv_aload_n hx hb dX8_append_21 rfl (lv_at hl 1 rfl) ?_
  refine f_8_1 F w (a := 1) rfl tb_2 dX8_append_22 ?_
  refine r_val (v := 5) (st_at) ?_
  refine lv_iload_n hx hb dX8_append_25 rfl (lv_at hl 2 rfl) ?_
  refine lv_iload_n hx hb dX8_append_26 rfl (lv_at hl 0 rfl) ?_
  refine lv_ishr hx hb dX8_append_27 ?_
  refine lv_i2b (v := ((p1 >>> (16 &&& 31)).toInt8.toInt32)) hx hb dX8_append_28 rfl ?_
  refine g_bast F w (a := 2) rfl (j := 5) ⟨by decide, by decide⟩ (by decide) dX8_append_29 (fun H locs w => ?_)
  refine lv_aload_n hx hb dX8_append_30 rfl (lv_at hl 1 rfl) ?_
  refine lv_dup hx hb dX8_append_31 rfl ?_
  refine f_8_1 F w (a := 1) rfl tb_2 dX8_append_32 ?_
  refine r_val (v := 5) ((st_ne (by decide)).trans st_at) ?_
  refine lv_iconst (v := 1) hx hb dX8_append_35 (by decide) ?_
  refine lv_iadd hx hb dX8_append_36 ?_
  refine r_val (v := 6) (by decide) ?_
  refine u_8_1 F w (a := 1) rfl tb_2 dX8_append_37 (fun H locs w => ?_)
  refine lv_iinc (v := 8) (lv' := [(2, .int 8), (0, .ref (B + 1)), (1, .int p1)]) hx hb dX8_append_40 hl (k := 0) rfl (by decide) (by decide) rfl (fun ls hl => ?_)
  refine lv_goto (tgt := 3) hx hb dX8_append_43 (by decide) ?_
  refine lv_iload_n hx hb dX8_append_3 rfl (lv_at hl 0 rfl) ?_
  refine lv_if_lt (tgt := 46) hx hb dX8_append_4 (by decide) (fun c1 => absurd c1 (by decide)) (fun _ => ?_)
  refine lv_aload_n hx hb dX8_append_7 rfl (lv_at hl 1 rfl) ?_
  refine f_8_1 F w (a := 1) rfl tb_2 dX8_append_8 ?_
  refine r_val (v := 6) (st_at) ?_
  refine lv_sipush (v := 300) hx hb dX8_append_11 (by decide) ?_
  refine lv_icmp_ge (tgt := 46) hx hb dX8_append_14 (by decide) (fun c1 => absurd c1 (by decide)) (fun _ => ?_)
  refine lv_aload_n hx hb dX8_append_17 rfl (lv_at hl 1 rfl) ?_
  refine f_8_0 F w (a := 1) rfl tb_3 dX8_append_18 ?_
  refine lv_aload_n hx hb dX8_append_21 rfl (lv_at hl 1 rfl) ?_
  refine f_8_1 F w (a := 1) rfl tb_2 dX8_append_22 ?_
  refine r_val (v := 6) (st_at) ?_
  refine lv_iload_n hx hb dX8_append_25 rfl (lv_at hl 2 rfl) ?_
  refine lv_iload_n hx hb dX8_append_26 rfl (lv_at hl 0 rfl) ?_
  refine lv_ishr hx hb dX8_append_27 ?_
  refine lv_i2b (v := ((p1 >>> (8 &&& 31)).toInt8.toInt32)) hx hb dX8_append_28 rfl ?_
  refine g_bast F w (a := 2) rfl (j := 6) ⟨by decide, by decide⟩ (by decide) dX8_append_29 (fun H locs w => ?_)
  refine lv_aload_n hx hb dX8_append_30 rfl (lv_at hl 1 rfl) ?_
  refine lv_dup hx hb dX8_append_31 rfl ?_
  refine f_8_1 F w (a := 1) rfl tb_2 dX8_append_32 ?_
  refine r_val (v := 6) ((st_ne (by decide)).trans st_at) ?_
  refine lv_iconst (v := 1) hx hb dX8_append_35 (by decide) ?_
  refine lv_iadd hx hb dX8_append_36 ?_
  refine r_val (v := 7) (by decide) ?_
  refine u_8_1 F w (a := 1) rfl tb_2 dX8_append_37 (fun H locs w => ?_)
  refine lv_iinc (v := 0) (lv' := [(2, .int 0), (0, .ref (B + 1)), (1, .int p1)]) hx hb dX8_append_40 hl (k := 0) rfl (by decide) (by decide) rfl (fun ls hl => ?_)
  refine lv_goto (tgt := 3) hx hb dX8_append_43 (by decide) ?_
  refine lv_iload_n hx hb dX8_append_3 rfl (lv_at hl 0 rfl) ?_
  refine lv_if_lt (tgt := 46) hx hb dX8_append_4 (by decide) (fun c1 => absurd c1 (by decide)) (fun _ => ?_)
  refine lv_aload_n hx hb dX8_append_7 rfl (lv_at hl 1 rfl) ?_
  refine f_8_1 F w (a := 1) rfl tb_2 dX8_append_8 ?_
  refine r_val (v := 7) (st_at) ?_
  refine lv_sipush (v := 300) hx hb dX8_append_11 (by decide) ?_
  refine lv_icmp_ge (tgt := 46) hx hb dX8_append_14 (by decide) (fun c1 => absurd c1 (by decide)) (fun _ => ?_)
  refine lv_aload_n hx hb dX8_append_17 rfl (lv_at hl 1 rfl) ?_
  refine f_8_0 F w (a := 1) rfl tb_3 dX8_append_18 ?_
  refine lv_aload_n hx hb dX8_append_21 rfl (lv_at hl 1 rfl) ?_
  refine f_8_1 F w (a := 1) rfl tb_2 dX8_append_22 ?_
  refine r_val (v := 7) (st_at) ?_
  refine lv_iload_n hx hb dX8_append_25 rfl (lv_at hl 2 rfl) ?_
  refine lv_iload_n hx hb dX8_append_26 rfl (lv_at hl 0 rfl) ?_
  refine lv_ishr hx hb dX8_append_27 ?_
  refine lv_i2b (v := ((p1 >>> (0 &&& 31)).toInt8.toInt32)) hx hb dX8_append_28 rfl ?_
  refine g_bast F w (a := 2) rfl (j := 7) ⟨by decide, by decide⟩ (by decide) dX8_append_29 (fun H locs w => ?_)
  refine lv_aload_n hx hb dX8_append_30 rfl (lv_at hl 1 rfl) ?_
  refine lv_dup hx hb dX8_append_31 rfl ?_
  refine f_8_1 F w (a := 1) rfl tb_2 dX8_append_32 ?_
  refine r_val (v := 7) ((st_ne (by decide)).trans st_at) ?_
  refine lv_iconst (v := 1) hx hb dX8_append_35 (by decide) ?_
  refine lv_iadd hx hb dX8_append_36 ?_
  refine r_val (v := 8) (by decide) ?_
  refine u_8_1 F w (a := 1) rfl tb_2 dX8_append_37 (fun H locs w => ?_)
  refine lv_iinc (v := (-8)) (lv' := [(2, .int (-8)), (0, .ref (B + 1)), (1, .int p1)]) hx hb dX8_append_40 hl (k := 0) rfl (by decide) (by decide) rfl (fun ls hl => ?_)
  refine lv_goto (tgt := 3) hx hb dX8_append_43 (by decide) ?_
  refine lv_iload_n hx hb dX8_append_3 rfl (lv_at hl 0 rfl) ?_
  refine lv_if_lt (tgt := 46) hx hb dX8_append_4 (by decide) (fun _ => ?_) (fun c1 => absurd c1 (by decide))
  exact e_v F w hr hlocks rfl dX8_append_46
theorem dX11_feed_34 : decode cX11_feed 34 = .ok (.aload_n 0, 1) := by decide +kernel
theorem dX11_feed_35 : decode cX11_feed 35 = .ok (.getfield 12, 3) := by decide +kernel
theorem dX11_feed_38 : decode cX11_feed 38 = .ok (.iload_n 3, 1) := by decide +kernel
theorem dX11_feed_39 : decode cX11_feed 39 = .ok (.invokevirtual 82, 3) := by decide +kernel
set_option maxRecDepth 4000 in
theorem c_X8_append_3 {l : Launch} {D : va_G} {B : Nat} {cy : Nat → ClassId} {M : Mem} {p1 : Int32} (h0 : M.1 1 1 = 8) : Cv l D B cy yX8_append cX8_append 3 0 0 [.ref (B + 1), .int p1] M (fun M1 => M1 = (st (st (st (st (st (st (st (st M 2 8 ((vp_nar .byte ((p1 >>> (24 &&& 31)).toInt8.toInt32)))) 1 1 9) 2 9 ((vp_nar .byte ((p1 >>> (16 &&& 31)).toInt8.toInt32)))) 1 1 10) 2 10 ((vp_nar .byte ((p1 >>> (8 &&& 31)).toInt8.toInt32)))) 1 1 11) 2 11 ((vp_nar .byte ((p1 >>> (0 &&& 31)).toInt8.toInt32)))) 1 1 12)) := by
  refine s_any (by decide) (Nat.le_of_ble_eq_true rfl) ?_
  intro p e s m below meth c ls F hr hlocks w hl
  have F : CallFix p m c cX8_append 3 s _ TB RX8 := F
  have hx := F.1
  have hb := F.2.1
  have hl : lv_has ls 3 [(0, .ref (B + 1)), (1, .int p1)] := hl
  refine lv_bipush (v := 24) hx hb dX8_append_0 (by decide) ?_
  refine lv_istore_n (lv' := [(2, .int 24), (0, .ref (B + 1)), (1, .int p1)]) hx hb dX8_append_2 rfl hl (by decide) rfl (fun ls hl => ?_)
  refine lv_iload_n hx hb dX8_append_3 rfl (lv_at hl 0 rfl) ?_
  refine lv_if_lt (tgt := 46) hx hb dX8_append_4 (by decide) (fun c1 => absurd c1 (by decide)) (fun _ => ?_)
  refine lv_aload_n hx hb dX8_append_7 rfl (lv_at hl 1 rfl) ?_
  refine f_8_1 F w (a := 1) rfl tb_2 dX8_append_8 ?_
  refine r_val (v := 8) (h0) ?_
  refine lv_sipush (v := 300) hx hb dX8_append_11 (by decide) ?_
  refine lv_icmp_ge (tgt := 46) hx hb dX8_append_14 (by decide) (fun c1 => absurd c1 (by decide)) (fun _ => ?_)
  refine lv_aload_n hx hb dX8_append_17 rfl (lv_at hl 1 rfl) ?_
  refine f_8_0 F w (a := 1) rfl tb_3 dX8_append_18 ?_
  refine lv_aload_n hx hb dX8_append_21 rfl (lv_at hl 1 rfl) ?_
  refine f_8_1 F w (a := 1) rfl tb_2 dX8_append_22 ?_
  refine r_val (v := 8) (h0) ?_
  refine lv_iload_n hx hb dX8_append_25 rfl (lv_at hl 2 rfl) ?_
  refine lv_iload_n hx hb dX8_append_26 rfl (lv_at hl 0 rfl) ?_
  refine lv_ishr hx hb dX8_append_27 ?_
  refine lv_i2b (v := ((p1 >>> (24 &&& 31)).toInt8.toInt32)) hx hb dX8_append_28 rfl ?_
  refine g_bast F w (a := 2) rfl (j := 8) ⟨by decide, by decide⟩ (by decide) dX8_append_29 (fun H locs w => ?_)
  refine lv_aload_n hx hb dX8_append_30 rfl (lv_at hl 1 rfl) ?_
  refine lv_dup hx hb dX8_append_31 rfl ?_
  refine f_8_1 F w (a := 1) rfl tb_2 dX8_append_32 ?_
  refine r_val (v := 8) ((st_ne (by decide)).trans h0) ?_
  refine lv_iconst (v := 1) hx hb dX8_append_35 (by decide) ?_
  refine lv_iadd hx hb dX8_append_36 ?_
  refine r_val (v := 9) (by decide) ?_
  refine u_8_1 F w (a := 1) rfl tb_2 dX8_append_37 (fun H locs w => ?_)
  refine lv_iinc (v := 16) (lv' := [(2, .int 16), (0, .ref (B + 1)), (1, .int p1)]) hx hb dX8_append_40 hl (k := 0) rfl (by decide) (by decide) rfl (fun ls hl => ?_)
  refine lv_goto (tgt := 3) hx hb dX8_append_43 (by decide) ?_
  refine lv_iload_n hx hb dX8_append_3 rfl (lv_at hl 0 rfl) ?_
  refine lv_if_lt (tgt := 46) hx hb dX8_append_4 (by decide) (fun c1 => absurd c1 (by decide)) (fun _ => ?_)
  refine lv_aload_n hx hb dX8_append_7 rfl (lv_at hl 1 rfl) ?_
  refine f_8_1 F w (a := 1) rfl tb_2 dX8_append_8 ?_
  refine r_val (v := 9) (st_at) ?_
  refine lv_sipush (v := 300) hx hb dX8_append_11 (by decide) ?_
  refine lv_icmp_ge (tgt := 46) hx hb dX8_append_14 (by decide) (fun c1 => absurd c1 (by decide)) (fun _ => ?_)
  refine lv_aload_n hx hb dX8_append_17 rfl (lv_at hl 1 rfl) ?_
  refine f_8_0 F w (a := 1) rfl tb_3 dX8_append_18 ?_
  refine lv_aload_n hx hb dX8_append_21 rfl (lv_at hl 1 rfl) ?_
  refine f_8_1 F w (a := 1) rfl tb_2 dX8_append_22 ?_
  refine r_val (v := 9) (st_at) ?_
  refine lv_iload_n hx hb dX8_append_25 rfl (lv_at hl 2 rfl) ?_
  refine lv_iload_n hx hb dX8_append_26 rfl (lv_at hl 0 rfl) ?_
  refine lv_ishr hx hb dX8_append_27 ?_
  refine lv_i2b (v := ((p1 >>> (16 &&& 31)).toInt8.toInt32)) hx hb dX8_append_28 rfl ?_
  refine g_bast F w (a := 2) rfl (j := 9) ⟨by decide, by decide⟩ (by decide) dX8_append_29 (fun H locs w => ?_)
  refine lv_aload_n hx hb dX8_append_30 rfl (lv_at hl 1 rfl) ?_
  refine lv_dup hx hb dX8_append_31 rfl ?_
  refine f_8_1 F w (a := 1) rfl tb_2 dX8_append_32 ?_
  refine r_val (v := 9) ((st_ne (by decide)).trans st_at) ?_
  refine lv_iconst (v := 1) hx hb dX8_append_35 (by decide) ?_
  refine lv_iadd hx hb dX8_append_36 ?_
  refine r_val (v := 10) (by decide) ?_
  refine u_8_1 F w (a := 1) rfl tb_2 dX8_append_37 (fun H locs w => ?_)
  refine lv_iinc (v := 8) (lv' := [(2, .int 8), (0, .ref (B + 1)), (1, .int p1)]) hx hb dX8_append_40 hl (k := 0) rfl (by decide) (by decide) rfl (fun ls hl => ?_)
  refine lv_goto (tgt := 3) hx hb dX8_append_43 (by decide) ?_
  refine lv_iload_n hx hb dX8_append_3 rfl (lv_at hl 0 rfl) ?_
  refine lv_if_lt (tgt := 46) hx hb dX8_append_4 (by decide) (fun c1 => absurd c1 (by decide)) (fun _ => ?_)
  refine lv_aload_n hx hb dX8_append_7 rfl (lv_at hl 1 rfl) ?_
  refine f_8_1 F w (a := 1) rfl tb_2 dX8_append_8 ?_
  refine r_val (v := 10) (st_at) ?_
  refine lv_sipush (v := 300) hx hb dX8_append_11 (by decide) ?_
  refine lv_icmp_ge (tgt := 46) hx hb dX8_append_14 (by decide) (fun c1 => absurd c1 (by decide)) (fun _ => ?_)
  refine lv_aload_n hx hb dX8_append_17 rfl (lv_at hl 1 rfl) ?_
  refine f_8_0 F w (a := 1) rfl tb_3 dX8_append_18 ?_
  refine lv_aload_n hx hb dX8_append_21 rfl (lv_at hl 1 rfl) ?_
  refine f_8_1 F w (a := 1) rfl tb_2 dX8_append_22 ?_
  refine r_val (v := 10) (st_at) ?_
  refine lv_iload_n hx hb dX8_append_25 rfl (lv_at hl 2 rfl) ?_
  refine lv_iload_n hx hb dX8_append_26 rfl (lv_at hl 0 rfl) ?_
  refine lv_ishr hx hb dX8_append_27 ?_
  refine lv_i2b (v := ((p1 >>> (8 &&& 31)).toInt8.toInt32)) hx hb dX8_append_28 rfl ?_
  refine g_bast F w (a := 2) rfl (j := 10) ⟨by decide, by decide⟩ (by decide) dX8_append_29 (fun H locs w => ?_)
  refine lv_aload_n hx hb dX8_append_30 rfl (lv_at hl 1 rfl) ?_
  refine lv_dup hx hb dX8_append_31 rfl ?_
  refine f_8_1 F w (a := 1) rfl tb_2 dX8_append_32 ?_
  refine r_val (v := 10) ((st_ne (by decide)).trans st_at) ?_
  refine lv_iconst (v := 1) hx hb dX8_append_35 (by decide) ?_
  refine lv_iadd hx hb dX8_append_36 ?_
  refine r_val (v := 11) (by decide) ?_
  refine u_8_1 F w (a := 1) rfl tb_2 dX8_append_37 (fun H locs w => ?_)
  refine lv_iinc (v := 0) (lv' := [(2, .int 0), (0, .ref (B + 1)), (1, .int p1)]) hx hb dX8_append_40 hl (k := 0) rfl (by decide) (by decide) rfl (fun ls hl => ?_)
  refine lv_goto (tgt := 3) hx hb dX8_append_43 (by decide) ?_
  refine lv_iload_n hx hb dX8_append_3 rfl (lv_at hl 0 rfl) ?_
  refine lv_if_lt (tgt := 46) hx hb dX8_append_4 (by decide) (fun c1 => absurd c1 (by decide)) (fun _ => ?_)
  refine lv_aload_n hx hb dX8_append_7 rfl (lv_at hl 1 rfl) ?_
  refine f_8_1 F w (a := 1) rfl tb_2 dX8_append_8 ?_
  refine r_val (v := 11) (st_at) ?_
  refine lv_sipush (v := 300) hx hb dX8_append_11 (by decide) ?_
  refine lv_icmp_ge (tgt := 46) hx hb dX8_append_14 (by decide) (fun c1 => absurd c1 (by decide)) (fun _ => ?_)
  refine lv_aload_n hx hb dX8_append_17 rfl (lv_at hl 1 rfl) ?_
  refine f_8_0 F w (a := 1) rfl tb_3 dX8_append_18 ?_
  refine lv_aload_n hx hb dX8_append_21 rfl (lv_at hl 1 rfl) ?_
  refine f_8_1 F w (a := 1) rfl tb_2 dX8_append_22 ?_
  refine r_val (v := 11) (st_at) ?_
  refine lv_iload_n hx hb dX8_append_25 rfl (lv_at hl 2 rfl) ?_
  refine lv_iload_n hx hb dX8_append_26 rfl (lv_at hl 0 rfl) ?_
  refine lv_ishr hx hb dX8_append_27 ?_
  refine lv_i2b (v := ((p1 >>> (0 &&& 31)).toInt8.toInt32)) hx hb dX8_append_28 rfl ?_
  refine g_bast F w (a := 2) rfl (j := 11) ⟨by decide, by decide⟩ (by decide) dX8_append_29 (fun H locs w => ?_)
  refine lv_aload_n hx hb dX8_append_30 rfl (lv_at hl 1 rfl) ?_
  refine lv_dup hx hb dX8_append_31 rfl ?_
  refine f_8_1 F w (a := 1) rfl tb_2 dX8_append_32 ?_
  refine r_val (v := 11) ((st_ne (by decide)).trans st_at) ?_
  refine lv_iconst (v := 1) hx hb dX8_append_35 (by decide) ?_
  refine lv_iadd hx hb dX8_append_36 ?_
  refine r_val (v := 12) (by decide) ?_
  refine u_8_1 F w (a := 1) rfl tb_2 dX8_append_37 (fun H locs w => ?_)
  refine lv_iinc (v := (-8)) (lv' := [(2, .int (-8)), (0, .ref (B + 1)), (1, .int p1)]) hx hb dX8_append_40 hl (k := 0) rfl (by decide) (by decide) rfl (fun ls hl => ?_)
  refine lv_goto (tgt := 3) hx hb dX8_append_43 (by decide) ?_
  refine lv_iload_n hx hb dX8_append_3 rfl (lv_at hl 0 rfl) ?_
  refine lv_if_lt (tgt := 46) hx hb dX8_append_4 (by decide) (fun _ => ?_) (fun c1 => absurd c1 (by decide))
  exact e_v F w hr hlocks rfl dX8_append_46
theorem dX11_feed_42 : decode cX11_feed 42 = .ok (.aload_n 0, 1) := by decide +kernel
theorem dX11_feed_43 : decode cX11_feed 43 = .ok (.getfield 12, 3) := by decide +kernel
theorem dX11_feed_46 : decode cX11_feed 46 = .ok (.iload 4, 2) := by decide +kernel
theorem dX11_feed_48 : decode cX11_feed 48 = .ok (.invokevirtual 82, 3) := by decide +kernel
set_option maxRecDepth 4000 in
theorem c_X8_append_4 {l : Launch} {D : va_G} {B : Nat} {cy : Nat → ClassId} {M : Mem} {p1 : Int32} (h0 : M.1 1 1 = 12) : Cv l D B cy yX8_append cX8_append 3 0 0 [.ref (B + 1), .int p1] M (fun M1 => M1 = (st (st (st (st (st (st (st (st M 2 12 ((vp_nar .byte ((p1 >>> (24 &&& 31)).toInt8.toInt32)))) 1 1 13) 2 13 ((vp_nar .byte ((p1 >>> (16 &&& 31)).toInt8.toInt32)))) 1 1 14) 2 14 ((vp_nar .byte ((p1 >>> (8 &&& 31)).toInt8.toInt32)))) 1 1 15) 2 15 ((vp_nar .byte ((p1 >>> (0 &&& 31)).toInt8.toInt32)))) 1 1 16)) := by
  refine s_any (by decide) (Nat.le_of_ble_eq_true rfl) ?_
  intro p e s m below meth c ls F hr hlocks w hl
  have F : CallFix p m c cX8_append 3 s _ TB RX8 := F
  have hx := F.1
  have hb := F.2.1
  have hl : lv_has ls 3 [(0, .ref (B + 1)), (1, .int p1)] := hl
  refine lv_bipush (v := 24) hx hb dX8_append_0 (by decide) ?_
  refine lv_istore_n (lv' := [(2, .int 24), (0, .ref (B + 1)), (1, .int p1)]) hx hb dX8_append_2 rfl hl (by decide) rfl (fun ls hl => ?_)
  refine lv_iload_n hx hb dX8_append_3 rfl (lv_at hl 0 rfl) ?_
  refine lv_if_lt (tgt := 46) hx hb dX8_append_4 (by decide) (fun c1 => absurd c1 (by decide)) (fun _ => ?_)
  refine lv_aload_n hx hb dX8_append_7 rfl (lv_at hl 1 rfl) ?_
  refine f_8_1 F w (a := 1) rfl tb_2 dX8_append_8 ?_
  refine r_val (v := 12) (h0) ?_
  refine lv_sipush (v := 300) hx hb dX8_append_11 (by decide) ?_
  refine lv_icmp_ge (tgt := 46) hx hb dX8_append_14 (by decide) (fun c1 => absurd c1 (by decide)) (fun _ => ?_)
  refine lv_aload_n hx hb dX8_append_17 rfl (lv_at hl 1 rfl) ?_
  refine f_8_0 F w (a := 1) rfl tb_3 dX8_append_18 ?_
  refine lv_aload_n hx hb dX8_append_21 rfl (lv_at hl 1 rfl) ?_
  refine f_8_1 F w (a := 1) rfl tb_2 dX8_append_22 ?_
  refine r_val (v := 12) (h0) ?_
  refine lv_iload_n hx hb dX8_append_25 rfl (lv_at hl 2 rfl) ?_
  refine lv_iload_n hx hb dX8_append_26 rfl (lv_at hl 0 rfl) ?_
  refine lv_ishr hx hb dX8_append_27 ?_
  refine lv_i2b (v := ((p1 >>> (24 &&& 31)).toInt8.toInt32)) hx hb dX8_append_28 rfl ?_
  refine g_bast F w (a := 2) rfl (j := 12) ⟨by decide, by decide⟩ (by decide) dX8_append_29 (fun H locs w => ?_)
  refine lv_aload_n hx hb dX8_append_30 rfl (lv_at hl 1 rfl) ?_
  refine lv_dup hx hb dX8_append_31 rfl ?_
  refine f_8_1 F w (a := 1) rfl tb_2 dX8_append_32 ?_
  refine r_val (v := 12) ((st_ne (by decide)).trans h0) ?_
  refine lv_iconst (v := 1) hx hb dX8_append_35 (by decide) ?_
  refine lv_iadd hx hb dX8_append_36 ?_
  refine r_val (v := 13) (by decide) ?_
  refine u_8_1 F w (a := 1) rfl tb_2 dX8_append_37 (fun H locs w => ?_)
  refine lv_iinc (v := 16) (lv' := [(2, .int 16), (0, .ref (B + 1)), (1, .int p1)]) hx hb dX8_append_40 hl (k := 0) rfl (by decide) (by decide) rfl (fun ls hl => ?_)
  refine lv_goto (tgt := 3) hx hb dX8_append_43 (by decide) ?_
  refine lv_iload_n hx hb dX8_append_3 rfl (lv_at hl 0 rfl) ?_
  refine lv_if_lt (tgt := 46) hx hb dX8_append_4 (by decide) (fun c1 => absurd c1 (by decide)) (fun _ => ?_)
  refine lv_aload_n hx hb dX8_append_7 rfl (lv_at hl 1 rfl) ?_
  refine f_8_1 F w (a := 1) rfl tb_2 dX8_append_8 ?_
  refine r_val (v := 13) (st_at) ?_
  refine lv_sipush (v := 300) hx hb dX8_append_11 (by decide) ?_
  refine lv_icmp_ge (tgt := 46) hx hb dX8_append_14 (by decide) (fun c1 => absurd c1 (by decide)) (fun _ => ?_)
  refine lv_aload_n hx hb dX8_append_17 rfl (lv_at hl 1 rfl) ?_
  refine f_8_0 F w (a := 1) rfl tb_3 dX8_append_18 ?_
  refine lv_aload_n hx hb dX8_append_21 rfl (lv_at hl 1 rfl) ?_
  refine f_8_1 F w (a := 1) rfl tb_2 dX8_append_22 ?_
  refine r_val (v := 13) (st_at) ?_
  refine lv_iload_n hx hb dX8_append_25 rfl (lv_at hl 2 rfl) ?_
  refine lv_iload_n hx hb dX8_append_26 rfl (lv_at hl 0 rfl) ?_
  refine lv_ishr hx hb dX8_append_27 ?_
  refine lv_i2b (v := ((p1 >>> (16 &&& 31)).toInt8.toInt32)) hx hb dX8_append_28 rfl ?_
  refine g_bast F w (a := 2) rfl (j := 13) ⟨by decide, by decide⟩ (by decide) dX8_append_29 (fun H locs w => ?_)
  refine lv_aload_n hx hb dX8_append_30 rfl (lv_at hl 1 rfl) ?_
  refine lv_dup hx hb dX8_append_31 rfl ?_
  refine f_8_1 F w (a := 1) rfl tb_2 dX8_append_32 ?_
  refine r_val (v := 13) ((st_ne (by decide)).trans st_at) ?_
  refine lv_iconst (v := 1) hx hb dX8_append_35 (by decide) ?_
  refine lv_iadd hx hb dX8_append_36 ?_
  refine r_val (v := 14) (by decide) ?_
  refine u_8_1 F w (a := 1) rfl tb_2 dX8_append_37 (fun H locs w => ?_)
  refine lv_iinc (v := 8) (lv' := [(2, .int 8), (0, .ref (B + 1)), (1, .int p1)]) hx hb dX8_append_40 hl (k := 0) rfl (by decide) (by decide) rfl (fun ls hl => ?_)
  refine lv_goto (tgt := 3) hx hb dX8_append_43 (by decide) ?_
  refine lv_iload_n hx hb dX8_append_3 rfl (lv_at hl 0 rfl) ?_
  refine lv_if_lt (tgt := 46) hx hb dX8_append_4 (by decide) (fun c1 => absurd c1 (by decide)) (fun _ => ?_)
  refine lv_aload_n hx hb dX8_append_7 rfl (lv_at hl 1 rfl) ?_
  refine f_8_1 F w (a := 1) rfl tb_2 dX8_append_8 ?_
  refine r_val (v := 14) (st_at) ?_
  refine lv_sipush (v := 300) hx hb dX8_append_11 (by decide) ?_
  refine lv_icmp_ge (tgt := 46) hx hb dX8_append_14 (by decide) (fun c1 => absurd c1 (by decide)) (fun _ => ?_)
  refine lv_aload_n hx hb dX8_append_17 rfl (lv_at hl 1 rfl) ?_
  refine f_8_0 F w (a := 1) rfl tb_3 dX8_append_18 ?_
  refine lv_aload_n hx hb dX8_append_21 rfl (lv_at hl 1 rfl) ?_
  refine f_8_1 F w (a := 1) rfl tb_2 dX8_append_22 ?_
  refine r_val (v := 14) (st_at) ?_
  refine lv_iload_n hx hb dX8_append_25 rfl (lv_at hl 2 rfl) ?_
  refine lv_iload_n hx hb dX8_append_26 rfl (lv_at hl 0 rfl) ?_
  refine lv_ishr hx hb dX8_append_27 ?_
  refine lv_i2b (v := ((p1 >>> (8 &&& 31)).toInt8.toInt32)) hx hb dX8_append_28 rfl ?_
  refine g_bast F w (a := 2) rfl (j := 14) ⟨by decide, by decide⟩ (by decide) dX8_append_29 (fun H locs w => ?_)
  refine lv_aload_n hx hb dX8_append_30 rfl (lv_at hl 1 rfl) ?_
  refine lv_dup hx hb dX8_append_31 rfl ?_
  refine f_8_1 F w (a := 1) rfl tb_2 dX8_append_32 ?_
  refine r_val (v := 14) ((st_ne (by decide)).trans st_at) ?_
  refine lv_iconst (v := 1) hx hb dX8_append_35 (by decide) ?_
  refine lv_iadd hx hb dX8_append_36 ?_
  refine r_val (v := 15) (by decide) ?_
  refine u_8_1 F w (a := 1) rfl tb_2 dX8_append_37 (fun H locs w => ?_)
  refine lv_iinc (v := 0) (lv' := [(2, .int 0), (0, .ref (B + 1)), (1, .int p1)]) hx hb dX8_append_40 hl (k := 0) rfl (by decide) (by decide) rfl (fun ls hl => ?_)
  refine lv_goto (tgt := 3) hx hb dX8_append_43 (by decide) ?_
  refine lv_iload_n hx hb dX8_append_3 rfl (lv_at hl 0 rfl) ?_
  refine lv_if_lt (tgt := 46) hx hb dX8_append_4 (by decide) (fun c1 => absurd c1 (by decide)) (fun _ => ?_)
  refine lv_aload_n hx hb dX8_append_7 rfl (lv_at hl 1 rfl) ?_
  refine f_8_1 F w (a := 1) rfl tb_2 dX8_append_8 ?_
  refine r_val (v := 15) (st_at) ?_
  refine lv_sipush (v := 300) hx hb dX8_append_11 (by decide) ?_
  refine lv_icmp_ge (tgt := 46) hx hb dX8_append_14 (by decide) (fun c1 => absurd c1 (by decide)) (fun _ => ?_)
  refine lv_aload_n hx hb dX8_append_17 rfl (lv_at hl 1 rfl) ?_
  refine f_8_0 F w (a := 1) rfl tb_3 dX8_append_18 ?_
  refine lv_aload_n hx hb dX8_append_21 rfl (lv_at hl 1 rfl) ?_
  refine f_8_1 F w (a := 1) rfl tb_2 dX8_append_22 ?_
  refine r_val (v := 15) (st_at) ?_
  refine lv_iload_n hx hb dX8_append_25 rfl (lv_at hl 2 rfl) ?_
  refine lv_iload_n hx hb dX8_append_26 rfl (lv_at hl 0 rfl) ?_
  refine lv_ishr hx hb dX8_append_27 ?_
  refine lv_i2b (v := ((p1 >>> (0 &&& 31)).toInt8.toInt32)) hx hb dX8_append_28 rfl ?_
  refine g_bast F w (a := 2) rfl (j := 15) ⟨by decide, by decide⟩ (by decide) dX8_append_29 (fun H locs w => ?_)
  refine lv_aload_n hx hb dX8_append_30 rfl (lv_at hl 1 rfl) ?_
  refine lv_dup hx hb dX8_append_31 rfl ?_
  refine f_8_1 F w (a := 1) rfl tb_2 dX8_append_32 ?_
  refine r_val (v := 15) ((st_ne (by decide)).trans st_at) ?_
  refine lv_iconst (v := 1) hx hb dX8_append_35 (by decide) ?_
  refine lv_iadd hx hb dX8_append_36 ?_
  refine r_val (v := 16) (by decide) ?_
  refine u_8_1 F w (a := 1) rfl tb_2 dX8_append_37 (fun H locs w => ?_)
  refine lv_iinc (v := (-8)) (lv' := [(2, .int (-8)), (0, .ref (B + 1)), (1, .int p1)]) hx hb dX8_append_40 hl (k := 0) rfl (by decide) (by decide) rfl (fun ls hl => ?_)
  refine lv_goto (tgt := 3) hx hb dX8_append_43 (by decide) ?_
  refine lv_iload_n hx hb dX8_append_3 rfl (lv_at hl 0 rfl) ?_
  refine lv_if_lt (tgt := 46) hx hb dX8_append_4 (by decide) (fun _ => ?_) (fun c1 => absurd c1 (by decide))
  exact e_v F w hr hlocks rfl dX8_append_46
theorem dX11_feed_51 : decode cX11_feed 51 = .ok (.aload_n 0, 1) := by decide +kernel
theorem dX11_feed_52 : decode cX11_feed 52 = .ok (.getfield 12, 3) := by decide +kernel
theorem dX11_feed_55 : decode cX11_feed 55 = .ok (.iload 5, 2) := by decide +kernel
theorem dX11_feed_57 : decode cX11_feed 57 = .ok (.invokevirtual 82, 3) := by decide +kernel
set_option maxRecDepth 4000 in
theorem c_X8_append_5 {l : Launch} {D : va_G} {B : Nat} {cy : Nat → ClassId} {M : Mem} {p1 : Int32} (h0 : M.1 1 1 = 16) : Cv l D B cy yX8_append cX8_append 3 0 0 [.ref (B + 1), .int p1] M (fun M1 => M1 = (st (st (st (st (st (st (st (st M 2 16 ((vp_nar .byte ((p1 >>> (24 &&& 31)).toInt8.toInt32)))) 1 1 17) 2 17 ((vp_nar .byte ((p1 >>> (16 &&& 31)).toInt8.toInt32)))) 1 1 18) 2 18 ((vp_nar .byte ((p1 >>> (8 &&& 31)).toInt8.toInt32)))) 1 1 19) 2 19 ((vp_nar .byte ((p1 >>> (0 &&& 31)).toInt8.toInt32)))) 1 1 20)) := by
  refine s_any (by decide) (Nat.le_of_ble_eq_true rfl) ?_
  intro p e s m below meth c ls F hr hlocks w hl
  have F : CallFix p m c cX8_append 3 s _ TB RX8 := F
  have hx := F.1
  have hb := F.2.1
  have hl : lv_has ls 3 [(0, .ref (B + 1)), (1, .int p1)] := hl
  refine lv_bipush (v := 24) hx hb dX8_append_0 (by decide) ?_
  refine lv_istore_n (lv' := [(2, .int 24), (0, .ref (B + 1)), (1, .int p1)]) hx hb dX8_append_2 rfl hl (by decide) rfl (fun ls hl => ?_)
  refine lv_iload_n hx hb dX8_append_3 rfl (lv_at hl 0 rfl) ?_
  refine lv_if_lt (tgt := 46) hx hb dX8_append_4 (by decide) (fun c1 => absurd c1 (by decide)) (fun _ => ?_)
  refine lv_aload_n hx hb dX8_append_7 rfl (lv_at hl 1 rfl) ?_
  refine f_8_1 F w (a := 1) rfl tb_2 dX8_append_8 ?_
  refine r_val (v := 16) (h0) ?_
  refine lv_sipush (v := 300) hx hb dX8_append_11 (by decide) ?_
  refine lv_icmp_ge (tgt := 46) hx hb dX8_append_14 (by decide) (fun c1 => absurd c1 (by decide)) (fun _ => ?_)
  refine lv_aload_n hx hb dX8_append_17 rfl (lv_at hl 1 rfl) ?_
  refine f_8_0 F w (a := 1) rfl tb_3 dX8_append_18 ?_
  refine lv_aload_n hx hb dX8_append_21 rfl (lv_at hl 1 rfl) ?_
  refine f_8_1 F w (a := 1) rfl tb_2 dX8_append_22 ?_
  refine r_val (v := 16) (h0) ?_
  refine lv_iload_n hx hb dX8_append_25 rfl (lv_at hl 2 rfl) ?_
  refine lv_iload_n hx hb dX8_append_26 rfl (lv_at hl 0 rfl) ?_
  refine lv_ishr hx hb dX8_append_27 ?_
  refine lv_i2b (v := ((p1 >>> (24 &&& 31)).toInt8.toInt32)) hx hb dX8_append_28 rfl ?_
  refine g_bast F w (a := 2) rfl (j := 16) ⟨by decide, by decide⟩ (by decide) dX8_append_29 (fun H locs w => ?_)
  refine lv_aload_n hx hb dX8_append_30 rfl (lv_at hl 1 rfl) ?_
  refine lv_dup hx hb dX8_append_31 rfl ?_
  refine f_8_1 F w (a := 1) rfl tb_2 dX8_append_32 ?_
  refine r_val (v := 16) ((st_ne (by decide)).trans h0) ?_
  refine lv_iconst (v := 1) hx hb dX8_append_35 (by decide) ?_
  refine lv_iadd hx hb dX8_append_36 ?_
  refine r_val (v := 17) (by decide) ?_
  refine u_8_1 F w (a := 1) rfl tb_2 dX8_append_37 (fun H locs w => ?_)
  refine lv_iinc (v := 16) (lv' := [(2, .int 16), (0, .ref (B + 1)), (1, .int p1)]) hx hb dX8_append_40 hl (k := 0) rfl (by decide) (by decide) rfl (fun ls hl => ?_)
  refine lv_goto (tgt := 3) hx hb dX8_append_43 (by decide) ?_
  refine lv_iload_n hx hb dX8_append_3 rfl (lv_at hl 0 rfl) ?_
  refine lv_if_lt (tgt := 46) hx hb dX8_append_4 (by decide) (fun c1 => absurd c1 (by decide)) (fun _ => ?_)
  refine lv_aload_n hx hb dX8_append_7 rfl (lv_at hl 1 rfl) ?_
  refine f_8_1 F w (a := 1) rfl tb_2 dX8_append_8 ?_
  refine r_val (v := 17) (st_at) ?_
  refine lv_sipush (v := 300) hx hb dX8_append_11 (by decide) ?_
  refine lv_icmp_ge (tgt := 46) hx hb dX8_append_14 (by decide) (fun c1 => absurd c1 (by decide)) (fun _ => ?_)
  refine lv_aload_n hx hb dX8_append_17 rfl (lv_at hl 1 rfl) ?_
  refine f_8_0 F w (a := 1) rfl tb_3 dX8_append_18 ?_
  refine lv_aload_n hx hb dX8_append_21 rfl (lv_at hl 1 rfl) ?_
  refine f_8_1 F w (a := 1) rfl tb_2 dX8_append_22 ?_
  refine r_val (v := 17) (st_at) ?_
  refine lv_iload_n hx hb dX8_append_25 rfl (lv_at hl 2 rfl) ?_
  refine lv_iload_n hx hb dX8_append_26 rfl (lv_at hl 0 rfl) ?_
  refine lv_ishr hx hb dX8_append_27 ?_
  refine lv_i2b (v := ((p1 >>> (16 &&& 31)).toInt8.toInt32)) hx hb dX8_append_28 rfl ?_
  refine g_bast F w (a := 2) rfl (j := 17) ⟨by decide, by decide⟩ (by decide) dX8_append_29 (fun H locs w => ?_)
  refine lv_aload_n hx hb dX8_append_30 rfl (lv_at hl 1 rfl) ?_
  refine lv_dup hx hb dX8_append_31 rfl ?_
  refine f_8_1 F w (a := 1) rfl tb_2 dX8_append_32 ?_
  refine r_val (v := 17) ((st_ne (by decide)).trans st_at) ?_
  refine lv_iconst (v := 1) hx hb dX8_append_35 (by decide) ?_
  refine lv_iadd hx hb dX8_append_36 ?_
  refine r_val (v := 18) (by decide) ?_
  refine u_8_1 F w (a := 1) rfl tb_2 dX8_append_37 (fun H locs w => ?_)
  refine lv_iinc (v := 8) (lv' := [(2, .int 8), (0, .ref (B + 1)), (1, .int p1)]) hx hb dX8_append_40 hl (k := 0) rfl (by decide) (by decide) rfl (fun ls hl => ?_)
  refine lv_goto (tgt := 3) hx hb dX8_append_43 (by decide) ?_
  refine lv_iload_n hx hb dX8_append_3 rfl (lv_at hl 0 rfl) ?_
  refine lv_if_lt (tgt := 46) hx hb dX8_append_4 (by decide) (fun c1 => absurd c1 (by decide)) (fun _ => ?_)
  refine lv_aload_n hx hb dX8_append_7 rfl (lv_at hl 1 rfl) ?_
  refine f_8_1 F w (a := 1) rfl tb_2 dX8_append_8 ?_
  refine r_val (v := 18) (st_at) ?_
  refine lv_sipush (v := 300) hx hb dX8_append_11 (by decide) ?_
  refine lv_icmp_ge (tgt := 46) hx hb dX8_append_14 (by decide) (fun c1 => absurd c1 (by decide)) (fun _ => ?_)
  refine lv_aload_n hx hb dX8_append_17 rfl (lv_at hl 1 rfl) ?_
  refine f_8_0 F w (a := 1) rfl tb_3 dX8_append_18 ?_
  refine lv_aload_n hx hb dX8_append_21 rfl (lv_at hl 1 rfl) ?_
  refine f_8_1 F w (a := 1) rfl tb_2 dX8_append_22 ?_
  refine r_val (v := 18) (st_at) ?_
  refine lv_iload_n hx hb dX8_append_25 rfl (lv_at hl 2 rfl) ?_
  refine lv_iload_n hx hb dX8_append_26 rfl (lv_at hl 0 rfl) ?_
  refine lv_ishr hx hb dX8_append_27 ?_
  refine lv_i2b (v := ((p1 >>> (8 &&& 31)).toInt8.toInt32)) hx hb dX8_append_28 rfl ?_
  refine g_bast F w (a := 2) rfl (j := 18) ⟨by decide, by decide⟩ (by decide) dX8_append_29 (fun H locs w => ?_)
  refine lv_aload_n hx hb dX8_append_30 rfl (lv_at hl 1 rfl) ?_
  refine lv_dup hx hb dX8_append_31 rfl ?_
  refine f_8_1 F w (a := 1) rfl tb_2 dX8_append_32 ?_
  refine r_val (v := 18) ((st_ne (by decide)).trans st_at) ?_
  refine lv_iconst (v := 1) hx hb dX8_append_35 (by decide) ?_
  refine lv_iadd hx hb dX8_append_36 ?_
  refine r_val (v := 19) (by decide) ?_
  refine u_8_1 F w (a := 1) rfl tb_2 dX8_append_37 (fun H locs w => ?_)
  refine lv_iinc (v := 0) (lv' := [(2, .int 0), (0, .ref (B + 1)), (1, .int p1)]) hx hb dX8_append_40 hl (k := 0) rfl (by decide) (by decide) rfl (fun ls hl => ?_)
  refine lv_goto (tgt := 3) hx hb dX8_append_43 (by decide) ?_
  refine lv_iload_n hx hb dX8_append_3 rfl (lv_at hl 0 rfl) ?_
  refine lv_if_lt (tgt := 46) hx hb dX8_append_4 (by decide) (fun c1 => absurd c1 (by decide)) (fun _ => ?_)
  refine lv_aload_n hx hb dX8_append_7 rfl (lv_at hl 1 rfl) ?_
  refine f_8_1 F w (a := 1) rfl tb_2 dX8_append_8 ?_
  refine r_val (v := 19) (st_at) ?_
  refine lv_sipush (v := 300) hx hb dX8_append_11 (by decide) ?_
  refine lv_icmp_ge (tgt := 46) hx hb dX8_append_14 (by decide) (fun c1 => absurd c1 (by decide)) (fun _ => ?_)
  refine lv_aload_n hx hb dX8_append_17 rfl (lv_at hl 1 rfl) ?_
  refine f_8_0 F w (a := 1) rfl tb_3 dX8_append_18 ?_
  refine lv_aload_n hx hb dX8_append_21 rfl (lv_at hl 1 rfl) ?_
  refine f_8_1 F w (a := 1) rfl tb_2 dX8_append_22 ?_
  refine r_val (v := 19) (st_at) ?_
  refine lv_iload_n hx hb dX8_append_25 rfl (lv_at hl 2 rfl) ?_
  refine lv_iload_n hx hb dX8_append_26 rfl (lv_at hl 0 rfl) ?_
  refine lv_ishr hx hb dX8_append_27 ?_
  refine lv_i2b (v := ((p1 >>> (0 &&& 31)).toInt8.toInt32)) hx hb dX8_append_28 rfl ?_
  refine g_bast F w (a := 2) rfl (j := 19) ⟨by decide, by decide⟩ (by decide) dX8_append_29 (fun H locs w => ?_)
  refine lv_aload_n hx hb dX8_append_30 rfl (lv_at hl 1 rfl) ?_
  refine lv_dup hx hb dX8_append_31 rfl ?_
  refine f_8_1 F w (a := 1) rfl tb_2 dX8_append_32 ?_
  refine r_val (v := 19) ((st_ne (by decide)).trans st_at) ?_
  refine lv_iconst (v := 1) hx hb dX8_append_35 (by decide) ?_
  refine lv_iadd hx hb dX8_append_36 ?_
  refine r_val (v := 20) (by decide) ?_
  refine u_8_1 F w (a := 1) rfl tb_2 dX8_append_37 (fun H locs w => ?_)
  refine lv_iinc (v := (-8)) (lv' := [(2, .int (-8)), (0, .ref (B + 1)), (1, .int p1)]) hx hb dX8_append_40 hl (k := 0) rfl (by decide) (by decide) rfl (fun ls hl => ?_)
  refine lv_goto (tgt := 3) hx hb dX8_append_43 (by decide) ?_
  refine lv_iload_n hx hb dX8_append_3 rfl (lv_at hl 0 rfl) ?_
  refine lv_if_lt (tgt := 46) hx hb dX8_append_4 (by decide) (fun _ => ?_) (fun c1 => absurd c1 (by decide))
  exact e_v F w hr hlocks rfl dX8_append_46
theorem dX11_feed_60 : decode cX11_feed 60 = .ok (.aload_n 0, 1) := by decide +kernel
theorem dX11_feed_61 : decode cX11_feed 61 = .ok (.getfield 12, 3) := by decide +kernel
theorem dX11_feed_64 : decode cX11_feed 64 = .ok (.getfield 78, 3) := by decide +kernel
theorem dX11_feed_67 : decode cX11_feed 67 = .ok (.ireturn, 1) := by decide +kernel
set_option maxRecDepth 4000 in
theorem c_X11_feed_6 {l : Launch} {D : va_G} {B : Nat} {cy : Nat → ClassId} {M : Mem} {p1 : Int32} {p2 : Int32} {p3 : Int32} {p4 : Int32} {p5 : Int32} (h0 : M.1 1 1 = 0) : Ci l D B cy yX11_feed cX11_feed 6 (some .int) 1 22 [.ref (B + 0), .int p1, .int p2, .int p3, .int p4, .int p5] M (fun r M1 => r = 20 ∧ M1 = (st (st (st (st (st (st (st (st (st (st (st (st (st (st (st (st (st (st (st (st (st (st (st (st (st (st (st (st (st (st (st (st (st (st (st (st (st (st (st (st M 2 0 ((vp_nar .byte ((p1 >>> (24 &&& 31)).toInt8.toInt32)))) 1 1 1) 2 1 ((vp_nar .byte ((p1 >>> (16 &&& 31)).toInt8.toInt32)))) 1 1 2) 2 2 ((vp_nar .byte ((p1 >>> (8 &&& 31)).toInt8.toInt32)))) 1 1 3) 2 3 ((vp_nar .byte ((p1 >>> (0 &&& 31)).toInt8.toInt32)))) 1 1 4) 2 4 ((vp_nar .byte ((p2 >>> (24 &&& 31)).toInt8.toInt32)))) 1 1 5) 2 5 ((vp_nar .byte ((p2 >>> (16 &&& 31)).toInt8.toInt32)))) 1 1 6) 2 6 ((vp_nar .byte ((p2 >>> (8 &&& 31)).toInt8.toInt32)))) 1 1 7) 2 7 ((vp_nar .byte ((p2 >>> (0 &&& 31)).toInt8.toInt32)))) 1 1 8) 2 8 ((vp_nar .byte ((p3 >>> (24 &&& 31)).toInt8.toInt32)))) 1 1 9) 2 9 ((vp_nar .byte ((p3 >>> (16 &&& 31)).toInt8.toInt32)))) 1 1 10) 2 10 ((vp_nar .byte ((p3 >>> (8 &&& 31)).toInt8.toInt32)))) 1 1 11) 2 11 ((vp_nar .byte ((p3 >>> (0 &&& 31)).toInt8.toInt32)))) 1 1 12) 2 12 ((vp_nar .byte ((p4 >>> (24 &&& 31)).toInt8.toInt32)))) 1 1 13) 2 13 ((vp_nar .byte ((p4 >>> (16 &&& 31)).toInt8.toInt32)))) 1 1 14) 2 14 ((vp_nar .byte ((p4 >>> (8 &&& 31)).toInt8.toInt32)))) 1 1 15) 2 15 ((vp_nar .byte ((p4 >>> (0 &&& 31)).toInt8.toInt32)))) 1 1 16) 2 16 ((vp_nar .byte ((p5 >>> (24 &&& 31)).toInt8.toInt32)))) 1 1 17) 2 17 ((vp_nar .byte ((p5 >>> (16 &&& 31)).toInt8.toInt32)))) 1 1 18) 2 18 ((vp_nar .byte ((p5 >>> (8 &&& 31)).toInt8.toInt32)))) 1 1 19) 2 19 ((vp_nar .byte ((p5 >>> (0 &&& 31)).toInt8.toInt32)))) 1 1 20)) := by
  refine s_any (by decide) (Nat.le_of_ble_eq_true rfl) ?_
  intro p e s m below meth c ls F hr hlocks w hl
  have F : CallFix p m c cX11_feed 6 s _ TB RX11 := F
  have hx := F.1
  have hb := F.2.1
  have hl : lv_has ls 6 [(0, .ref (B + 0)), (1, .int p1), (2, .int p2), (3, .int p3), (4, .int p4), (5, .int p5)] := hl
  refine lv_aload_n hx hb dX11_feed_0 rfl (lv_at hl 0 rfl) ?_
  refine f_11_0 F w (a := 0) rfl tb_0 dX11_feed_1 ?_
  refine f_8_1 F w (a := 1) rfl tb_1 dX11_feed_4 ?_
  refine r_val (v := 0) (h0) ?_
  refine lv_bipush (v := 20) hx hb dX11_feed_7 (by decide) ?_
  refine lv_iadd hx hb dX11_feed_9 ?_
  refine r_val (v := 20) (by decide) ?_
  refine lv_sipush (v := 300) hx hb dX11_feed_10 (by decide) ?_
  refine lv_icmp_le (tgt := 18) hx hb dX11_feed_13 (by decide) (fun _ => ?_) (fun c1 => absurd c1 (by decide))
  refine lv_aload_n hx hb dX11_feed_18 rfl (lv_at hl 0 rfl) ?_
  refine f_11_0 F w (a := 0) rfl tb_0 dX11_feed_19 ?_
  refine lv_iload_n hx hb dX11_feed_22 rfl (lv_at hl 1 rfl) ?_
  refine x_Vv F w (As := [.int p1]) (rest := []) (a := 1) (by decide) (sh_8 rfl _ _) rfl (c_X8_append_1 (h0)) gv_X11_82 hv_X8_append ⟨Nat.le_of_ble_eq_true rfl, Nat.le_of_ble_eq_true rfl⟩ hl.1 rfl (Nat.le_of_ble_eq_true rfl) ⟨Nat.zero_le _, Nat.zero_le _⟩ dX11_feed_23 (fun H locs w => ?_)
  refine lv_aload_n hx hb dX11_feed_26 rfl (lv_at hl 0 rfl) ?_
  refine f_11_0 F w (a := 0) rfl tb_0 dX11_feed_27 ?_
  refine lv_iload_n hx hb dX11_feed_30 rfl (lv_at hl 2 rfl) ?_
  refine x_Vv F w (As := [.int p2]) (rest := []) (a := 1) (by decide) (sh_8 rfl _ _) rfl (c_X8_append_2 (st_at)) gv_X11_82 hv_X8_append ⟨Nat.le_of_ble_eq_true rfl, Nat.le_of_ble_eq_true rfl⟩ hl.1 rfl (Nat.le_of_ble_eq_true rfl) ⟨Nat.zero_le _, Nat.zero_le _⟩ dX11_feed_31 (fun H locs w => ?_)
  refine lv_aload_n hx hb dX11_feed_34 rfl (lv_at hl 0 rfl) ?_
  refine f_11_0 F w (a := 0) rfl tb_0 dX11_feed_35 ?_
  refine lv_iload_n hx hb dX11_feed_38 rfl (lv_at hl 3 rfl) ?_
  refine x_Vv F w (As := [.int p3]) (rest := []) (a := 1) (by decide) (sh_8 rfl _ _) rfl (c_X8_append_3 (st_at)) gv_X11_82 hv_X8_append ⟨Nat.le_of_ble_eq_true rfl, Nat.le_of_ble_eq_true rfl⟩ hl.1 rfl (Nat.le_of_ble_eq_true rfl) ⟨Nat.zero_le _, Nat.zero_le _⟩ dX11_feed_39 (fun H locs w => ?_)
  refine lv_aload_n hx hb dX11_feed_42 rfl (lv_at hl 0 rfl) ?_
  refine f_11_0 F w (a := 0) rfl tb_0 dX11_feed_43 ?_
  refine lv_iload hx hb dX11_feed_46 (lv_at hl 4 rfl) ?_
  refine x_Vv F w (As := [.int p4]) (rest := []) (a := 1) (by decide) (sh_8 rfl _ _) rfl (c_X8_append_4 (st_at)) gv_X11_82 hv_X8_append ⟨Nat.le_of_ble_eq_true rfl, Nat.le_of_ble_eq_true rfl⟩ hl.1 rfl (Nat.le_of_ble_eq_true rfl) ⟨Nat.zero_le _, Nat.zero_le _⟩ dX11_feed_48 (fun H locs w => ?_)
  refine lv_aload_n hx hb dX11_feed_51 rfl (lv_at hl 0 rfl) ?_
  refine f_11_0 F w (a := 0) rfl tb_0 dX11_feed_52 ?_
  refine lv_iload hx hb dX11_feed_55 (lv_at hl 5 rfl) ?_
  refine x_Vv F w (As := [.int p5]) (rest := []) (a := 1) (by decide) (sh_8 rfl _ _) rfl (c_X8_append_5 (st_at)) gv_X11_82 hv_X8_append ⟨Nat.le_of_ble_eq_true rfl, Nat.le_of_ble_eq_true rfl⟩ hl.1 rfl (Nat.le_of_ble_eq_true rfl) ⟨Nat.zero_le _, Nat.zero_le _⟩ dX11_feed_57 (fun H locs w => ?_)
  refine lv_aload_n hx hb dX11_feed_60 rfl (lv_at hl 0 rfl) ?_
  refine f_11_0 F w (a := 0) rfl tb_0 dX11_feed_61 ?_
  refine f_8_1 F w (a := 1) rfl tb_1 dX11_feed_64 ?_
  refine r_val (v := 20) (st_at) ?_
  exact e_i F w hr hlocks ⟨rfl, rfl⟩ dX11_feed_67
theorem dX11_back_0 : decode cX11_back 0 = .ok (.iload_n 1, 1) := by decide +kernel
theorem dX11_back_1 : decode cX11_back 1 = .ok (.ifCond .lt 14, 3) := by decide +kernel
theorem dX11_back_15 : decode cX11_back 15 = .ok (.iconst (-1), 1) := by decide +kernel
theorem dX11_back_16 : decode cX11_back 16 = .ok (.ireturn, 1) := by decide +kernel
set_option maxRecDepth 4000 in
theorem c_X11_back_7 {l : Launch} {D : va_G} {B : Nat} {cy : Nat → ClassId} {M : Mem} {p1 : Int32} (h0 : p1 < 0) : Ci l D B cy yX11_back cX11_back 2 (some .int) 0 0 [.ref (B + 0), .int p1] M (fun r M1 => r = (-1) ∧ M1 = M) := by
  refine s_any (by decide) (Nat.le_of_ble_eq_true rfl) ?_
  intro p e s m below meth c ls F hr hlocks w hl
  have F : CallFix p m c cX11_back 2 s _ TB RX11 := F
  have hx := F.1
  have hb := F.2.1
  have hl : lv_has ls 2 [(0, .ref (B + 0)), (1, .int p1)] := hl
  refine lv_iload_n hx hb dX11_back_0 rfl (lv_at hl 1 rfl) ?_
  refine lv_if_lt (tgt := 15) hx hb dX11_back_1 (by decide) (fun _ => ?_) (fun c1 => absurd h0 c1)
  refine lv_iconst (v := (-1)) hx hb dX11_back_15 (by decide) ?_
  exact e_i F w hr hlocks ⟨rfl, rfl⟩ dX11_back_16
theorem dX11_back_4 : decode cX11_back 4 = .ok (.iload_n 1, 1) := by decide +kernel
theorem dX11_back_5 : decode cX11_back 5 = .ok (.aload_n 0, 1) := by decide +kernel
theorem dX11_back_6 : decode cX11_back 6 = .ok (.getfield 12, 3) := by decide +kernel
theorem dX11_back_9 : decode cX11_back 9 = .ok (.getfield 78, 3) := by decide +kernel
theorem dX11_back_12 : decode cX11_back 12 = .ok (.if_icmp .le 5, 3) := by decide +kernel
set_option maxRecDepth 4000 in
theorem c_X11_back_8 {l : Launch} {D : va_G} {B : Nat} {cy : Nat → ClassId} {M : Mem} {p1 : Int32} (h0 : ¬ p1 < 0) (h1 : M.1 1 1 = 0) (h2 : ¬ p1 ≤ 0) : Ci l D B cy yX11_back cX11_back 2 (some .int) 0 0 [.ref (B + 0), .int p1] M (fun r M1 => r = (-1) ∧ M1 = M) := by
  refine s_any (by decide) (Nat.le_of_ble_eq_true rfl) ?_
  intro p e s m below meth c ls F hr hlocks w hl
  have F : CallFix p m c cX11_back 2 s _ TB RX11 := F
  have hx := F.1
  have hb := F.2.1
  have hl : lv_has ls 2 [(0, .ref (B + 0)), (1, .int p1)] := hl
  refine lv_iload_n hx hb dX11_back_0 rfl (lv_at hl 1 rfl) ?_
  refine lv_if_lt (tgt := 15) hx hb dX11_back_1 (by decide) (fun c1 => absurd c1 h0) (fun _ => ?_)
  refine lv_iload_n hx hb dX11_back_4 rfl (lv_at hl 1 rfl) ?_
  refine lv_aload_n hx hb dX11_back_5 rfl (lv_at hl 0 rfl) ?_
  refine f_11_0 F w (a := 0) rfl tb_0 dX11_back_6 ?_
  refine f_8_1 F w (a := 1) rfl tb_1 dX11_back_9 ?_
  refine r_val (v := 0) (h1) ?_
  refine lv_icmp_le (tgt := 17) hx hb dX11_back_12 (by decide) (fun c1 => absurd c1 h2) (fun _ => ?_)
  refine lv_iconst (v := (-1)) hx hb dX11_back_15 (by decide) ?_
  exact e_i F w hr hlocks ⟨rfl, rfl⟩ dX11_back_16
theorem dX11_back_17 : decode cX11_back 17 = .ok (.aload_n 0, 1) := by decide +kernel
theorem dX11_back_18 : decode cX11_back 18 = .ok (.getfield 12, 3) := by decide +kernel
theorem dX11_back_21 : decode cX11_back 21 = .ok (.dup, 1) := by decide +kernel
theorem dX11_back_22 : decode cX11_back 22 = .ok (.getfield 78, 3) := by decide +kernel
theorem dX11_back_25 : decode cX11_back 25 = .ok (.iload_n 1, 1) := by decide +kernel
theorem dX11_back_26 : decode cX11_back 26 = .ok (.isub, 1) := by decide +kernel
theorem dX11_back_27 : decode cX11_back 27 = .ok (.putfield 78, 3) := by decide +kernel
theorem dX11_back_30 : decode cX11_back 30 = .ok (.aload_n 0, 1) := by decide +kernel
theorem dX11_back_31 : decode cX11_back 31 = .ok (.getfield 12, 3) := by decide +kernel
theorem dX11_back_34 : decode cX11_back 34 = .ok (.getfield 78, 3) := by decide +kernel
theorem dX11_back_37 : decode cX11_back 37 = .ok (.ireturn, 1) := by decide +kernel
set_option maxRecDepth 4000 in
theorem c_X11_back_9 {l : Launch} {D : va_G} {B : Nat} {cy : Nat → ClassId} {M : Mem} (h0 : M.1 1 1 = 0) : Ci l D B cy yX11_back cX11_back 2 (some .int) 0 0 [.ref (B + 0), .int 0] M (fun r M1 => r = 0 ∧ M1 = M) := by
  refine s_any (by decide) (Nat.le_of_ble_eq_true rfl) ?_
  intro p e s m below meth c ls F hr hlocks w hl
  have F : CallFix p m c cX11_back 2 s _ TB RX11 := F
  have hx := F.1
  have hb := F.2.1
  have hl : lv_has ls 2 [(0, .ref (B + 0)), (1, .int 0)] := hl
  refine lv_iload_n hx hb dX11_back_0 rfl (lv_at hl 1 rfl) ?_
  refine lv_if_lt (tgt := 15) hx hb dX11_back_1 (by decide) (fun c1 => absurd c1 (by decide)) (fun _ => ?_)
  refine lv_iload_n hx hb dX11_back_4 rfl (lv_at hl 1 rfl) ?_
  refine lv_aload_n hx hb dX11_back_5 rfl (lv_at hl 0 rfl) ?_
  refine f_11_0 F w (a := 0) rfl tb_0 dX11_back_6 ?_
  refine f_8_1 F w (a := 1) rfl tb_1 dX11_back_9 ?_
  refine r_val (v := 0) (h0) ?_
  refine lv_icmp_le (tgt := 17) hx hb dX11_back_12 (by decide) (fun _ => ?_) (fun c1 => absurd c1 (by decide))
  refine lv_aload_n hx hb dX11_back_17 rfl (lv_at hl 0 rfl) ?_
  refine f_11_0 F w (a := 0) rfl tb_0 dX11_back_18 ?_
  refine lv_dup hx hb dX11_back_21 rfl ?_
  refine f_8_1 F w (a := 1) rfl tb_1 dX11_back_22 ?_
  refine r_val (v := 0) (h0) ?_
  refine lv_iload_n hx hb dX11_back_25 rfl (lv_at hl 1 rfl) ?_
  refine lv_isub hx hb dX11_back_26 ?_
  refine r_val (v := 0) (by decide) ?_
  refine u_8_1 F w (a := 1) rfl tb_1 dX11_back_27 (fun H locs w => ?_)
  rw [st_same (h0)] at w
  refine lv_aload_n hx hb dX11_back_30 rfl (lv_at hl 0 rfl) ?_
  refine f_11_0 F w (a := 0) rfl tb_0 dX11_back_31 ?_
  refine f_8_1 F w (a := 1) rfl tb_1 dX11_back_34 ?_
  refine r_val (v := 0) (h0) ?_
  exact e_i F w hr hlocks ⟨rfl, rfl⟩ dX11_back_37
theorem dX11_word_0 : decode cX11_word 0 = .ok (.aload_n 0, 1) := by decide +kernel
theorem dX11_word_1 : decode cX11_word 1 = .ok (.getfield 21, 3) := by decide +kernel
theorem tb_8 : Cond.fieldLink "ToneLines" 21 "ToneLines" "wordReader" "LToneLines$WordReader;" ∈ TB := tbm (tc2 (List.mem_of_getElem? (i := 58) rfl)) rfl
theorem dX11_word_4 : decode cX11_word 4 = .ok (.aload_n 0, 1) := by decide +kernel
theorem dX11_word_5 : decode cX11_word 5 = .ok (.getfield 75, 3) := by decide +kernel
theorem tb_9 : Cond.fieldLink "ToneLines" 75 "ToneLines" "draft" "LToneLines$Word;" ∈ TB := tbm (tc2 (List.mem_of_getElem? (i := 66) rfl)) rfl
theorem dX11_word_8 : decode cX11_word 8 = .ok (.invokevirtual 86, 3) := by decide +kernel
theorem dX10_faultOf_0 : decode cX10_faultOf 0 = .ok (.aload_n 1, 1) := by decide +kernel
theorem dX10_faultOf_1 : decode cX10_faultOf 1 = .ok (.invokevirtual 19, 3) := by decide +kernel
theorem dX9_clear_0 : decode cX9_clear 0 = .ok (.aload_n 0, 1) := by decide +kernel
theorem dX9_clear_1 : decode cX9_clear 1 = .ok (.iconst 0, 1) := by decide +kernel
theorem dX9_clear_2 : decode cX9_clear 2 = .ok (.putfield 9, 3) := by decide +kernel
theorem tb_10 : Cond.fieldLink "ToneLines$Word" 9 "ToneLines$Word" "tones" "I" ∈ TB := tbm (tc1 (List.mem_of_getElem? (i := 129) rfl)) rfl
theorem dX9_clear_5 : decode cX9_clear 5 = .ok (.aload_n 0, 1) := by decide +kernel
theorem dX9_clear_6 : decode cX9_clear 6 = .ok (.iconst 0, 1) := by decide +kernel
theorem dX9_clear_7 : decode cX9_clear 7 = .ok (.putfield 15, 3) := by decide +kernel
theorem tb_11 : Cond.fieldLink "ToneLines$Word" 15 "ToneLines$Word" "syllables" "I" ∈ TB := tbm (tc1 (List.mem_of_getElem? (i := 134) rfl)) rfl
theorem dX9_clear_10 : decode cX9_clear 10 = .ok (.aload_n 0, 1) := by decide +kernel
theorem dX9_clear_11 : decode cX9_clear 11 = .ok (.iconst 0, 1) := by decide +kernel
theorem dX9_clear_12 : decode cX9_clear 12 = .ok (.putfield 18, 3) := by decide +kernel
theorem tb_12 : Cond.fieldLink "ToneLines$Word" 18 "ToneLines$Word" "heavy" "I" ∈ TB := tbm (tc1 (List.mem_of_getElem? (i := 140) rfl)) rfl
theorem dX9_clear_15 : decode cX9_clear 15 = .ok (.aload_n 0, 1) := by decide +kernel
theorem dX9_clear_16 : decode cX9_clear 16 = .ok (.iconst 0, 1) := by decide +kernel
theorem dX9_clear_17 : decode cX9_clear 17 = .ok (.putfield 21, 3) := by decide +kernel
theorem tb_13 : Cond.fieldLink "ToneLines$Word" 21 "ToneLines$Word" "edges" "I" ∈ TB := tbm (tc1 (List.mem_of_getElem? (i := 141) rfl)) rfl
theorem dX9_clear_20 : decode cX9_clear 20 = .ok (.return_, 1) := by decide +kernel
set_option maxRecDepth 4000 in
theorem c_X9_clear_10 {l : Launch} {D : va_G} {B : Nat} {cy : Nat → ClassId} {M : Mem} (h0 : M.1 143 0 = 0) (h1 : M.1 143 1 = 0) (h2 : M.1 143 2 = 0) (h3 : M.1 143 3 = 0) : Cv l D B cy yX9_clear cX9_clear 1 0 0 [.ref (B + 143)] M (fun M1 => M1 = M) := by
  refine s_any (by decide) (Nat.le_of_ble_eq_true rfl) ?_
  intro p e s m below meth c ls F hr hlocks w hl
  have F : CallFix p m c cX9_clear 1 s _ TB RX9 := F
  have hx := F.1
  have hb := F.2.1
  have hl : lv_has ls 1 [(0, .ref (B + 143))] := hl
  refine lv_aload_n hx hb dX9_clear_0 rfl (lv_at hl 0 rfl) ?_
  refine lv_iconst (v := 0) hx hb dX9_clear_1 (by decide) ?_
  refine u_9_0 F w (a := 143) rfl tb_10 dX9_clear_2 (fun H locs w => ?_)
  rw [st_same (h0)] at w
  refine lv_aload_n hx hb dX9_clear_5 rfl (lv_at hl 0 rfl) ?_
  refine lv_iconst (v := 0) hx hb dX9_clear_6 (by decide) ?_
  refine u_9_1 F w (a := 143) rfl tb_11 dX9_clear_7 (fun H locs w => ?_)
  rw [st_same (h1)] at w
  refine lv_aload_n hx hb dX9_clear_10 rfl (lv_at hl 0 rfl) ?_
  refine lv_iconst (v := 0) hx hb dX9_clear_11 (by decide) ?_
  refine u_9_2 F w (a := 143) rfl tb_12 dX9_clear_12 (fun H locs w => ?_)
  rw [st_same (h2)] at w
  refine lv_aload_n hx hb dX9_clear_15 rfl (lv_at hl 0 rfl) ?_
  refine lv_iconst (v := 0) hx hb dX9_clear_16 (by decide) ?_
  refine u_9_3 F w (a := 143) rfl tb_13 dX9_clear_17 (fun H locs w => ?_)
  rw [st_same (h3)] at w
  exact e_v F w hr hlocks rfl dX9_clear_20
theorem tk_X9_clear : Cond.code yX9_clear cX9_clear 1 none ∈ TB := tbm (tc2 (List.mem_of_getElem? (i := 111) rfl)) rfl
theorem gc_X9_clear : GoodIn TB (cw yX9_clear cX9_clear 1 none) := goodIn_c2 tk_X9_clear
theorem tb_14 : Cond.methodLink "ToneLines$WordReader" 19 yX9_clear ∈ TB := tbm (tc2 (List.mem_of_getElem? (i := 108) rfl)) rfl
theorem tb_15 : Cond.instanceMethod yX9_clear ∈ TB := tbm (tc2 (List.mem_of_getElem? (i := 109) rfl)) rfl
theorem tb_16 : Cond.selects "ToneLines$Word" yX9_clear yX9_clear ∈ TB := tbm (tc2 (List.mem_of_getElem? (i := 110) rfl)) rfl
theorem tb_17 : Cond.initialized "ToneLines$Word" ∈ TB := tbm (tc1 (List.mem_of_getElem? (i := 8) rfl)) rfl
theorem gv_X10_19 : GoodIn TB (wsV RX10 19 RX9 yX9_clear (cw yX9_clear cX9_clear 1 none)) := goodIn_4 tb_14 tb_15 tb_16 tb_17 gc_X9_clear
theorem hv_X9_clear : yX9_clear.cls = RX9 ∧ yX9_clear.cls ≠ "java/lang/invoke/MethodHandle" ∧ yX9_clear.cls ≠ "java/lang/invoke/VarHandle" ∧ (parseMethodDescriptor yX9_clear.desc).map (fun d => d.parameters.length) = some 0 := by decide +kernel
theorem dX10_faultOf_4 : decode cX10_faultOf 4 = .ok (.aload_n 0, 1) := by decide +kernel
theorem dX10_faultOf_5 : decode cX10_faultOf 5 = .ok (.iconst 0, 1) := by decide +kernel
theorem dX10_faultOf_6 : decode cX10_faultOf 6 = .ok (.putfield 9, 3) := by decide +kernel
theorem tb_18 : Cond.fieldLink "ToneLines$WordReader" 9 "ToneLines$WordReader" "at" "I" ∈ TB := tbm (tc1 (List.mem_of_getElem? (i := 55) rfl)) rfl
theorem dX10_faultOf_9 : decode cX10_faultOf 9 = .ok (.aload_n 0, 1) := by decide +kernel
theorem dX10_faultOf_10 : decode cX10_faultOf 10 = .ok (.aload_n 1, 1) := by decide +kernel
theorem dX10_faultOf_11 : decode cX10_faultOf 11 = .ok (.invokevirtual 24, 3) := by decide +kernel
theorem dX10_readTones_0 : decode cX10_readTones 0 = .ok (.aload_n 0, 1) := by decide +kernel
theorem dX10_readTones_1 : decode cX10_readTones 1 = .ok (.aload_n 0, 1) := by decide +kernel
theorem dX10_readTones_2 : decode cX10_readTones 2 = .ok (.getfield 15, 3) := by decide +kernel
theorem tb_19 : Cond.fieldLink "ToneLines$WordReader" 15 "ToneLines$WordReader" "tape" "LToneLines$Tape;" ∈ TB := tbm (tc1 (List.mem_of_getElem? (i := 54) rfl)) rfl
theorem dX10_readTones_5 : decode cX10_readTones 5 = .ok (.aload_n 0, 1) := by decide +kernel
theorem dX10_readTones_6 : decode cX10_readTones 6 = .ok (.getfield 9, 3) := by decide +kernel
theorem dX10_readTones_9 : decode cX10_readTones 9 = .ok (.invokevirtual 34, 3) := by decide +kernel
theorem dX8_skipBlanks_0 : decode cX8_skipBlanks 0 = .ok (.iload_n 1, 1) := by decide +kernel
theorem dX8_skipBlanks_1 : decode cX8_skipBlanks 1 = .ok (.istore_n 2, 1) := by decide +kernel
theorem dX8_skipBlanks_2 : decode cX8_skipBlanks 2 = .ok (.iload_n 2, 1) := by decide +kernel
theorem dX8_skipBlanks_3 : decode cX8_skipBlanks 3 = .ok (.ifCond .lt 35, 3) := by decide +kernel
theorem dX8_skipBlanks_6 : decode cX8_skipBlanks 6 = .ok (.iload_n 2, 1) := by decide +kernel
theorem dX8_skipBlanks_7 : decode cX8_skipBlanks 7 = .ok (.aload_n 0, 1) := by decide +kernel
theorem dX8_skipBlanks_8 : decode cX8_skipBlanks 8 = .ok (.getfield 15, 3) := by decide +kernel
theorem dX8_skipBlanks_11 : decode cX8_skipBlanks 11 = .ok (.if_icmp .ge 27, 3) := by decide +kernel
theorem dX8_skipBlanks_38 : decode cX8_skipBlanks 38 = .ok (.iload_n 2, 1) := by decide +kernel
theorem dX8_skipBlanks_39 : decode cX8_skipBlanks 39 = .ok (.ireturn, 1) := by decide +kernel
set_option maxRecDepth 4000 in
theorem c_X8_skipBlanks_11 {l : Launch} {D : va_G} {B : Nat} {cy : Nat → ClassId} {M : Mem} (h0 : M.1 1 1 = 0) : Ci l D B cy yX8_skipBlanks cX8_skipBlanks 3 (some .int) 0 0 [.ref (B + 1), .int 0] M (fun r M1 => r = 0 ∧ M1 = M) := by
  refine s_any (by decide) (Nat.le_of_ble_eq_true rfl) ?_
  intro p e s m below meth c ls F hr hlocks w hl
  have F : CallFix p m c cX8_skipBlanks 3 s _ TB RX8 := F
  have hx := F.1
  have hb := F.2.1
  have hl : lv_has ls 3 [(0, .ref (B + 1)), (1, .int 0)] := hl
  refine lv_iload_n hx hb dX8_skipBlanks_0 rfl (lv_at hl 1 rfl) ?_
  refine lv_istore_n (lv' := [(2, .int 0), (0, .ref (B + 1)), (1, .int 0)]) hx hb dX8_skipBlanks_1 rfl hl (by decide) rfl (fun ls hl => ?_)
  refine lv_iload_n hx hb dX8_skipBlanks_2 rfl (lv_at hl 0 rfl) ?_
  refine lv_if_lt (tgt := 38) hx hb dX8_skipBlanks_3 (by decide) (fun c1 => absurd c1 (by decide)) (fun _ => ?_)
  refine lv_iload_n hx hb dX8_skipBlanks_6 rfl (lv_at hl 0 rfl) ?_
  refine lv_aload_n hx hb dX8_skipBlanks_7 rfl (lv_at hl 1 rfl) ?_
  refine f_8_1 F w (a := 1) rfl tb_2 dX8_skipBlanks_8 ?_
  refine r_val (v := 0) (h0) ?_
  refine lv_icmp_ge (tgt := 38) hx hb dX8_skipBlanks_11 (by decide) (fun _ => ?_) (fun c1 => absurd c1 (by decide))
  refine lv_iload_n hx hb dX8_skipBlanks_38 rfl (lv_at hl 0 rfl) ?_
  exact e_i F w hr hlocks ⟨rfl, rfl⟩ dX8_skipBlanks_39
theorem tk_X8_skipBlanks : Cond.code yX8_skipBlanks cX8_skipBlanks 3 (some .int) ∈ TB := tbm (tc2 (List.mem_of_getElem? (i := 119) rfl)) rfl
theorem gc_X8_skipBlanks : GoodIn TB (cw yX8_skipBlanks cX8_skipBlanks 3 (some .int)) := goodIn_c2 tk_X8_skipBlanks
theorem tb_20 : Cond.methodLink "ToneLines$WordReader" 34 yX8_skipBlanks ∈ TB := tbm (tc2 (List.mem_of_getElem? (i := 116) rfl)) rfl
theorem tb_21 : Cond.instanceMethod yX8_skipBlanks ∈ TB := tbm (tc2 (List.mem_of_getElem? (i := 117) rfl)) rfl
theorem tb_22 : Cond.selects "ToneLines$Tape" yX8_skipBlanks yX8_skipBlanks ∈ TB := tbm (tc2 (List.mem_of_getElem? (i := 118) rfl)) rfl
theorem gv_X10_34 : GoodIn TB (wsV RX10 34 RX8 yX8_skipBlanks (cw yX8_skipBlanks cX8_skipBlanks 3 (some .int))) := goodIn_4 tb_20 tb_21 tb_22 tb_7 gc_X8_skipBlanks
theorem hv_X8_skipBlanks : yX8_skipBlanks.cls = RX8 ∧ yX8_skipBlanks.cls ≠ "java/lang/invoke/MethodHandle" ∧ yX8_skipBlanks.cls ≠ "java/lang/invoke/VarHandle" ∧ (parseMethodDescriptor yX8_skipBlanks.desc).map (fun d => d.parameters.length) = some 1 := by decide +kernel
theorem dX10_readTones_12 : decode cX10_readTones 12 = .ok (.putfield 9, 3) := by decide +kernel
theorem dX10_readTones_15 : decode cX10_readTones 15 = .ok (.aload_n 0, 1) := by decide +kernel
theorem dX10_readTones_16 : decode cX10_readTones 16 = .ok (.getfield 9, 3) := by decide +kernel
theorem dX10_readTones_19 : decode cX10_readTones 19 = .ok (.aload_n 0, 1) := by decide +kernel
theorem dX10_readTones_20 : decode cX10_readTones 20 = .ok (.getfield 15, 3) := by decide +kernel
theorem dX10_readTones_23 : decode cX10_readTones 23 = .ok (.getfield 40, 3) := by decide +kernel
theorem tb_23 : Cond.fieldLink "ToneLines$WordReader" 40 "ToneLines$Tape" "size" "I" ∈ TB := tbm (tc1 (List.mem_of_getElem? (i := 41) rfl)) rfl
theorem dX10_readTones_26 : decode cX10_readTones 26 = .ok (.if_icmp .ge 85, 3) := by decide +kernel
theorem dX10_readTones_111 : decode cX10_readTones 111 = .ok (.iconst 0, 1) := by decide +kernel
theorem dX10_readTones_112 : decode cX10_readTones 112 = .ok (.ireturn, 1) := by decide +kernel
set_option maxRecDepth 4000 in
theorem c_X10_readTones_12 {l : Launch} {D : va_G} {B : Nat} {cy : Nat → ClassId} {M : Mem} (h0 : M.1 3 1 = 0) (h1 : M.1 1 1 = 0) : Ci l D B cy yX10_readTones cX10_readTones 4 (some .boolean) 1 22 [.ref (B + 3), .ref (B + 143)] M (fun r M1 => r = 0 ∧ M1 = M) := by
  refine s_any (by decide) (Nat.le_of_ble_eq_true rfl) ?_
  intro p e s m below meth c ls F hr hlocks w hl
  have F : CallFix p m c cX10_readTones 4 s _ TB RX10 := F
  have hx := F.1
  have hb := F.2.1
  have hl : lv_has ls 4 [(0, .ref (B + 3)), (1, .ref (B + 143))] := hl
  refine lv_aload_n hx hb dX10_readTones_0 rfl (lv_at hl 0 rfl) ?_
  refine lv_aload_n hx hb dX10_readTones_1 rfl (lv_at hl 0 rfl) ?_
  refine f_10_0 F w (a := 3) rfl tb_19 dX10_readTones_2 ?_
  refine lv_aload_n hx hb dX10_readTones_5 rfl (lv_at hl 0 rfl) ?_
  refine f_10_1 F w (a := 3) rfl tb_18 dX10_readTones_6 ?_
  refine r_val (v := 0) (h0) ?_
  refine x_Vi F w (As := [.int 0]) (rest := [.ref (B + 3)]) (a := 1) (by decide) (sh_8 rfl _ _) rfl (c_X8_skipBlanks_11 (h1)) gv_X10_34 hv_X8_skipBlanks ⟨Nat.le_of_ble_eq_true rfl, Nat.le_of_ble_eq_true rfl⟩ hl.1 rfl (Nat.le_of_ble_eq_true rfl) ⟨Nat.zero_le _, Nat.zero_le _⟩ dX10_readTones_9 (fun H locs w => ?_)
  refine u_10_1 F w (a := 3) rfl tb_18 dX10_readTones_12 (fun H locs w => ?_)
  rw [st_same (h0)] at w
  refine lv_aload_n hx hb dX10_readTones_15 rfl (lv_at hl 0 rfl) ?_
  refine f_10_1 F w (a := 3) rfl tb_18 dX10_readTones_16 ?_
  refine r_val (v := 0) (h0) ?_
  refine lv_aload_n hx hb dX10_readTones_19 rfl (lv_at hl 0 rfl) ?_
  refine f_10_0 F w (a := 3) rfl tb_19 dX10_readTones_20 ?_
  refine f_8_1 F w (a := 1) rfl tb_23 dX10_readTones_23 ?_
  refine r_val (v := 0) (h1) ?_
  refine lv_icmp_ge (tgt := 111) hx hb dX10_readTones_26 (by decide) (fun _ => ?_) (fun c1 => absurd c1 (by decide))
  refine lv_iconst (v := 0) hx hb dX10_readTones_111 (by decide) ?_
  exact e_z F w hr hlocks (by decide) ⟨rfl, rfl⟩ dX10_readTones_112
theorem tk_X10_readTones : Cond.code yX10_readTones cX10_readTones 4 (some .boolean) ∈ TB := tbm (tc2 (List.mem_of_getElem? (i := 115) rfl)) rfl
theorem gc_X10_readTones : GoodIn TB (cw yX10_readTones cX10_readTones 4 (some .boolean)) := goodIn_c2 tk_X10_readTones
theorem tb_24 : Cond.methodLink "ToneLines$WordReader" 24 yX10_readTones ∈ TB := tbm (tc2 (List.mem_of_getElem? (i := 112) rfl)) rfl
theorem tb_25 : Cond.instanceMethod yX10_readTones ∈ TB := tbm (tc2 (List.mem_of_getElem? (i := 114) rfl)) rfl
theorem tb_26 : Cond.selects "ToneLines$WordReader" yX10_readTones yX10_readTones ∈ TB := tbp (List.mem_of_getElem? (i := 0) rfl) rfl
theorem tb_27 : Cond.initialized "ToneLines$WordReader" ∈ TB := tbm (tc1 (List.mem_of_getElem? (i := 3) rfl)) rfl
theorem gv_X10_24 : GoodIn TB (wsV RX10 24 RX10 yX10_readTones (cw yX10_readTones cX10_readTones 4 (some .boolean))) := goodIn_4 tb_24 tb_25 tb_26 tb_27 gc_X10_readTones
theorem hv_X10_readTones : yX10_readTones.cls = RX10 ∧ yX10_readTones.cls ≠ "java/lang/invoke/MethodHandle" ∧ yX10_readTones.cls ≠ "java/lang/invoke/VarHandle" ∧ (parseMethodDescriptor yX10_readTones.desc).map (fun d => d.parameters.length) = some 1 := by decide +kernel
theorem dX10_faultOf_14 : decode cX10_faultOf 14 = .ok (.ifCond .eq 23, 3) := by decide +kernel
theorem dX10_faultOf_37 : decode cX10_faultOf 37 = .ok (.iconst 0, 1) := by decide +kernel
theorem dX10_faultOf_38 : decode cX10_faultOf 38 = .ok (.istore_n 2, 1) := by decide +kernel
theorem dX10_faultOf_39 : decode cX10_faultOf 39 = .ok (.iload_n 2, 1) := by decide +kernel
theorem dX10_faultOf_40 : decode cX10_faultOf 40 = .ok (.ifCond .eq 7, 3) := by decide +kernel
theorem dX10_faultOf_47 : decode cX10_faultOf 47 = .ok (.aload_n 0, 1) := by decide +kernel
theorem dX10_faultOf_48 : decode cX10_faultOf 48 = .ok (.getfield 9, 3) := by decide +kernel
theorem dX10_faultOf_51 : decode cX10_faultOf 51 = .ok (.ireturn, 1) := by decide +kernel
set_option maxRecDepth 4000 in
theorem c_X10_faultOf_13 {l : Launch} {D : va_G} {B : Nat} {cy : Nat → ClassId} {M : Mem} (h0 : M.1 143 0 = 0) (h1 : M.1 143 1 = 0) (h2 : M.1 143 2 = 0) (h3 : M.1 143 3 = 0) (h4 : M.1 3 1 = 0) (h5 : M.1 1 1 = 0) : Ci l D B cy yX10_faultOf cX10_faultOf 3 (some .int) 2 45 [.ref (B + 3), .ref (B + 143)] M (fun r M1 => r = 0 ∧ M1 = M) := by
  refine s_any (by decide) (Nat.le_of_ble_eq_true rfl) ?_
  intro p e s m below meth c ls F hr hlocks w hl
  have F : CallFix p m c cX10_faultOf 3 s _ TB RX10 := F
  have hx := F.1
  have hb := F.2.1
  have hl : lv_has ls 3 [(0, .ref (B + 3)), (1, .ref (B + 143))] := hl
  refine lv_aload_n hx hb dX10_faultOf_0 rfl (lv_at hl 1 rfl) ?_
  refine x_Vv F w (As := []) (rest := []) (a := 143) (by decide) (sh_9 rfl _ _) rfl (c_X9_clear_10 (h0) (h1) (h2) (h3)) gv_X10_19 hv_X9_clear ⟨Nat.le_of_ble_eq_true rfl, Nat.le_of_ble_eq_true rfl⟩ hl.1 rfl (Nat.le_of_ble_eq_true rfl) ⟨Nat.zero_le _, Nat.zero_le _⟩ dX10_faultOf_1 (fun H locs w => ?_)
  refine lv_aload_n hx hb dX10_faultOf_4 rfl (lv_at hl 0 rfl) ?_
  refine lv_iconst (v := 0) hx hb dX10_faultOf_5 (by decide) ?_
  refine u_10_1 F w (a := 3) rfl tb_18 dX10_faultOf_6 (fun H locs w => ?_)
  rw [st_same (h4)] at w
  refine lv_aload_n hx hb dX10_faultOf_9 rfl (lv_at hl 0 rfl) ?_
  refine lv_aload_n hx hb dX10_faultOf_10 rfl (lv_at hl 1 rfl) ?_
  refine x_Vi F w (As := [.ref (B + 143)]) (rest := []) (a := 3) (by decide) (sh_10 rfl _ _) rfl (c_X10_readTones_12 (h4) (h5)) gv_X10_24 hv_X10_readTones ⟨Nat.le_of_ble_eq_true rfl, Nat.le_of_ble_eq_true rfl⟩ hl.1 rfl (Nat.le_of_ble_eq_true rfl) ⟨Nat.zero_le _, Nat.zero_le _⟩ dX10_faultOf_11 (fun H locs w => ?_)
  refine lv_if_eq (tgt := 37) hx hb dX10_faultOf_14 (by decide) (fun _ => ?_) (fun c1 => absurd c1 (by decide))
  refine lv_iconst (v := 0) hx hb dX10_faultOf_37 (by decide) ?_
  refine lv_istore_n (lv' := [(2, .int 0), (0, .ref (B + 3)), (1, .ref (B + 143))]) hx hb dX10_faultOf_38 rfl hl (by decide) rfl (fun ls hl => ?_)
  refine lv_iload_n hx hb dX10_faultOf_39 rfl (lv_at hl 0 rfl) ?_
  refine lv_if_eq (tgt := 47) hx hb dX10_faultOf_40 (by decide) (fun _ => ?_) (fun c1 => absurd c1 (by decide))
  refine lv_aload_n hx hb dX10_faultOf_47 rfl (lv_at hl 1 rfl) ?_
  refine f_10_1 F w (a := 3) rfl tb_18 dX10_faultOf_48 ?_
  refine r_val (v := 0) (h4) ?_
  exact e_i F w hr hlocks ⟨rfl, rfl⟩ dX10_faultOf_51
theorem tk_X10_faultOf : Cond.code yX10_faultOf cX10_faultOf 3 (some .int) ∈ TB := tbm (tc2 (List.mem_of_getElem? (i := 107) rfl)) rfl
theorem gc_X10_faultOf : GoodIn TB (cw yX10_faultOf cX10_faultOf 3 (some .int)) := goodIn_c2 tk_X10_faultOf
theorem tb_28 : Cond.methodLink "ToneLines" 86 yX10_faultOf ∈ TB := tbm (tc2 (List.mem_of_getElem? (i := 104) rfl)) rfl
theorem tb_29 : Cond.instanceMethod yX10_faultOf ∈ TB := tbm (tc2 (List.mem_of_getElem? (i := 105) rfl)) rfl
theorem tb_30 : Cond.selects "ToneLines$WordReader" yX10_faultOf yX10_faultOf ∈ TB := tbm (tc2 (List.mem_of_getElem? (i := 106) rfl)) rfl
theorem gv_X11_86 : GoodIn TB (wsV RX11 86 RX10 yX10_faultOf (cw yX10_faultOf cX10_faultOf 3 (some .int))) := goodIn_4 tb_28 tb_29 tb_30 tb_27 gc_X10_faultOf
theorem hv_X10_faultOf : yX10_faultOf.cls = RX10 ∧ yX10_faultOf.cls ≠ "java/lang/invoke/MethodHandle" ∧ yX10_faultOf.cls ≠ "java/lang/invoke/VarHandle" ∧ (parseMethodDescriptor yX10_faultOf.desc).map (fun d => d.parameters.length) = some 1 := by decide +kernel
theorem dX11_word_11 : decode cX11_word 11 = .ok (.istore_n 1, 1) := by decide +kernel
theorem dX11_word_12 : decode cX11_word 12 = .ok (.aload_n 0, 1) := by decide +kernel
theorem dX11_word_13 : decode cX11_word 13 = .ok (.getfield 12, 3) := by decide +kernel
theorem dX11_word_16 : decode cX11_word 16 = .ok (.iconst 0, 1) := by decide +kernel
theorem dX11_word_17 : decode cX11_word 17 = .ok (.putfield 78, 3) := by decide +kernel
theorem dX11_word_20 : decode cX11_word 20 = .ok (.iload_n 1, 1) := by decide +kernel
theorem dX11_word_21 : decode cX11_word 21 = .ok (.iconst (-1), 1) := by decide +kernel
theorem dX11_word_22 : decode cX11_word 22 = .ok (.if_icmp .eq 8, 3) := by decide +kernel
theorem dX11_word_25 : decode cX11_word 25 = .ok (.bipush (-4), 2) := by decide +kernel
theorem dX11_word_27 : decode cX11_word 27 = .ok (.iload_n 1, 1) := by decide +kernel
theorem dX11_word_28 : decode cX11_word 28 = .ok (.isub, 1) := by decide +kernel
theorem dX11_word_29 : decode cX11_word 29 = .ok (.ireturn, 1) := by decide +kernel
set_option maxRecDepth 4000 in
theorem c_X11_word_14 {l : Launch} {D : va_G} {B : Nat} {cy : Nat → ClassId} {M : Mem} (h0 : M.1 143 0 = 0) (h1 : M.1 143 1 = 0) (h2 : M.1 143 2 = 0) (h3 : M.1 143 3 = 0) (h4 : M.1 3 1 = 0) (h5 : M.1 1 1 = 0) : Ci l D B cy yX11_word cX11_word 2 (some .int) 3 67 [.ref (B + 0)] M (fun r M1 => r = (-4) ∧ M1 = M) := by
  refine s_any (by decide) (Nat.le_of_ble_eq_true rfl) ?_
  intro p e s m below meth c ls F hr hlocks w hl
  have F : CallFix p m c cX11_word 2 s _ TB RX11 := F
  have hx := F.1
  have hb := F.2.1
  have hl : lv_has ls 2 [(0, .ref (B + 0))] := hl
  refine lv_aload_n hx hb dX11_word_0 rfl (lv_at hl 0 rfl) ?_
  refine f_11_1 F w (a := 0) rfl tb_8 dX11_word_1 ?_
  refine lv_aload_n hx hb dX11_word_4 rfl (lv_at hl 0 rfl) ?_
  refine f_11_9 F w (a := 0) rfl tb_9 dX11_word_5 ?_
  refine x_Vi F w (As := [.ref (B + 143)]) (rest := []) (a := 3) (by decide) (sh_10 rfl _ _) rfl (c_X10_faultOf_13 (h0) (h1) (h2) (h3) (h4) (h5)) gv_X11_86 hv_X10_faultOf ⟨Nat.le_of_ble_eq_true rfl, Nat.le_of_ble_eq_true rfl⟩ hl.1 rfl (Nat.le_of_ble_eq_true rfl) ⟨Nat.zero_le _, Nat.zero_le _⟩ dX11_word_8 (fun H locs w => ?_)
  refine lv_istore_n (lv' := [(1, .int 0), (0, .ref (B + 0))]) hx hb dX11_word_11 rfl hl (by decide) rfl (fun ls hl => ?_)
  refine lv_aload_n hx hb dX11_word_12 rfl (lv_at hl 1 rfl) ?_
  refine f_11_0 F w (a := 0) rfl tb_0 dX11_word_13 ?_
  refine lv_iconst (v := 0) hx hb dX11_word_16 (by decide) ?_
  refine u_8_1 F w (a := 1) rfl tb_1 dX11_word_17 (fun H locs w => ?_)
  rw [st_same (h5)] at w
  refine lv_iload_n hx hb dX11_word_20 rfl (lv_at hl 0 rfl) ?_
  refine lv_iconst (v := (-1)) hx hb dX11_word_21 (by decide) ?_
  refine lv_icmp_eq (tgt := 30) hx hb dX11_word_22 (by decide) (fun c1 => absurd c1 (by decide)) (fun _ => ?_)
  refine lv_bipush (v := (-4)) hx hb dX11_word_25 (by decide) ?_
  refine lv_iload_n hx hb dX11_word_27 rfl (lv_at hl 0 rfl) ?_
  refine lv_isub hx hb dX11_word_28 ?_
  refine r_val (v := (-4)) (by decide) ?_
  exact e_i F w hr hlocks ⟨rfl, rfl⟩ dX11_word_29
theorem dX11_rules_0 : decode cX11_rules 0 = .ok (.aload_n 0, 1) := by decide +kernel
theorem dX11_rules_1 : decode cX11_rules 1 = .ok (.getfield 28, 3) := by decide +kernel
theorem tb_31 : Cond.fieldLink "ToneLines" 28 "ToneLines" "ruleReader" "LToneLines$RuleReader;" ∈ TB := tbm (tc2 (List.mem_of_getElem? (i := 59) rfl)) rfl
theorem dX11_rules_4 : decode cX11_rules 4 = .ok (.invokevirtual 103, 3) := by decide +kernel
theorem dX5_faultOfText_0 : decode cX5_faultOfText 0 = .ok (.aload_n 0, 1) := by decide +kernel
theorem dX5_faultOfText_1 : decode cX5_faultOfText 1 = .ok (.iconst 0, 1) := by decide +kernel
theorem dX5_faultOfText_2 : decode cX5_faultOfText 2 = .ok (.putfield 17, 3) := by decide +kernel
theorem tb_32 : Cond.fieldLink "ToneLines$RuleReader" 17 "ToneLines$RuleReader" "read" "I" ∈ TB := tbm (tc1 (List.mem_of_getElem? (i := 85) rfl)) rfl
theorem dX5_faultOfText_5 : decode cX5_faultOfText 5 = .ok (.aload_n 0, 1) := by decide +kernel
theorem dX5_faultOfText_6 : decode cX5_faultOfText 6 = .ok (.iconst 0, 1) := by decide +kernel
theorem dX5_faultOfText_7 : decode cX5_faultOfText 7 = .ok (.putfield 24, 3) := by decide +kernel
theorem tb_33 : Cond.fieldLink "ToneLines$RuleReader" 24 "ToneLines$RuleReader" "end" "I" ∈ TB := tbm (tc1 (List.mem_of_getElem? (i := 88) rfl)) rfl
theorem dX5_faultOfText_10 : decode cX5_faultOfText 10 = .ok (.aload_n 0, 1) := by decide +kernel
theorem dX5_faultOfText_11 : decode cX5_faultOfText 11 = .ok (.invokevirtual 36, 3) := by decide +kernel
theorem dX5_step_0 : decode cX5_step 0 = .ok (.aload_n 0, 1) := by decide +kernel
theorem dX5_step_1 : decode cX5_step 1 = .ok (.getfield 24, 3) := by decide +kernel
theorem dX5_step_4 : decode cX5_step 4 = .ok (.istore_n 1, 1) := by decide +kernel
theorem dX5_step_5 : decode cX5_step 5 = .ok (.aload_n 0, 1) := by decide +kernel
theorem dX5_step_6 : decode cX5_step 6 = .ok (.aload_n 0, 1) := by decide +kernel
theorem dX5_step_7 : decode cX5_step 7 = .ok (.getfield 31, 3) := by decide +kernel
theorem tb_34 : Cond.fieldLink "ToneLines$RuleReader" 31 "ToneLines$RuleReader" "tape" "LToneLines$Tape;" ∈ TB := tbm (tc1 (List.mem_of_getElem? (i := 82) rfl)) rfl
theorem dX5_step_10 : decode cX5_step 10 = .ok (.iload_n 1, 1) := by decide +kernel
theorem dX5_step_11 : decode cX5_step 11 = .ok (.invokevirtual 48, 3) := by decide +kernel
theorem tb_35 : Cond.methodLink "ToneLines$RuleReader" 48 yX8_skipBlanks ∈ TB := tbm (tc3 (List.mem_of_getElem? (i := 45) rfl)) rfl
theorem gv_X5_48 : GoodIn TB (wsV RX5 48 RX8 yX8_skipBlanks (cw yX8_skipBlanks cX8_skipBlanks 3 (some .int))) := goodIn_4 tb_35 tb_21 tb_22 tb_7 gc_X8_skipBlanks
theorem dX5_step_14 : decode cX5_step 14 = .ok (.putfield 21, 3) := by decide +kernel
theorem tb_36 : Cond.fieldLink "ToneLines$RuleReader" 21 "ToneLines$RuleReader" "start" "I" ∈ TB := tbm (tc1 (List.mem_of_getElem? (i := 87) rfl)) rfl
theorem dX5_step_17 : decode cX5_step 17 = .ok (.aload_n 0, 1) := by decide +kernel
theorem dX5_step_18 : decode cX5_step 18 = .ok (.aload_n 0, 1) := by decide +kernel
theorem dX5_step_19 : decode cX5_step 19 = .ok (.getfield 21, 3) := by decide +kernel
theorem dX5_step_22 : decode cX5_step 22 = .ok (.putfield 24, 3) := by decide +kernel
theorem dX5_step_25 : decode cX5_step 25 = .ok (.aload_n 0, 1) := by decide +kernel
theorem dX5_step_26 : decode cX5_step 26 = .ok (.getfield 24, 3) := by decide +kernel
theorem dX5_step_29 : decode cX5_step 29 = .ok (.aload_n 0, 1) := by decide +kernel
theorem dX5_step_30 : decode cX5_step 30 = .ok (.getfield 31, 3) := by decide +kernel
theorem dX5_step_33 : decode cX5_step 33 = .ok (.getfield 39, 3) := by decide +kernel
theorem tb_37 : Cond.fieldLink "ToneLines$RuleReader" 39 "ToneLines$Tape" "size" "I" ∈ TB := tbm (tc1 (List.mem_of_getElem? (i := 40) rfl)) rfl
theorem dX5_step_36 : decode cX5_step 36 = .ok (.if_icmp .ge 33, 3) := by decide +kernel
theorem dX5_step_69 : decode cX5_step 69 = .ok (.aload_n 0, 1) := by decide +kernel
theorem dX5_step_70 : decode cX5_step 70 = .ok (.getfield 24, 3) := by decide +kernel
theorem dX5_step_73 : decode cX5_step 73 = .ok (.aload_n 0, 1) := by decide +kernel
theorem dX5_step_74 : decode cX5_step 74 = .ok (.getfield 21, 3) := by decide +kernel
theorem dX5_step_77 : decode cX5_step 77 = .ok (.if_icmp .ne 27, 3) := by decide +kernel
theorem dX5_step_80 : decode cX5_step 80 = .ok (.aload_n 0, 1) := by decide +kernel
theorem dX5_step_81 : decode cX5_step 81 = .ok (.getfield 24, 3) := by decide +kernel
theorem dX5_step_84 : decode cX5_step 84 = .ok (.aload_n 0, 1) := by decide +kernel
theorem dX5_step_85 : decode cX5_step 85 = .ok (.getfield 31, 3) := by decide +kernel
theorem dX5_step_88 : decode cX5_step 88 = .ok (.getfield 39, 3) := by decide +kernel
theorem dX5_step_91 : decode cX5_step 91 = .ok (.if_icmp .ge 13, 3) := by decide +kernel
theorem dX5_step_104 : decode cX5_step 104 = .ok (.aload_n 0, 1) := by decide +kernel
theorem dX5_step_105 : decode cX5_step 105 = .ok (.aload_n 0, 1) := by decide +kernel
theorem dX5_step_106 : decode cX5_step 106 = .ok (.getfield 21, 3) := by decide +kernel
theorem dX5_step_109 : decode cX5_step 109 = .ok (.iload_n 1, 1) := by decide +kernel
theorem dX5_step_110 : decode cX5_step 110 = .ok (.if_icmp .ne 40, 3) := by decide +kernel
theorem dX5_step_113 : decode cX5_step 113 = .ok (.aload_n 0, 1) := by decide +kernel
theorem dX5_step_114 : decode cX5_step 114 = .ok (.getfield 31, 3) := by decide +kernel
theorem dX5_step_117 : decode cX5_step 117 = .ok (.iload_n 1, 1) := by decide +kernel
theorem dX5_step_118 : decode cX5_step 118 = .ok (.iconst 1, 1) := by decide +kernel
theorem dX5_step_119 : decode cX5_step 119 = .ok (.isub, 1) := by decide +kernel
theorem dX5_step_120 : decode cX5_step 120 = .ok (.invokevirtual 52, 3) := by decide +kernel
theorem dX8_signAt_0 : decode cX8_signAt 0 = .ok (.iload_n 1, 1) := by decide +kernel
theorem dX8_signAt_1 : decode cX8_signAt 1 = .ok (.ifCond .lt 31, 3) := by decide +kernel
theorem dX8_signAt_32 : decode cX8_signAt 32 = .ok (.iconst (-1), 1) := by decide +kernel
theorem dX8_signAt_33 : decode cX8_signAt 33 = .ok (.ireturn, 1) := by decide +kernel
set_option maxRecDepth 4000 in
theorem c_X8_signAt_15 {l : Launch} {D : va_G} {B : Nat} {cy : Nat → ClassId} {M : Mem} : Ci l D B cy yX8_signAt cX8_signAt 2 (some .int) 0 0 [.ref (B + 1), .int (-1)] M (fun r M1 => r = (-1) ∧ M1 = M) := by
  refine s_any (by decide) (Nat.le_of_ble_eq_true rfl) ?_
  intro p e s m below meth c ls F hr hlocks w hl
  have F : CallFix p m c cX8_signAt 2 s _ TB RX8 := F
  have hx := F.1
  have hb := F.2.1
  have hl : lv_has ls 2 [(0, .ref (B + 1)), (1, .int (-1))] := hl
  refine lv_iload_n hx hb dX8_signAt_0 rfl (lv_at hl 1 rfl) ?_
  refine lv_if_lt (tgt := 32) hx hb dX8_signAt_1 (by decide) (fun _ => ?_) (fun c1 => absurd c1 (by decide))
  refine lv_iconst (v := (-1)) hx hb dX8_signAt_32 (by decide) ?_
  exact e_i F w hr hlocks ⟨rfl, rfl⟩ dX8_signAt_33
theorem tk_X8_signAt : Cond.code yX8_signAt cX8_signAt 2 (some .int) ∈ TB := tbm (tc2 (List.mem_of_getElem? (i := 123) rfl)) rfl
theorem gc_X8_signAt : GoodIn TB (cw yX8_signAt cX8_signAt 2 (some .int)) := goodIn_c2 tk_X8_signAt
theorem tb_38 : Cond.methodLink "ToneLines$RuleReader" 52 yX8_signAt ∈ TB := tbm (tc3 (List.mem_of_getElem? (i := 46) rfl)) rfl
theorem tb_39 : Cond.instanceMethod yX8_signAt ∈ TB := tbm (tc2 (List.mem_of_getElem? (i := 121) rfl)) rfl
theorem tb_40 : Cond.selects "ToneLines$Tape" yX8_signAt yX8_signAt ∈ TB := tbm (tc2 (List.mem_of_getElem? (i := 122) rfl)) rfl
theorem gv_X5_52 : GoodIn TB (wsV RX5 52 RX8 yX8_signAt (cw yX8_signAt cX8_signAt 2 (some .int))) := goodIn_4 tb_38 tb_39 tb_40 tb_7 gc_X8_signAt
theorem hv_X8_signAt : yX8_signAt.cls = RX8 ∧ yX8_signAt.cls ≠ "java/lang/invoke/MethodHandle" ∧ yX8_signAt.cls ≠ "java/lang/invoke/VarHandle" ∧ (parseMethodDescriptor yX8_signAt.desc).map (fun d => d.parameters.length) = some 1 := by decide +kernel
theorem dX5_step_123 : decode cX5_step 123 = .ok (.invokestatic 59, 3) := by decide +kernel
theorem dX5_needsBlank_0 : decode cX5_needsBlank 0 = .ok (.iload_n 0, 1) := by decide +kernel
theorem dX5_needsBlank_1 : decode cX5_needsBlank 1 = .ok (.bipush 97, 2) := by decide +kernel
theorem dX5_needsBlank_3 : decode cX5_needsBlank 3 = .ok (.if_icmp .lt 9, 3) := by decide +kernel
theorem dX5_needsBlank_12 : decode cX5_needsBlank 12 = .ok (.iload_n 0, 1) := by decide +kernel
theorem dX5_needsBlank_13 : decode cX5_needsBlank 13 = .ok (.bipush 48, 2) := by decide +kernel
theorem dX5_needsBlank_15 : decode cX5_needsBlank 15 = .ok (.if_icmp .lt 13, 3) := by decide +kernel
theorem dX5_needsBlank_28 : decode cX5_needsBlank 28 = .ok (.iconst 0, 1) := by decide +kernel
theorem dX5_needsBlank_29 : decode cX5_needsBlank 29 = .ok (.ireturn, 1) := by decide +kernel
set_option maxRecDepth 4000 in
theorem c_X5_needsBlank_16 {l : Launch} {D : va_G} {B : Nat} {cy : Nat → ClassId} {M : Mem} : Ci l D B cy yX5_needsBlank cX5_needsBlank 1 (some .boolean) 0 0 [.int (-1)] M (fun r M1 => r = 0 ∧ M1 = M) := by
  refine s_any (by decide) (Nat.le_of_ble_eq_true rfl) ?_
  intro p e s m below meth c ls F hr hlocks w hl
  have F : CallFix p m c cX5_needsBlank 1 s _ TB RX5 := F
  have hx := F.1
  have hb := F.2.1
  have hl : lv_has ls 1 [(0, .int (-1))] := hl
  refine lv_iload_n hx hb dX5_needsBlank_0 rfl (lv_at hl 0 rfl) ?_
  refine lv_bipush (v := 97) hx hb dX5_needsBlank_1 (by decide) ?_
  refine lv_icmp_lt (tgt := 12) hx hb dX5_needsBlank_3 (by decide) (fun _ => ?_) (fun c1 => absurd c1 (by decide))
  refine lv_iload_n hx hb dX5_needsBlank_12 rfl (lv_at hl 0 rfl) ?_
  refine lv_bipush (v := 48) hx hb dX5_needsBlank_13 (by decide) ?_
  refine lv_icmp_lt (tgt := 28) hx hb dX5_needsBlank_15 (by decide) (fun _ => ?_) (fun c1 => absurd c1 (by decide))
  refine lv_iconst (v := 0) hx hb dX5_needsBlank_28 (by decide) ?_
  exact e_z F w hr hlocks (by decide) ⟨rfl, rfl⟩ dX5_needsBlank_29
theorem tk_X5_needsBlank : Cond.code yX5_needsBlank cX5_needsBlank 1 (some .boolean) ∈ TB := tbm (tc3 (List.mem_of_getElem? (i := 52) rfl)) rfl
theorem gc_X5_needsBlank : GoodIn TB (cw yX5_needsBlank cX5_needsBlank 1 (some .boolean)) := goodIn_c2 tk_X5_needsBlank
theorem tb_41 : Cond.methodLink "ToneLines$RuleReader" 59 yX5_needsBlank ∈ TB := tbm (tc3 (List.mem_of_getElem? (i := 50) rfl)) rfl
theorem tb_42 : Cond.static yX5_needsBlank ∈ TB := tbm (tc3 (List.mem_of_getElem? (i := 51) rfl)) rfl
theorem tb_43 : Cond.initialized "ToneLines$RuleReader" ∈ TB := tbm (tc1 (List.mem_of_getElem? (i := 4) rfl)) rfl
theorem gs_X5_59 : GoodIn TB (va_wsS RX5 59 yX5_needsBlank (cw yX5_needsBlank cX5_needsBlank 1 (some .boolean))) := goodIn_3 tb_41 tb_42 tb_43 gc_X5_needsBlank
theorem hs_X5_needsBlank : yX5_needsBlank.cls ≠ "java/lang/invoke/MethodHandle" ∧ yX5_needsBlank.cls ≠ "java/lang/invoke/VarHandle" ∧ (parseMethodDescriptor yX5_needsBlank.desc).map (fun d => d.parameters.length) = some 1 := by decide +kernel
theorem dX5_step_126 : decode cX5_step 126 = .ok (.ifCond .eq 24, 3) := by decide +kernel
theorem dX5_step_150 : decode cX5_step 150 = .ok (.iconst 0, 1) := by decide +kernel
theorem dX5_step_151 : decode cX5_step 151 = .ok (.putfield 27, 3) := by decide +kernel
theorem tb_44 : Cond.fieldLink "ToneLines$RuleReader" 27 "ToneLines$RuleReader" "joined" "Z" ∈ TB := tbm (tc1 (List.mem_of_getElem? (i := 89) rfl)) rfl
theorem dX5_step_154 : decode cX5_step 154 = .ok (.return_, 1) := by decide +kernel
set_option maxRecDepth 4000 in
theorem c_X5_step_17 {l : Launch} {D : va_G} {B : Nat} {cy : Nat → ClassId} {M : Mem} (h0 : M.1 4 4 = 0) (h1 : M.1 1 1 = 0) (h2 : M.1 4 3 = 0) (h3 : M.1 4 5 = 0) : Cv l D B cy yX5_step cX5_step 2 1 22 [.ref (B + 4)] M (fun M1 => M1 = M) := by
  refine s_any (by decide) (Nat.le_of_ble_eq_true rfl) ?_
  intro p e s m below meth c ls F hr hlocks w hl
  have F : CallFix p m c cX5_step 2 s _ TB RX5 := F
  have hx := F.1
  have hb := F.2.1
  have hl : lv_has ls 2 [(0, .ref (B + 4))] := hl
  refine lv_aload_n hx hb dX5_step_0 rfl (lv_at hl 0 rfl) ?_
  refine f_5_4 F w (a := 4) rfl tb_33 dX5_step_1 ?_
  refine r_val (v := 0) (h0) ?_
  refine lv_istore_n (lv' := [(1, .int 0), (0, .ref (B + 4))]) hx hb dX5_step_4 rfl hl (by decide) rfl (fun ls hl => ?_)
  refine lv_aload_n hx hb dX5_step_5 rfl (lv_at hl 1 rfl) ?_
  refine lv_aload_n hx hb dX5_step_6 rfl (lv_at hl 1 rfl) ?_
  refine f_5_0 F w (a := 4) rfl tb_34 dX5_step_7 ?_
  refine lv_iload_n hx hb dX5_step_10 rfl (lv_at hl 0 rfl) ?_
  refine x_Vi F w (As := [.int 0]) (rest := [.ref (B + 4)]) (a := 1) (by decide) (sh_8 rfl _ _) rfl (c_X8_skipBlanks_11 (h1)) gv_X5_48 hv_X8_skipBlanks ⟨Nat.le_of_ble_eq_true rfl, Nat.le_of_ble_eq_true rfl⟩ hl.1 rfl (Nat.le_of_ble_eq_true rfl) ⟨Nat.zero_le _, Nat.zero_le _⟩ dX5_step_11 (fun H locs w => ?_)
  refine u_5_3 F w (a := 4) rfl tb_36 dX5_step_14 (fun H locs w => ?_)
  rw [st_same (h2)] at w
  refine lv_aload_n hx hb dX5_step_17 rfl (lv_at hl 1 rfl) ?_
  refine lv_aload_n hx hb dX5_step_18 rfl (lv_at hl 1 rfl) ?_
  refine f_5_3 F w (a := 4) rfl tb_36 dX5_step_19 ?_
  refine r_val (v := 0) (h2) ?_
  refine u_5_4 F w (a := 4) rfl tb_33 dX5_step_22 (fun H locs w => ?_)
  rw [st_same (h0)] at w
  refine lv_aload_n hx hb dX5_step_25 rfl (lv_at hl 1 rfl) ?_
  refine f_5_4 F w (a := 4) rfl tb_33 dX5_step_26 ?_
  refine r_val (v := 0) (h0) ?_
  refine lv_aload_n hx hb dX5_step_29 rfl (lv_at hl 1 rfl) ?_
  refine f_5_0 F w (a := 4) rfl tb_34 dX5_step_30 ?_
  refine f_8_1 F w (a := 1) rfl tb_37 dX5_step_33 ?_
  refine r_val (v := 0) (h1) ?_
  refine lv_icmp_ge (tgt := 69) hx hb dX5_step_36 (by decide) (fun _ => ?_) (fun c1 => absurd c1 (by decide))
  refine lv_aload_n hx hb dX5_step_69 rfl (lv_at hl 1 rfl) ?_
  refine f_5_4 F w (a := 4) rfl tb_33 dX5_step_70 ?_
  refine r_val (v := 0) (h0) ?_
  refine lv_aload_n hx hb dX5_step_73 rfl (lv_at hl 1 rfl) ?_
  refine f_5_3 F w (a := 4) rfl tb_36 dX5_step_74 ?_
  refine r_val (v := 0) (h2) ?_
  refine lv_icmp_ne (tgt := 104) hx hb dX5_step_77 (by decide) (fun c1 => absurd c1 (by decide)) (fun _ => ?_)
  refine lv_aload_n hx hb dX5_step_80 rfl (lv_at hl 1 rfl) ?_
  refine f_5_4 F w (a := 4) rfl tb_33 dX5_step_81 ?_
  refine r_val (v := 0) (h0) ?_
  refine lv_aload_n hx hb dX5_step_84 rfl (lv_at hl 1 rfl) ?_
  refine f_5_0 F w (a := 4) rfl tb_34 dX5_step_85 ?_
  refine f_8_1 F w (a := 1) rfl tb_37 dX5_step_88 ?_
  refine r_val (v := 0) (h1) ?_
  refine lv_icmp_ge (tgt := 104) hx hb dX5_step_91 (by decide) (fun _ => ?_) (fun c1 => absurd c1 (by decide))
  refine lv_aload_n hx hb dX5_step_104 rfl (lv_at hl 1 rfl) ?_
  refine lv_aload_n hx hb dX5_step_105 rfl (lv_at hl 1 rfl) ?_
  refine f_5_3 F w (a := 4) rfl tb_36 dX5_step_106 ?_
  refine r_val (v := 0) (h2) ?_
  refine lv_iload_n hx hb dX5_step_109 rfl (lv_at hl 0 rfl) ?_
  refine lv_icmp_ne (tgt := 150) hx hb dX5_step_110 (by decide) (fun c1 => absurd c1 (by decide)) (fun _ => ?_)
  refine lv_aload_n hx hb dX5_step_113 rfl (lv_at hl 1 rfl) ?_
  refine f_5_0 F w (a := 4) rfl tb_34 dX5_step_114 ?_
  refine lv_iload_n hx hb dX5_step_117 rfl (lv_at hl 0 rfl) ?_
  refine lv_iconst (v := 1) hx hb dX5_step_118 (by decide) ?_
  refine lv_isub hx hb dX5_step_119 ?_
  refine r_val (v := (-1)) (by decide) ?_
  refine x_Vi F w (As := [.int (-1)]) (rest := [.ref (B + 4)]) (a := 1) (by decide) (sh_8 rfl _ _) rfl (c_X8_signAt_15) gv_X5_52 hv_X8_signAt ⟨Nat.le_of_ble_eq_true rfl, Nat.le_of_ble_eq_true rfl⟩ hl.1 rfl (Nat.le_of_ble_eq_true rfl) ⟨Nat.zero_le _, Nat.zero_le _⟩ dX5_step_120 (fun H locs w => ?_)
  refine x_Si F w (As := [.int (-1)]) (rest := [.ref (B + 4)]) (c_X5_needsBlank_16) gs_X5_59 hs_X5_needsBlank ⟨Nat.le_of_ble_eq_true rfl, Nat.le_of_ble_eq_true rfl⟩ hl.1 rfl (Nat.le_of_ble_eq_true rfl) ⟨Nat.zero_le _, Nat.zero_le _⟩ dX5_step_123 (fun H locs w => ?_)
  refine lv_if_eq (tgt := 150) hx hb dX5_step_126 (by decide) (fun _ => ?_) (fun c1 => absurd c1 (by decide))
  refine lv_iconst (v := 0) hx hb dX5_step_150 (by decide) ?_
  refine u_5_5 F w (a := 4) rfl (by decide) (by decide) tb_44 dX5_step_151 (fun H locs w => ?_)
  rw [st_same (h3)] at w
  exact e_v F w hr hlocks rfl dX5_step_154
theorem tk_X5_step : Cond.code yX5_step cX5_step 2 none ∈ TB := tbm (tc3 (List.mem_of_getElem? (i := 44) rfl)) rfl
theorem gc_X5_step : GoodIn TB (cw yX5_step cX5_step 2 none) := goodIn_c2 tk_X5_step
theorem tb_45 : Cond.methodLink "ToneLines$RuleReader" 36 yX5_step ∈ TB := tbm (tc3 (List.mem_of_getElem? (i := 41) rfl)) rfl
theorem tb_46 : Cond.instanceMethod yX5_step ∈ TB := tbm (tc3 (List.mem_of_getElem? (i := 43) rfl)) rfl
theorem tb_47 : Cond.selects "ToneLines$RuleReader" yX5_step yX5_step ∈ TB := tbp (List.mem_of_getElem? (i := 6) rfl) rfl
theorem gv_X5_36 : GoodIn TB (wsV RX5 36 RX5 yX5_step (cw yX5_step cX5_step 2 none)) := goodIn_4 tb_45 tb_46 tb_47 tb_43 gc_X5_step
theorem hv_X5_step : yX5_step.cls = RX5 ∧ yX5_step.cls ≠ "java/lang/invoke/MethodHandle" ∧ yX5_step.cls ≠ "java/lang/invoke/VarHandle" ∧ (parseMethodDescriptor yX5_step.desc).map (fun d => d.parameters.length) = some 0 := by decide +kernel
theorem dX5_faultOfText_14 : decode cX5_faultOfText 14 = .ok (.aload_n 0, 1) := by decide +kernel
theorem dX5_faultOfText_15 : decode cX5_faultOfText 15 = .ok (.getfield 21, 3) := by decide +kernel
theorem dX5_faultOfText_18 : decode cX5_faultOfText 18 = .ok (.aload_n 0, 1) := by decide +kernel
theorem dX5_faultOfText_19 : decode cX5_faultOfText 19 = .ok (.getfield 31, 3) := by decide +kernel
theorem dX5_faultOfText_22 : decode cX5_faultOfText 22 = .ok (.getfield 39, 3) := by decide +kernel
theorem dX5_faultOfText_25 : decode cX5_faultOfText 25 = .ok (.if_icmp .ge 46, 3) := by decide +kernel
theorem dX5_faultOfText_71 : decode cX5_faultOfText 71 = .ok (.iconst (-1), 1) := by decide +kernel
theorem dX5_faultOfText_72 : decode cX5_faultOfText 72 = .ok (.ireturn, 1) := by decide +kernel
set_option maxRecDepth 4000 in
theorem c_X5_faultOfText_18 {l : Launch} {D : va_G} {B : Nat} {cy : Nat → ClassId} {M : Mem} (h0 : M.1 4 2 = 0) (h1 : M.1 4 4 = 0) (h2 : M.1 1 1 = 0) (h3 : M.1 4 3 = 0) (h4 : M.1 4 5 = 0) : Ci l D B cy yX5_faultOfText cX5_faultOfText 1 (some .int) 2 43 [.ref (B + 4)] M (fun r M1 => r = (-1) ∧ M1 = M) := by
  refine s_any (by decide) (Nat.le_of_ble_eq_true rfl) ?_
  intro p e s m below meth c ls F hr hlocks w hl
  have F : CallFix p m c cX5_faultOfText 1 s _ TB RX5 := F
  have hx := F.1
  have hb := F.2.1
  have hl : lv_has ls 1 [(0, .ref (B + 4))] := hl
  refine lv_aload_n hx hb dX5_faultOfText_0 rfl (lv_at hl 0 rfl) ?_
  refine lv_iconst (v := 0) hx hb dX5_faultOfText_1 (by decide) ?_
  refine u_5_2 F w (a := 4) rfl tb_32 dX5_faultOfText_2 (fun H locs w => ?_)
  rw [st_same (h0)] at w
  refine lv_aload_n hx hb dX5_faultOfText_5 rfl (lv_at hl 0 rfl) ?_
  refine lv_iconst (v := 0) hx hb dX5_faultOfText_6 (by decide) ?_
  refine u_5_4 F w (a := 4) rfl tb_33 dX5_faultOfText_7 (fun H locs w => ?_)
  rw [st_same (h1)] at w
  refine lv_aload_n hx hb dX5_faultOfText_10 rfl (lv_at hl 0 rfl) ?_
  refine x_Vv F w (As := []) (rest := []) (a := 4) (by decide) (sh_5 rfl _ _) rfl (c_X5_step_17 (h1) (h2) (h3) (h4)) gv_X5_36 hv_X5_step ⟨Nat.le_of_ble_eq_true rfl, Nat.le_of_ble_eq_true rfl⟩ hl.1 rfl (Nat.le_of_ble_eq_true rfl) ⟨Nat.zero_le _, Nat.zero_le _⟩ dX5_faultOfText_11 (fun H locs w => ?_)
  refine lv_aload_n hx hb dX5_faultOfText_14 rfl (lv_at hl 0 rfl) ?_
  refine f_5_3 F w (a := 4) rfl tb_36 dX5_faultOfText_15 ?_
  refine r_val (v := 0) (h3) ?_
  refine lv_aload_n hx hb dX5_faultOfText_18 rfl (lv_at hl 0 rfl) ?_
  refine f_5_0 F w (a := 4) rfl tb_34 dX5_faultOfText_19 ?_
  refine f_8_1 F w (a := 1) rfl tb_37 dX5_faultOfText_22 ?_
  refine r_val (v := 0) (h2) ?_
  refine lv_icmp_ge (tgt := 71) hx hb dX5_faultOfText_25 (by decide) (fun _ => ?_) (fun c1 => absurd c1 (by decide))
  refine lv_iconst (v := (-1)) hx hb dX5_faultOfText_71 (by decide) ?_
  exact e_i F w hr hlocks ⟨rfl, rfl⟩ dX5_faultOfText_72
theorem tk_X5_faultOfText : Cond.code yX5_faultOfText cX5_faultOfText 1 (some .int) ∈ TB := tbm (tc3 (List.mem_of_getElem? (i := 40) rfl)) rfl
theorem gc_X5_faultOfText : GoodIn TB (cw yX5_faultOfText cX5_faultOfText 1 (some .int)) := goodIn_c2 tk_X5_faultOfText
theorem tb_48 : Cond.methodLink "ToneLines" 103 yX5_faultOfText ∈ TB := tbm (tc3 (List.mem_of_getElem? (i := 37) rfl)) rfl
theorem tb_49 : Cond.instanceMethod yX5_faultOfText ∈ TB := tbm (tc3 (List.mem_of_getElem? (i := 38) rfl)) rfl
theorem tb_50 : Cond.selects "ToneLines$RuleReader" yX5_faultOfText yX5_faultOfText ∈ TB := tbm (tc3 (List.mem_of_getElem? (i := 39) rfl)) rfl
theorem gv_X11_103 : GoodIn TB (wsV RX11 103 RX5 yX5_faultOfText (cw yX5_faultOfText cX5_faultOfText 1 (some .int))) := goodIn_4 tb_48 tb_49 tb_50 tb_43 gc_X5_faultOfText
theorem hv_X5_faultOfText : yX5_faultOfText.cls = RX5 ∧ yX5_faultOfText.cls ≠ "java/lang/invoke/MethodHandle" ∧ yX5_faultOfText.cls ≠ "java/lang/invoke/VarHandle" ∧ (parseMethodDescriptor yX5_faultOfText.desc).map (fun d => d.parameters.length) = some 0 := by decide +kernel
theorem dX11_rules_7 : decode cX11_rules 7 = .ok (.istore_n 1, 1) := by decide +kernel
theorem dX11_rules_8 : decode cX11_rules 8 = .ok (.aload_n 0, 1) := by decide +kernel
theorem dX11_rules_9 : decode cX11_rules 9 = .ok (.getfield 12, 3) := by decide +kernel
theorem dX11_rules_12 : decode cX11_rules 12 = .ok (.iconst 0, 1) := by decide +kernel
theorem dX11_rules_13 : decode cX11_rules 13 = .ok (.putfield 78, 3) := by decide +kernel
theorem dX11_rules_16 : decode cX11_rules 16 = .ok (.iload_n 1, 1) := by decide +kernel
theorem dX11_rules_17 : decode cX11_rules 17 = .ok (.iconst (-1), 1) := by decide +kernel
theorem dX11_rules_18 : decode cX11_rules 18 = .ok (.if_icmp .eq 8, 3) := by decide +kernel
theorem dX11_rules_26 : decode cX11_rules 26 = .ok (.aload_n 0, 1) := by decide +kernel
theorem dX11_rules_27 : decode cX11_rules 27 = .ok (.getfield 35, 3) := by decide +kernel
theorem tb_51 : Cond.fieldLink "ToneLines" 35 "ToneLines" "derivation" "LToneLines$Derivation;" ∈ TB := tbm (tc2 (List.mem_of_getElem? (i := 60) rfl)) rfl
theorem dX11_rules_30 : decode cX11_rules 30 = .ok (.aload_n 0, 1) := by decide +kernel
theorem dX11_rules_31 : decode cX11_rules 31 = .ok (.getfield 28, 3) := by decide +kernel
theorem dX11_rules_34 : decode cX11_rules 34 = .ok (.getfield 107, 3) := by decide +kernel
theorem tb_52 : Cond.fieldLink "ToneLines" 107 "ToneLines$RuleReader" "drafts" "[LToneLines$Rule;" ∈ TB := tbm (tc1 (List.mem_of_getElem? (i := 84) rfl)) rfl
theorem dX11_rules_37 : decode cX11_rules 37 = .ok (.aload_n 0, 1) := by decide +kernel
theorem dX11_rules_38 : decode cX11_rules 38 = .ok (.getfield 28, 3) := by decide +kernel
theorem dX11_rules_41 : decode cX11_rules 41 = .ok (.getfield 111, 3) := by decide +kernel
theorem tb_53 : Cond.fieldLink "ToneLines" 111 "ToneLines$RuleReader" "read" "I" ∈ TB := tbm (tc1 (List.mem_of_getElem? (i := 86) rfl)) rfl
theorem dX11_rules_44 : decode cX11_rules 44 = .ok (.invokevirtual 114, 3) := by decide +kernel
theorem dX0_takeRules_0 : decode cX0_takeRules 0 = .ok (.aload_n 0, 1) := by decide +kernel
theorem dX0_takeRules_1 : decode cX0_takeRules 1 = .ok (.iload_n 2, 1) := by decide +kernel
theorem dX0_takeRules_2 : decode cX0_takeRules 2 = .ok (.bipush 8, 2) := by decide +kernel
theorem dX0_takeRules_4 : decode cX0_takeRules 4 = .ok (.invokestatic 50, 3) := by decide +kernel
theorem tb_54 : Cond.methodLink "ToneLines$Derivation" 50 yJ9_min_7cf53 ∈ TB := tbm (tc3 (List.mem_of_getElem? (i := 127) rfl)) rfl
theorem tb_55 : Cond.static yJ9_min_7cf53 ∈ TB := tbm (tc2 (List.mem_of_getElem? (i := 157) rfl)) rfl
theorem tb_56 : Cond.initialized "java/lang/Math" ∈ TB := tbm (tc1 (List.mem_of_getElem? (i := 16) rfl)) rfl
theorem tq_min : Cond.code Lib.Math.min.name Lib.Math.min.code 2 (some .int) ∈ TB := tbm (tc2 (List.mem_of_getElem? (i := 158) rfl)) rfl
theorem dX0_takeRules_7 : decode cX0_takeRules 7 = .ok (.putfield 24, 3) := by decide +kernel
theorem tb_58 : Cond.fieldLink "ToneLines$Derivation" 24 "ToneLines$Derivation" "size" "I" ∈ TB := tbm (tc1 (List.mem_of_getElem? (i := 170) rfl)) rfl
theorem dX0_takeRules_10 : decode cX0_takeRules 10 = .ok (.iconst 0, 1) := by decide +kernel
theorem dX0_takeRules_11 : decode cX0_takeRules 11 = .ok (.istore_n 3, 1) := by decide +kernel
theorem dX0_takeRules_12 : decode cX0_takeRules 12 = .ok (.iload_n 3, 1) := by decide +kernel
theorem dX0_takeRules_13 : decode cX0_takeRules 13 = .ok (.aload_n 0, 1) := by decide +kernel
theorem dX0_takeRules_14 : decode cX0_takeRules 14 = .ok (.getfield 24, 3) := by decide +kernel
theorem dX0_takeRules_17 : decode cX0_takeRules 17 = .ok (.if_icmp .ge 27, 3) := by decide +kernel
theorem dX0_takeRules_44 : decode cX0_takeRules 44 = .ok (.return_, 1) := by decide +kernel
set_option maxRecDepth 4000 in
theorem c_X0_takeRules_19 {l : Launch} {D : va_G} {B : Nat} {cy : Nat → ClassId} {M : Mem} (h0 : M.1 22 2 = 0) : Cv l D B cy yX0_takeRules cX0_takeRules 4 1 14 [.ref (B + 22), .ref (B + 5), .int 0] M (fun M1 => M1 = M) := by
  refine s_any (by decide) (Nat.le_of_ble_eq_true rfl) ?_
  intro p e s m below meth c ls F hr hlocks w hl
  have F : CallFix p m c cX0_takeRules 4 s _ TB RX0 := F
  have hx := F.1
  have hb := F.2.1
  have hl : lv_has ls 4 [(0, .ref (B + 22)), (1, .ref (B + 5)), (2, .int 0)] := hl
  refine lv_aload_n hx hb dX0_takeRules_0 rfl (lv_at hl 0 rfl) ?_
  refine lv_iload_n hx hb dX0_takeRules_1 rfl (lv_at hl 2 rfl) ?_
  refine lv_bipush (v := 8) hx hb dX0_takeRules_2 (by decide) ?_
  refine g_min F hl.1 tb_54 tb_55 tb_56 tq_min (Nat.le_of_ble_eq_true rfl) (Nat.le_of_ble_eq_true rfl) (Nat.zero_le _) (Nat.zero_le _) (v := 0) (by decide) dX0_takeRules_4 ?_
  refine u_0_2 F w (a := 22) rfl tb_58 dX0_takeRules_7 (fun H locs w => ?_)
  rw [st_same (h0)] at w
  refine lv_iconst (v := 0) hx hb dX0_takeRules_10 (by decide) ?_
  refine lv_istore_n (lv' := [(3, .int 0), (0, .ref (B + 22)), (1, .ref (B + 5)), (2, .int 0)]) hx hb dX0_takeRules_11 rfl hl (by decide) rfl (fun ls hl => ?_)
  refine lv_iload_n hx hb dX0_takeRules_12 rfl (lv_at hl 0 rfl) ?_
  refine lv_aload_n hx hb dX0_takeRules_13 rfl (lv_at hl 1 rfl) ?_
  refine f_0_2 F w (a := 22) rfl tb_58 dX0_takeRules_14 ?_
  refine r_val (v := 0) (h0) ?_
  refine lv_icmp_ge (tgt := 44) hx hb dX0_takeRules_17 (by decide) (fun _ => ?_) (fun c1 => absurd c1 (by decide))
  exact e_v F w hr hlocks rfl dX0_takeRules_44
theorem tk_X0_takeRules : Cond.code yX0_takeRules cX0_takeRules 4 none ∈ TB := tbm (tc3 (List.mem_of_getElem? (i := 126) rfl)) rfl
theorem gc_X0_takeRules : GoodIn TB (cw yX0_takeRules cX0_takeRules 4 none) := goodIn_c2 tk_X0_takeRules
theorem tb_59 : Cond.methodLink "ToneLines" 114 yX0_takeRules ∈ TB := tbm (tc3 (List.mem_of_getElem? (i := 123) rfl)) rfl
theorem tb_60 : Cond.instanceMethod yX0_takeRules ∈ TB := tbm (tc3 (List.mem_of_getElem? (i := 124) rfl)) rfl
theorem tb_61 : Cond.selects "ToneLines$Derivation" yX0_takeRules yX0_takeRules ∈ TB := tbm (tc3 (List.mem_of_getElem? (i := 125) rfl)) rfl
theorem tb_62 : Cond.initialized "ToneLines$Derivation" ∈ TB := tbm (tc1 (List.mem_of_getElem? (i := 6) rfl)) rfl
theorem gv_X11_114 : GoodIn TB (wsV RX11 114 RX0 yX0_takeRules (cw yX0_takeRules cX0_takeRules 4 none)) := goodIn_4 tb_59 tb_60 tb_61 tb_62 gc_X0_takeRules
theorem hv_X0_takeRules : yX0_takeRules.cls = RX0 ∧ yX0_takeRules.cls ≠ "java/lang/invoke/MethodHandle" ∧ yX0_takeRules.cls ≠ "java/lang/invoke/VarHandle" ∧ (parseMethodDescriptor yX0_takeRules.desc).map (fun d => d.parameters.length) = some 2 := by decide +kernel
theorem dX11_rules_47 : decode cX11_rules 47 = .ok (.aload_n 0, 1) := by decide +kernel
theorem dX11_rules_48 : decode cX11_rules 48 = .ok (.invokevirtual 97, 3) := by decide +kernel
theorem dX11_outdate_0 : decode cX11_outdate 0 = .ok (.aload_n 0, 1) := by decide +kernel
theorem dX11_outdate_1 : decode cX11_outdate 1 = .ok (.getfield 35, 3) := by decide +kernel
theorem dX11_outdate_4 : decode cX11_outdate 4 = .ok (.iconst 0, 1) := by decide +kernel
theorem dX11_outdate_5 : decode cX11_outdate 5 = .ok (.putfield 301, 3) := by decide +kernel
theorem tb_63 : Cond.fieldLink "ToneLines" 301 "ToneLines$Derivation" "ready" "I" ∈ TB := tbm (tc1 (List.mem_of_getElem? (i := 184) rfl)) rfl
theorem dX11_outdate_8 : decode cX11_outdate 8 = .ok (.aload_n 0, 1) := by decide +kernel
theorem dX11_outdate_9 : decode cX11_outdate 9 = .ok (.getfield 54, 3) := by decide +kernel
theorem tb_64 : Cond.fieldLink "ToneLines" 54 "ToneLines" "ordering" "LToneLines$Orders;" ∈ TB := tbm (tc2 (List.mem_of_getElem? (i := 63) rfl)) rfl
theorem dX11_outdate_12 : decode cX11_outdate 12 = .ok (.iconst 0, 1) := by decide +kernel
theorem dX11_outdate_13 : decode cX11_outdate 13 = .ok (.putfield 271, 3) := by decide +kernel
theorem tb_65 : Cond.fieldLink "ToneLines" 271 "ToneLines$Orders" "inDate" "Z" ∈ TB := tbm (tc1 (List.mem_of_getElem? (i := 230) rfl)) rfl
theorem dX11_outdate_16 : decode cX11_outdate 16 = .ok (.aload_n 0, 1) := by decide +kernel
theorem dX11_outdate_17 : decode cX11_outdate 17 = .ok (.getfield 61, 3) := by decide +kernel
theorem tb_66 : Cond.fieldLink "ToneLines" 61 "ToneLines" "alikes" "LToneLines$Sources;" ∈ TB := tbm (tc2 (List.mem_of_getElem? (i := 64) rfl)) rfl
theorem dX11_outdate_20 : decode cX11_outdate 20 = .ok (.iconst 0, 1) := by decide +kernel
theorem dX11_outdate_21 : decode cX11_outdate 21 = .ok (.putfield 304, 3) := by decide +kernel
theorem tb_67 : Cond.fieldLink "ToneLines" 304 "ToneLines$Sources" "known" "I" ∈ TB := tbm (tc2 (List.mem_of_getElem? (i := 24) rfl)) rfl
theorem dX11_outdate_24 : decode cX11_outdate 24 = .ok (.return_, 1) := by decide +kernel
set_option maxRecDepth 4000 in
theorem c_X11_outdate_20 {l : Launch} {D : va_G} {B : Nat} {cy : Nat → ClassId} {M : Mem} (h0 : M.1 22 7 = 0) (h1 : M.1 109 0 = 0) (h2 : M.1 135 0 = 0) : Cv l D B cy yX11_outdate cX11_outdate 1 0 0 [.ref (B + 0)] M (fun M1 => M1 = M) := by
  refine s_any (by decide) (Nat.le_of_ble_eq_true rfl) ?_
  intro p e s m below meth c ls F hr hlocks w hl
  have F : CallFix p m c cX11_outdate 1 s _ TB RX11 := F
  have hx := F.1
  have hb := F.2.1
  have hl : lv_has ls 1 [(0, .ref (B + 0))] := hl
  refine lv_aload_n hx hb dX11_outdate_0 rfl (lv_at hl 0 rfl) ?_
  refine f_11_3 F w (a := 0) rfl tb_51 dX11_outdate_1 ?_
  refine lv_iconst (v := 0) hx hb dX11_outdate_4 (by decide) ?_
  refine u_0_7 F w (a := 22) rfl tb_63 dX11_outdate_5 (fun H locs w => ?_)
  rw [st_same (h0)] at w
  refine lv_aload_n hx hb dX11_outdate_8 rfl (lv_at hl 0 rfl) ?_
  refine f_11_6 F w (a := 0) rfl tb_64 dX11_outdate_9 ?_
  refine lv_iconst (v := 0) hx hb dX11_outdate_12 (by decide) ?_
  refine u_3_0 F w (a := 109) rfl (by decide) (by decide) tb_65 dX11_outdate_13 (fun H locs w => ?_)
  rw [st_same (h1)] at w
  refine lv_aload_n hx hb dX11_outdate_16 rfl (lv_at hl 0 rfl) ?_
  refine f_11_7 F w (a := 0) rfl tb_66 dX11_outdate_17 ?_
  refine lv_iconst (v := 0) hx hb dX11_outdate_20 (by decide) ?_
  refine u_6_0 F w (a := 135) rfl tb_67 dX11_outdate_21 (fun H locs w => ?_)
  rw [st_same (h2)] at w
  exact e_v F w hr hlocks rfl dX11_outdate_24
theorem tk_X11_outdate : Cond.code yX11_outdate cX11_outdate 1 none ∈ TB := tbm (tc3 (List.mem_of_getElem? (i := 32) rfl)) rfl
theorem gc_X11_outdate : GoodIn TB (cw yX11_outdate cX11_outdate 1 none) := goodIn_c2 tk_X11_outdate
theorem tb_68 : Cond.methodLink "ToneLines" 97 yX11_outdate ∈ TB := tbm (tc3 (List.mem_of_getElem? (i := 29) rfl)) rfl
theorem tb_69 : Cond.instanceMethod yX11_outdate ∈ TB := tbm (tc3 (List.mem_of_getElem? (i := 31) rfl)) rfl
theorem tb_70 : Cond.selects "ToneLines" yX11_outdate yX11_outdate ∈ TB := tbp (List.mem_of_getElem? (i := 5) rfl) rfl
theorem tb_71 : Cond.initialized "ToneLines" ∈ TB := tbm (tc1 (List.mem_of_getElem? (i := 1) rfl)) rfl
theorem gv_X11_97 : GoodIn TB (wsV RX11 97 RX11 yX11_outdate (cw yX11_outdate cX11_outdate 1 none)) := goodIn_4 tb_68 tb_69 tb_70 tb_71 gc_X11_outdate
theorem hv_X11_outdate : yX11_outdate.cls = RX11 ∧ yX11_outdate.cls ≠ "java/lang/invoke/MethodHandle" ∧ yX11_outdate.cls ≠ "java/lang/invoke/VarHandle" ∧ (parseMethodDescriptor yX11_outdate.desc).map (fun d => d.parameters.length) = some 0 := by decide +kernel
theorem dX11_rules_51 : decode cX11_rules 51 = .ok (.aload_n 0, 1) := by decide +kernel
theorem dX11_rules_52 : decode cX11_rules 52 = .ok (.getfield 35, 3) := by decide +kernel
theorem dX11_rules_55 : decode cX11_rules 55 = .ok (.getfield 118, 3) := by decide +kernel
theorem tb_72 : Cond.fieldLink "ToneLines" 118 "ToneLines$Derivation" "size" "I" ∈ TB := tbm (tc1 (List.mem_of_getElem? (i := 173) rfl)) rfl
theorem dX11_rules_58 : decode cX11_rules 58 = .ok (.ireturn, 1) := by decide +kernel
set_option maxRecDepth 4000 in
theorem c_X11_rules_21 {l : Launch} {D : va_G} {B : Nat} {cy : Nat → ClassId} {M : Mem} (h0 : M.1 4 2 = 0) (h1 : M.1 4 4 = 0) (h2 : M.1 1 1 = 0) (h3 : M.1 4 3 = 0) (h4 : M.1 4 5 = 0) (h5 : M.1 22 2 = 0) (h6 : M.1 22 7 = 0) (h7 : M.1 109 0 = 0) (h8 : M.1 135 0 = 0) : Ci l D B cy yX11_rules cX11_rules 2 (some .int) 3 63 [.ref (B + 0)] M (fun r M1 => r = 0 ∧ M1 = M) := by
  refine s_any (by decide) (Nat.le_of_ble_eq_true rfl) ?_
  intro p e s m below meth c ls F hr hlocks w hl
  have F : CallFix p m c cX11_rules 2 s _ TB RX11 := F
  have hx := F.1
  have hb := F.2.1
  have hl : lv_has ls 2 [(0, .ref (B + 0))] := hl
  refine lv_aload_n hx hb dX11_rules_0 rfl (lv_at hl 0 rfl) ?_
  refine f_11_2 F w (a := 0) rfl tb_31 dX11_rules_1 ?_
  refine x_Vi F w (As := []) (rest := []) (a := 4) (by decide) (sh_5 rfl _ _) rfl (c_X5_faultOfText_18 (h0) (h1) (h2) (h3) (h4)) gv_X11_103 hv_X5_faultOfText ⟨Nat.le_of_ble_eq_true rfl, Nat.le_of_ble_eq_true rfl⟩ hl.1 rfl (Nat.le_of_ble_eq_true rfl) ⟨Nat.zero_le _, Nat.zero_le _⟩ dX11_rules_4 (fun H locs w => ?_)
  refine lv_istore_n (lv' := [(1, .int (-1)), (0, .ref (B + 0))]) hx hb dX11_rules_7 rfl hl (by decide) rfl (fun ls hl => ?_)
  refine lv_aload_n hx hb dX11_rules_8 rfl (lv_at hl 1 rfl) ?_
  refine f_11_0 F w (a := 0) rfl tb_0 dX11_rules_9 ?_
  refine lv_iconst (v := 0) hx hb dX11_rules_12 (by decide) ?_
  refine u_8_1 F w (a := 1) rfl tb_1 dX11_rules_13 (fun H locs w => ?_)
  rw [st_same (h2)] at w
  refine lv_iload_n hx hb dX11_rules_16 rfl (lv_at hl 0 rfl) ?_
  refine lv_iconst (v := (-1)) hx hb dX11_rules_17 (by decide) ?_
  refine lv_icmp_eq (tgt := 26) hx hb dX11_rules_18 (by decide) (fun _ => ?_) (fun c1 => absurd c1 (by decide))
  refine lv_aload_n hx hb dX11_rules_26 rfl (lv_at hl 1 rfl) ?_
  refine f_11_3 F w (a := 0) rfl tb_51 dX11_rules_27 ?_
  refine lv_aload_n hx hb dX11_rules_30 rfl (lv_at hl 1 rfl) ?_
  refine f_11_2 F w (a := 0) rfl tb_31 dX11_rules_31 ?_
  refine f_5_1 F w (a := 4) rfl tb_52 dX11_rules_34 ?_
  refine lv_aload_n hx hb dX11_rules_37 rfl (lv_at hl 1 rfl) ?_
  refine f_11_2 F w (a := 0) rfl tb_31 dX11_rules_38 ?_
  refine f_5_2 F w (a := 4) rfl tb_53 dX11_rules_41 ?_
  refine r_val (v := 0) (h0) ?_
  refine x_Vv F w (As := [.ref (B + 5), .int 0]) (rest := []) (a := 22) (by decide) (sh_0 rfl _ _) rfl (c_X0_takeRules_19 (h5)) gv_X11_114 hv_X0_takeRules ⟨Nat.le_of_ble_eq_true rfl, Nat.le_of_ble_eq_true rfl⟩ hl.1 rfl (Nat.le_of_ble_eq_true rfl) ⟨Nat.zero_le _, Nat.zero_le _⟩ dX11_rules_44 (fun H locs w => ?_)
  refine lv_aload_n hx hb dX11_rules_47 rfl (lv_at hl 1 rfl) ?_
  refine x_Vv F w (As := []) (rest := []) (a := 0) (by decide) (sh_11 rfl _ _) rfl (c_X11_outdate_20 (h6) (h7) (h8)) gv_X11_97 hv_X11_outdate ⟨Nat.le_of_ble_eq_true rfl, Nat.le_of_ble_eq_true rfl⟩ hl.1 rfl (Nat.le_of_ble_eq_true rfl) ⟨Nat.zero_le _, Nat.zero_le _⟩ dX11_rules_48 (fun H locs w => ?_)
  refine lv_aload_n hx hb dX11_rules_51 rfl (lv_at hl 1 rfl) ?_
  refine f_11_3 F w (a := 0) rfl tb_51 dX11_rules_52 ?_
  refine f_0_2 F w (a := 22) rfl tb_72 dX11_rules_55 ?_
  refine r_val (v := 0) (h5) ?_
  exact e_i F w hr hlocks ⟨rfl, rfl⟩ dX11_rules_58
theorem dX11_line_0 : decode cX11_line 0 = .ok (.aload_n 0, 1) := by decide +kernel
theorem dX11_line_1 : decode cX11_line 1 = .ok (.getfield 43, 3) := by decide +kernel
theorem tb_73 : Cond.fieldLink "ToneLines" 43 "ToneLines" "told" "LToneLines$Word;" ∈ TB := tbm (tc2 (List.mem_of_getElem? (i := 61) rfl)) rfl
theorem dX11_line_4 : decode cX11_line 4 = .ok (.iload_n 1, 1) := by decide +kernel
theorem dX11_line_5 : decode cX11_line 5 = .ok (.iload_n 2, 1) := by decide +kernel
theorem dX11_line_6 : decode cX11_line 6 = .ok (.invokevirtual 119, 3) := by decide +kernel
theorem dX9_isOpen_0 : decode cX9_isOpen 0 = .ok (.aload_n 0, 1) := by decide +kernel
theorem dX9_isOpen_1 : decode cX9_isOpen 1 = .ok (.iload_n 1, 1) := by decide +kernel
theorem dX9_isOpen_2 : decode cX9_isOpen 2 = .ok (.invokevirtual 41, 3) := by decide +kernel
theorem dX9_hasTone_0 : decode cX9_hasTone 0 = .ok (.iload_n 1, 1) := by decide +kernel
theorem dX9_hasTone_1 : decode cX9_hasTone 1 = .ok (.ifCond .lt 21, 3) := by decide +kernel
theorem dX9_hasTone_22 : decode cX9_hasTone 22 = .ok (.iconst 0, 1) := by decide +kernel
theorem dX9_hasTone_23 : decode cX9_hasTone 23 = .ok (.ireturn, 1) := by decide +kernel
set_option maxRecDepth 4000 in
theorem c_X9_hasTone_22 {l : Launch} {D : va_G} {B : Nat} {cy : Nat → ClassId} {M : Mem} {p1 : Int32} (h0 : p1 < 0) : Ci l D B cy yX9_hasTone cX9_hasTone 2 (some .boolean) 0 0 [.ref (B + 44), .int p1] M (fun r M1 => r = 0 ∧ M1 = M) := by
  refine s_any (by decide) (Nat.le_of_ble_eq_true rfl) ?_
  intro p e s m below meth c ls F hr hlocks w hl
  have F : CallFix p m c cX9_hasTone 2 s _ TB RX9 := F
  have hx := F.1
  have hb := F.2.1
  have hl : lv_has ls 2 [(0, .ref (B + 44)), (1, .int p1)] := hl
  refine lv_iload_n hx hb dX9_hasTone_0 rfl (lv_at hl 1 rfl) ?_
  refine lv_if_lt (tgt := 22) hx hb dX9_hasTone_1 (by decide) (fun _ => ?_) (fun c1 => absurd h0 c1)
  refine lv_iconst (v := 0) hx hb dX9_hasTone_22 (by decide) ?_
  exact e_z F w hr hlocks (by decide) ⟨rfl, rfl⟩ dX9_hasTone_23
theorem tk_X9_hasTone : Cond.code yX9_hasTone cX9_hasTone 2 (some .boolean) ∈ TB := tbm (tc3 (List.mem_of_getElem? (i := 9) rfl)) rfl
theorem gc_X9_hasTone : GoodIn TB (cw yX9_hasTone cX9_hasTone 2 (some .boolean)) := goodIn_c2 tk_X9_hasTone
theorem tb_74 : Cond.methodLink "ToneLines$Word" 41 yX9_hasTone ∈ TB := tbm (tc3 (List.mem_of_getElem? (i := 6) rfl)) rfl
theorem tb_75 : Cond.instanceMethod yX9_hasTone ∈ TB := tbm (tc3 (List.mem_of_getElem? (i := 7) rfl)) rfl
theorem tb_76 : Cond.selects "ToneLines$Word" yX9_hasTone yX9_hasTone ∈ TB := tbm (tc3 (List.mem_of_getElem? (i := 8) rfl)) rfl
theorem gv_X9_41 : GoodIn TB (wsV RX9 41 RX9 yX9_hasTone (cw yX9_hasTone cX9_hasTone 2 (some .boolean))) := goodIn_4 tb_74 tb_75 tb_76 tb_17 gc_X9_hasTone
theorem hv_X9_hasTone : yX9_hasTone.cls = RX9 ∧ yX9_hasTone.cls ≠ "java/lang/invoke/MethodHandle" ∧ yX9_hasTone.cls ≠ "java/lang/invoke/VarHandle" ∧ (parseMethodDescriptor yX9_hasTone.desc).map (fun d => d.parameters.length) = some 1 := by decide +kernel
theorem dX9_isOpen_5 : decode cX9_isOpen 5 = .ok (.ifCond .eq 40, 3) := by decide +kernel
theorem dX9_isOpen_45 : decode cX9_isOpen 45 = .ok (.iconst 0, 1) := by decide +kernel
theorem dX9_isOpen_46 : decode cX9_isOpen 46 = .ok (.ireturn, 1) := by decide +kernel
set_option maxRecDepth 4000 in
theorem c_X9_isOpen_23 {l : Launch} {D : va_G} {B : Nat} {cy : Nat → ClassId} {M : Mem} {p1 : Int32} {p2 : Int32} (h0 : p1 < 0) : Ci l D B cy yX9_isOpen cX9_isOpen 3 (some .boolean) 1 21 [.ref (B + 44), .int p1, .int p2] M (fun r M1 => r = 0 ∧ M1 = M) := by
  refine s_any (by decide) (Nat.le_of_ble_eq_true rfl) ?_
  intro p e s m below meth c ls F hr hlocks w hl
  have F : CallFix p m c cX9_isOpen 3 s _ TB RX9 := F
  have hx := F.1
  have hb := F.2.1
  have hl : lv_has ls 3 [(0, .ref (B + 44)), (1, .int p1), (2, .int p2)] := hl
  refine lv_aload_n hx hb dX9_isOpen_0 rfl (lv_at hl 0 rfl) ?_
  refine lv_iload_n hx hb dX9_isOpen_1 rfl (lv_at hl 1 rfl) ?_
  refine x_Vi F w (As := [.int p1]) (rest := []) (a := 44) (by decide) (sh_9 rfl _ _) rfl (c_X9_hasTone_22 h0) gv_X9_41 hv_X9_hasTone ⟨Nat.le_of_ble_eq_true rfl, Nat.le_of_ble_eq_true rfl⟩ hl.1 rfl (Nat.le_of_ble_eq_true rfl) ⟨Nat.zero_le _, Nat.zero_le _⟩ dX9_isOpen_2 (fun H locs w => ?_)
  refine lv_if_eq (tgt := 45) hx hb dX9_isOpen_5 (by decide) (fun _ => ?_) (fun c1 => absurd c1 (by decide))
  refine lv_iconst (v := 0) hx hb dX9_isOpen_45 (by decide) ?_
  exact e_z F w hr hlocks (by decide) ⟨rfl, rfl⟩ dX9_isOpen_46
theorem tk_X9_isOpen : Cond.code yX9_isOpen cX9_isOpen 3 (some .boolean) ∈ TB := tbm (tc3 (List.mem_of_getElem? (i := 5) rfl)) rfl
theorem gc_X9_isOpen : GoodIn TB (cw yX9_isOpen cX9_isOpen 3 (some .boolean)) := goodIn_c2 tk_X9_isOpen
theorem tb_77 : Cond.methodLink "ToneLines" 119 yX9_isOpen ∈ TB := tbm (tc3 (List.mem_of_getElem? (i := 137) rfl)) rfl
theorem tb_78 : Cond.instanceMethod yX9_isOpen ∈ TB := tbm (tc3 (List.mem_of_getElem? (i := 3) rfl)) rfl
theorem tb_79 : Cond.selects "ToneLines$Word" yX9_isOpen yX9_isOpen ∈ TB := tbm (tc3 (List.mem_of_getElem? (i := 4) rfl)) rfl
theorem gv_X11_119 : GoodIn TB (wsV RX11 119 RX9 yX9_isOpen (cw yX9_isOpen cX9_isOpen 3 (some .boolean))) := goodIn_4 tb_77 tb_78 tb_79 tb_17 gc_X9_isOpen
theorem hv_X9_isOpen : yX9_isOpen.cls = RX9 ∧ yX9_isOpen.cls ≠ "java/lang/invoke/MethodHandle" ∧ yX9_isOpen.cls ≠ "java/lang/invoke/VarHandle" ∧ (parseMethodDescriptor yX9_isOpen.desc).map (fun d => d.parameters.length) = some 2 := by decide +kernel
theorem dX11_line_9 : decode cX11_line 9 = .ok (.ifCond .ne 5, 3) := by decide +kernel
theorem dX11_line_12 : decode cX11_line 12 = .ok (.iconst 0, 1) := by decide +kernel
theorem dX11_line_13 : decode cX11_line 13 = .ok (.ireturn, 1) := by decide +kernel
set_option maxRecDepth 4000 in
theorem c_X11_line_24 {l : Launch} {D : va_G} {B : Nat} {cy : Nat → ClassId} {M : Mem} {p1 : Int32} {p2 : Int32} (h0 : p1 < 0) : Ci l D B cy yX11_line cX11_line 3 (some .boolean) 2 43 [.ref (B + 0), .int p1, .int p2] M (fun r M1 => r = 0 ∧ M1 = M) := by
  refine s_any (by decide) (Nat.le_of_ble_eq_true rfl) ?_
  intro p e s m below meth c ls F hr hlocks w hl
  have F : CallFix p m c cX11_line 3 s _ TB RX11 := F
  have hx := F.1
  have hb := F.2.1
  have hl : lv_has ls 3 [(0, .ref (B + 0)), (1, .int p1), (2, .int p2)] := hl
  refine lv_aload_n hx hb dX11_line_0 rfl (lv_at hl 0 rfl) ?_
  refine f_11_4 F w (a := 0) rfl tb_73 dX11_line_1 ?_
  refine lv_iload_n hx hb dX11_line_4 rfl (lv_at hl 1 rfl) ?_
  refine lv_iload_n hx hb dX11_line_5 rfl (lv_at hl 2 rfl) ?_
  refine x_Vi F w (As := [.int p1, .int p2]) (rest := []) (a := 44) (by decide) (sh_9 rfl _ _) rfl (c_X9_isOpen_23 h0) gv_X11_119 hv_X9_isOpen ⟨Nat.le_of_ble_eq_true rfl, Nat.le_of_ble_eq_true rfl⟩ hl.1 rfl (Nat.le_of_ble_eq_true rfl) ⟨Nat.zero_le _, Nat.zero_le _⟩ dX11_line_6 (fun H locs w => ?_)
  refine lv_if_ne (tgt := 14) hx hb dX11_line_9 (by decide) (fun c1 => absurd c1 (by decide)) (fun _ => ?_)
  refine lv_iconst (v := 0) hx hb dX11_line_12 (by decide) ?_
  exact e_z F w hr hlocks (by decide) ⟨rfl, rfl⟩ dX11_line_13
theorem dX9_hasTone_4 : decode cX9_hasTone 4 = .ok (.iload_n 1, 1) := by decide +kernel
theorem dX9_hasTone_5 : decode cX9_hasTone 5 = .ok (.aload_n 0, 1) := by decide +kernel
theorem dX9_hasTone_6 : decode cX9_hasTone 6 = .ok (.getfield 9, 3) := by decide +kernel
theorem dX9_hasTone_9 : decode cX9_hasTone 9 = .ok (.if_icmp .ge 13, 3) := by decide +kernel
set_option maxRecDepth 4000 in
theorem c_X9_hasTone_25 {l : Launch} {D : va_G} {B : Nat} {cy : Nat → ClassId} {M : Mem} {p1 : Int32} (h0 : ¬ p1 < 0) (h1 : M.1 44 0 = 0) (h2 : 0 ≤ p1) : Ci l D B cy yX9_hasTone cX9_hasTone 2 (some .boolean) 0 0 [.ref (B + 44), .int p1] M (fun r M1 => r = 0 ∧ M1 = M) := by
  refine s_any (by decide) (Nat.le_of_ble_eq_true rfl) ?_
  intro p e s m below meth c ls F hr hlocks w hl
  have F : CallFix p m c cX9_hasTone 2 s _ TB RX9 := F
  have hx := F.1
  have hb := F.2.1
  have hl : lv_has ls 2 [(0, .ref (B + 44)), (1, .int p1)] := hl
  refine lv_iload_n hx hb dX9_hasTone_0 rfl (lv_at hl 1 rfl) ?_
  refine lv_if_lt (tgt := 22) hx hb dX9_hasTone_1 (by decide) (fun c1 => absurd c1 h0) (fun _ => ?_)
  refine lv_iload_n hx hb dX9_hasTone_4 rfl (lv_at hl 1 rfl) ?_
  refine lv_aload_n hx hb dX9_hasTone_5 rfl (lv_at hl 0 rfl) ?_
  refine f_9_0 F w (a := 44) rfl tb_10 dX9_hasTone_6 ?_
  refine r_val (v := 0) (h1) ?_
  refine lv_icmp_ge (tgt := 22) hx hb dX9_hasTone_9 (by decide) (fun _ => ?_) (fun c1 => absurd h2 c1)
  refine lv_iconst (v := 0) hx hb dX9_hasTone_22 (by decide) ?_
  exact e_z F w hr hlocks (by decide) ⟨rfl, rfl⟩ dX9_hasTone_23
set_option maxRecDepth 4000 in
theorem c_X9_isOpen_26 {l : Launch} {D : va_G} {B : Nat} {cy : Nat → ClassId} {M : Mem} {p1 : Int32} {p2 : Int32} (h0 : ¬ p1 < 0) (h1 : M.1 44 0 = 0) (h2 : 0 ≤ p1) : Ci l D B cy yX9_isOpen cX9_isOpen 3 (some .boolean) 1 21 [.ref (B + 44), .int p1, .int p2] M (fun r M1 => r = 0 ∧ M1 = M) := by
  refine s_any (by decide) (Nat.le_of_ble_eq_true rfl) ?_
  intro p e s m below meth c ls F hr hlocks w hl
  have F : CallFix p m c cX9_isOpen 3 s _ TB RX9 := F
  have hx := F.1
  have hb := F.2.1
  have hl : lv_has ls 3 [(0, .ref (B + 44)), (1, .int p1), (2, .int p2)] := hl
  refine lv_aload_n hx hb dX9_isOpen_0 rfl (lv_at hl 0 rfl) ?_
  refine lv_iload_n hx hb dX9_isOpen_1 rfl (lv_at hl 1 rfl) ?_
  refine x_Vi F w (As := [.int p1]) (rest := []) (a := 44) (by decide) (sh_9 rfl _ _) rfl (c_X9_hasTone_25 h0 (h1) h2) gv_X9_41 hv_X9_hasTone ⟨Nat.le_of_ble_eq_true rfl, Nat.le_of_ble_eq_true rfl⟩ hl.1 rfl (Nat.le_of_ble_eq_true rfl) ⟨Nat.zero_le _, Nat.zero_le _⟩ dX9_isOpen_2 (fun H locs w => ?_)
  refine lv_if_eq (tgt := 45) hx hb dX9_isOpen_5 (by decide) (fun _ => ?_) (fun c1 => absurd c1 (by decide))
  refine lv_iconst (v := 0) hx hb dX9_isOpen_45 (by decide) ?_
  exact e_z F w hr hlocks (by decide) ⟨rfl, rfl⟩ dX9_isOpen_46
set_option maxRecDepth 4000 in
theorem c_X11_line_27 {l : Launch} {D : va_G} {B : Nat} {cy : Nat → ClassId} {M : Mem} {p1 : Int32} {p2 : Int32} (h0 : ¬ p1 < 0) (h1 : M.1 44 0 = 0) (h2 : 0 ≤ p1) : Ci l D B cy yX11_line cX11_line 3 (some .boolean) 2 43 [.ref (B + 0), .int p1, .int p2] M (fun r M1 => r = 0 ∧ M1 = M) := by
  refine s_any (by decide) (Nat.le_of_ble_eq_true rfl) ?_
  intro p e s m below meth c ls F hr hlocks w hl
  have F : CallFix p m c cX11_line 3 s _ TB RX11 := F
  have hx := F.1
  have hb := F.2.1
  have hl : lv_has ls 3 [(0, .ref (B + 0)), (1, .int p1), (2, .int p2)] := hl
  refine lv_aload_n hx hb dX11_line_0 rfl (lv_at hl 0 rfl) ?_
  refine f_11_4 F w (a := 0) rfl tb_73 dX11_line_1 ?_
  refine lv_iload_n hx hb dX11_line_4 rfl (lv_at hl 1 rfl) ?_
  refine lv_iload_n hx hb dX11_line_5 rfl (lv_at hl 2 rfl) ?_
  refine x_Vi F w (As := [.int p1, .int p2]) (rest := []) (a := 44) (by decide) (sh_9 rfl _ _) rfl (c_X9_isOpen_26 h0 (h1) h2) gv_X11_119 hv_X9_isOpen ⟨Nat.le_of_ble_eq_true rfl, Nat.le_of_ble_eq_true rfl⟩ hl.1 rfl (Nat.le_of_ble_eq_true rfl) ⟨Nat.zero_le _, Nat.zero_le _⟩ dX11_line_6 (fun H locs w => ?_)
  refine lv_if_ne (tgt := 14) hx hb dX11_line_9 (by decide) (fun c1 => absurd c1 (by decide)) (fun _ => ?_)
  refine lv_iconst (v := 0) hx hb dX11_line_12 (by decide) ?_
  exact e_z F w hr hlocks (by decide) ⟨rfl, rfl⟩ dX11_line_13
theorem dX11_cut_0 : decode cX11_cut 0 = .ok (.aload_n 0, 1) := by decide +kernel
theorem dX11_cut_1 : decode cX11_cut 1 = .ok (.getfield 43, 3) := by decide +kernel
theorem dX11_cut_4 : decode cX11_cut 4 = .ok (.iload_n 1, 1) := by decide +kernel
theorem dX11_cut_5 : decode cX11_cut 5 = .ok (.iload_n 2, 1) := by decide +kernel
theorem dX11_cut_6 : decode cX11_cut 6 = .ok (.invokevirtual 130, 3) := by decide +kernel
theorem dX9_hasLine_0 : decode cX9_hasLine 0 = .ok (.aload_n 0, 1) := by decide +kernel
theorem dX9_hasLine_1 : decode cX9_hasLine 1 = .ok (.iload_n 1, 1) := by decide +kernel
theorem dX9_hasLine_2 : decode cX9_hasLine 2 = .ok (.invokevirtual 41, 3) := by decide +kernel
theorem dX9_hasLine_5 : decode cX9_hasLine 5 = .ok (.ifCond .eq 28, 3) := by decide +kernel
theorem dX9_hasLine_33 : decode cX9_hasLine 33 = .ok (.iconst 0, 1) := by decide +kernel
theorem dX9_hasLine_34 : decode cX9_hasLine 34 = .ok (.ireturn, 1) := by decide +kernel
set_option maxRecDepth 4000 in
theorem c_X9_hasLine_28 {l : Launch} {D : va_G} {B : Nat} {cy : Nat → ClassId} {M : Mem} {p1 : Int32} {p2 : Int32} (h0 : p1 < 0) : Ci l D B cy yX9_hasLine cX9_hasLine 3 (some .boolean) 1 21 [.ref (B + 44), .int p1, .int p2] M (fun r M1 => r = 0 ∧ M1 = M) := by
  refine s_any (by decide) (Nat.le_of_ble_eq_true rfl) ?_
  intro p e s m below meth c ls F hr hlocks w hl
  have F : CallFix p m c cX9_hasLine 3 s _ TB RX9 := F
  have hx := F.1
  have hb := F.2.1
  have hl : lv_has ls 3 [(0, .ref (B + 44)), (1, .int p1), (2, .int p2)] := hl
  refine lv_aload_n hx hb dX9_hasLine_0 rfl (lv_at hl 0 rfl) ?_
  refine lv_iload_n hx hb dX9_hasLine_1 rfl (lv_at hl 1 rfl) ?_
  refine x_Vi F w (As := [.int p1]) (rest := []) (a := 44) (by decide) (sh_9 rfl _ _) rfl (c_X9_hasTone_22 h0) gv_X9_41 hv_X9_hasTone ⟨Nat.le_of_ble_eq_true rfl, Nat.le_of_ble_eq_true rfl⟩ hl.1 rfl (Nat.le_of_ble_eq_true rfl) ⟨Nat.zero_le _, Nat.zero_le _⟩ dX9_hasLine_2 (fun H locs w => ?_)
  refine lv_if_eq (tgt := 33) hx hb dX9_hasLine_5 (by decide) (fun _ => ?_) (fun c1 => absurd c1 (by decide))
  refine lv_iconst (v := 0) hx hb dX9_hasLine_33 (by decide) ?_
  exact e_z F w hr hlocks (by decide) ⟨rfl, rfl⟩ dX9_hasLine_34
theorem tk_X9_hasLine : Cond.code yX9_hasLine cX9_hasLine 3 (some .boolean) ∈ TB := tbm (tc3 (List.mem_of_getElem? (i := 155) rfl)) rfl
theorem gc_X9_hasLine : GoodIn TB (cw yX9_hasLine cX9_hasLine 3 (some .boolean)) := goodIn_c2 tk_X9_hasLine
theorem tb_80 : Cond.methodLink "ToneLines" 130 yX9_hasLine ∈ TB := tbm (tc3 (List.mem_of_getElem? (i := 152) rfl)) rfl
theorem tb_81 : Cond.instanceMethod yX9_hasLine ∈ TB := tbm (tc3 (List.mem_of_getElem? (i := 153) rfl)) rfl
theorem tb_82 : Cond.selects "ToneLines$Word" yX9_hasLine yX9_hasLine ∈ TB := tbm (tc3 (List.mem_of_getElem? (i := 154) rfl)) rfl
theorem gv_X11_130 : GoodIn TB (wsV RX11 130 RX9 yX9_hasLine (cw yX9_hasLine cX9_hasLine 3 (some .boolean))) := goodIn_4 tb_80 tb_81 tb_82 tb_17 gc_X9_hasLine
theorem hv_X9_hasLine : yX9_hasLine.cls = RX9 ∧ yX9_hasLine.cls ≠ "java/lang/invoke/MethodHandle" ∧ yX9_hasLine.cls ≠ "java/lang/invoke/VarHandle" ∧ (parseMethodDescriptor yX9_hasLine.desc).map (fun d => d.parameters.length) = some 2 := by decide +kernel
theorem dX11_cut_9 : decode cX11_cut 9 = .ok (.ifCond .ne 5, 3) := by decide +kernel
theorem dX11_cut_12 : decode cX11_cut 12 = .ok (.iconst 0, 1) := by decide +kernel
theorem dX11_cut_13 : decode cX11_cut 13 = .ok (.ireturn, 1) := by decide +kernel
set_option maxRecDepth 4000 in
theorem c_X11_cut_29 {l : Launch} {D : va_G} {B : Nat} {cy : Nat → ClassId} {M : Mem} {p1 : Int32} {p2 : Int32} (h0 : p1 < 0) : Ci l D B cy yX11_cut cX11_cut 3 (some .boolean) 2 43 [.ref (B + 0), .int p1, .int p2] M (fun r M1 => r = 0 ∧ M1 = M) := by
  refine s_any (by decide) (Nat.le_of_ble_eq_true rfl) ?_
  intro p e s m below meth c ls F hr hlocks w hl
  have F : CallFix p m c cX11_cut 3 s _ TB RX11 := F
  have hx := F.1
  have hb := F.2.1
  have hl : lv_has ls 3 [(0, .ref (B + 0)), (1, .int p1), (2, .int p2)] := hl
  refine lv_aload_n hx hb dX11_cut_0 rfl (lv_at hl 0 rfl) ?_
  refine f_11_4 F w (a := 0) rfl tb_73 dX11_cut_1 ?_
  refine lv_iload_n hx hb dX11_cut_4 rfl (lv_at hl 1 rfl) ?_
  refine lv_iload_n hx hb dX11_cut_5 rfl (lv_at hl 2 rfl) ?_
  refine x_Vi F w (As := [.int p1, .int p2]) (rest := []) (a := 44) (by decide) (sh_9 rfl _ _) rfl (c_X9_hasLine_28 h0) gv_X11_130 hv_X9_hasLine ⟨Nat.le_of_ble_eq_true rfl, Nat.le_of_ble_eq_true rfl⟩ hl.1 rfl (Nat.le_of_ble_eq_true rfl) ⟨Nat.zero_le _, Nat.zero_le _⟩ dX11_cut_6 (fun H locs w => ?_)
  refine lv_if_ne (tgt := 14) hx hb dX11_cut_9 (by decide) (fun c1 => absurd c1 (by decide)) (fun _ => ?_)
  refine lv_iconst (v := 0) hx hb dX11_cut_12 (by decide) ?_
  exact e_z F w hr hlocks (by decide) ⟨rfl, rfl⟩ dX11_cut_13
set_option maxRecDepth 4000 in
theorem c_X9_hasLine_30 {l : Launch} {D : va_G} {B : Nat} {cy : Nat → ClassId} {M : Mem} {p1 : Int32} {p2 : Int32} (h0 : ¬ p1 < 0) (h1 : M.1 44 0 = 0) (h2 : 0 ≤ p1) : Ci l D B cy yX9_hasLine cX9_hasLine 3 (some .boolean) 1 21 [.ref (B + 44), .int p1, .int p2] M (fun r M1 => r = 0 ∧ M1 = M) := by
  refine s_any (by decide) (Nat.le_of_ble_eq_true rfl) ?_
  intro p e s m below meth c ls F hr hlocks w hl
  have F : CallFix p m c cX9_hasLine 3 s _ TB RX9 := F
  have hx := F.1
  have hb := F.2.1
  have hl : lv_has ls 3 [(0, .ref (B + 44)), (1, .int p1), (2, .int p2)] := hl
  refine lv_aload_n hx hb dX9_hasLine_0 rfl (lv_at hl 0 rfl) ?_
  refine lv_iload_n hx hb dX9_hasLine_1 rfl (lv_at hl 1 rfl) ?_
  refine x_Vi F w (As := [.int p1]) (rest := []) (a := 44) (by decide) (sh_9 rfl _ _) rfl (c_X9_hasTone_25 h0 (h1) h2) gv_X9_41 hv_X9_hasTone ⟨Nat.le_of_ble_eq_true rfl, Nat.le_of_ble_eq_true rfl⟩ hl.1 rfl (Nat.le_of_ble_eq_true rfl) ⟨Nat.zero_le _, Nat.zero_le _⟩ dX9_hasLine_2 (fun H locs w => ?_)
  refine lv_if_eq (tgt := 33) hx hb dX9_hasLine_5 (by decide) (fun _ => ?_) (fun c1 => absurd c1 (by decide))
  refine lv_iconst (v := 0) hx hb dX9_hasLine_33 (by decide) ?_
  exact e_z F w hr hlocks (by decide) ⟨rfl, rfl⟩ dX9_hasLine_34
set_option maxRecDepth 4000 in
theorem c_X11_cut_31 {l : Launch} {D : va_G} {B : Nat} {cy : Nat → ClassId} {M : Mem} {p1 : Int32} {p2 : Int32} (h0 : ¬ p1 < 0) (h1 : M.1 44 0 = 0) (h2 : 0 ≤ p1) : Ci l D B cy yX11_cut cX11_cut 3 (some .boolean) 2 43 [.ref (B + 0), .int p1, .int p2] M (fun r M1 => r = 0 ∧ M1 = M) := by
  refine s_any (by decide) (Nat.le_of_ble_eq_true rfl) ?_
  intro p e s m below meth c ls F hr hlocks w hl
  have F : CallFix p m c cX11_cut 3 s _ TB RX11 := F
  have hx := F.1
  have hb := F.2.1
  have hl : lv_has ls 3 [(0, .ref (B + 0)), (1, .int p1), (2, .int p2)] := hl
  refine lv_aload_n hx hb dX11_cut_0 rfl (lv_at hl 0 rfl) ?_
  refine f_11_4 F w (a := 0) rfl tb_73 dX11_cut_1 ?_
  refine lv_iload_n hx hb dX11_cut_4 rfl (lv_at hl 1 rfl) ?_
  refine lv_iload_n hx hb dX11_cut_5 rfl (lv_at hl 2 rfl) ?_
  refine x_Vi F w (As := [.int p1, .int p2]) (rest := []) (a := 44) (by decide) (sh_9 rfl _ _) rfl (c_X9_hasLine_30 h0 (h1) h2) gv_X11_130 hv_X9_hasLine ⟨Nat.le_of_ble_eq_true rfl, Nat.le_of_ble_eq_true rfl⟩ hl.1 rfl (Nat.le_of_ble_eq_true rfl) ⟨Nat.zero_le _, Nat.zero_le _⟩ dX11_cut_6 (fun H locs w => ?_)
  refine lv_if_ne (tgt := 14) hx hb dX11_cut_9 (by decide) (fun c1 => absurd c1 (by decide)) (fun _ => ?_)
  refine lv_iconst (v := 0) hx hb dX11_cut_12 (by decide) ?_
  exact e_z F w hr hlocks (by decide) ⟨rfl, rfl⟩ dX11_cut_13
theorem dX11_tone_0 : decode cX11_tone 0 = .ok (.iload_n 1, 1) := by decide +kernel
theorem dX11_tone_1 : decode cX11_tone 1 = .ok (.ifCond .lt 33, 3) := by decide +kernel
theorem dX11_tone_34 : decode cX11_tone 34 = .ok (.iconst 0, 1) := by decide +kernel
theorem dX11_tone_35 : decode cX11_tone 35 = .ok (.ireturn, 1) := by decide +kernel
set_option maxRecDepth 4000 in
theorem c_X11_tone_32 {l : Launch} {D : va_G} {B : Nat} {cy : Nat → ClassId} {M : Mem} {p1 : Int32} {p2 : Int32} (h0 : p1 < 0) : Ci l D B cy yX11_tone cX11_tone 3 (some .boolean) 0 0 [.ref (B + 0), .int p1, .int p2] M (fun r M1 => r = 0 ∧ M1 = M) := by
  refine s_any (by decide) (Nat.le_of_ble_eq_true rfl) ?_
  intro p e s m below meth c ls F hr hlocks w hl
  have F : CallFix p m c cX11_tone 3 s _ TB RX11 := F
  have hx := F.1
  have hb := F.2.1
  have hl : lv_has ls 3 [(0, .ref (B + 0)), (1, .int p1), (2, .int p2)] := hl
  refine lv_iload_n hx hb dX11_tone_0 rfl (lv_at hl 1 rfl) ?_
  refine lv_if_lt (tgt := 34) hx hb dX11_tone_1 (by decide) (fun _ => ?_) (fun c1 => absurd h0 c1)
  refine lv_iconst (v := 0) hx hb dX11_tone_34 (by decide) ?_
  exact e_z F w hr hlocks (by decide) ⟨rfl, rfl⟩ dX11_tone_35
theorem dX11_tone_4 : decode cX11_tone 4 = .ok (.iload_n 1, 1) := by decide +kernel
theorem dX11_tone_5 : decode cX11_tone 5 = .ok (.aload_n 0, 1) := by decide +kernel
theorem dX11_tone_6 : decode cX11_tone 6 = .ok (.getfield 43, 3) := by decide +kernel
theorem dX11_tone_9 : decode cX11_tone 9 = .ok (.getfield 100, 3) := by decide +kernel
theorem tb_83 : Cond.fieldLink "ToneLines" 100 "ToneLines$Word" "tones" "I" ∈ TB := tbm (tc1 (List.mem_of_getElem? (i := 133) rfl)) rfl
theorem dX11_tone_12 : decode cX11_tone 12 = .ok (.if_icmp .gt 22, 3) := by decide +kernel
set_option maxRecDepth 4000 in
theorem c_X11_tone_33 {l : Launch} {D : va_G} {B : Nat} {cy : Nat → ClassId} {M : Mem} {p1 : Int32} {p2 : Int32} (h0 : ¬ p1 < 0) (h1 : M.1 44 0 = 0) (h2 : 0 < p1) : Ci l D B cy yX11_tone cX11_tone 3 (some .boolean) 0 0 [.ref (B + 0), .int p1, .int p2] M (fun r M1 => r = 0 ∧ M1 = M) := by
  refine s_any (by decide) (Nat.le_of_ble_eq_true rfl) ?_
  intro p e s m below meth c ls F hr hlocks w hl
  have F : CallFix p m c cX11_tone 3 s _ TB RX11 := F
  have hx := F.1
  have hb := F.2.1
  have hl : lv_has ls 3 [(0, .ref (B + 0)), (1, .int p1), (2, .int p2)] := hl
  refine lv_iload_n hx hb dX11_tone_0 rfl (lv_at hl 1 rfl) ?_
  refine lv_if_lt (tgt := 34) hx hb dX11_tone_1 (by decide) (fun c1 => absurd c1 h0) (fun _ => ?_)
  refine lv_iload_n hx hb dX11_tone_4 rfl (lv_at hl 1 rfl) ?_
  refine lv_aload_n hx hb dX11_tone_5 rfl (lv_at hl 0 rfl) ?_
  refine f_11_4 F w (a := 0) rfl tb_73 dX11_tone_6 ?_
  refine f_9_0 F w (a := 44) rfl tb_83 dX11_tone_9 ?_
  refine r_val (v := 0) (h1) ?_
  refine lv_icmp_gt (tgt := 34) hx hb dX11_tone_12 (by decide) (fun _ => ?_) (fun c1 => absurd h2 c1)
  refine lv_iconst (v := 0) hx hb dX11_tone_34 (by decide) ?_
  exact e_z F w hr hlocks (by decide) ⟨rfl, rfl⟩ dX11_tone_35
theorem dX11_tone_15 : decode cX11_tone 15 = .ok (.aload_n 0, 1) := by decide +kernel
theorem dX11_tone_16 : decode cX11_tone 16 = .ok (.getfield 43, 3) := by decide +kernel
theorem dX11_tone_19 : decode cX11_tone 19 = .ok (.getfield 100, 3) := by decide +kernel
theorem dX11_tone_22 : decode cX11_tone 22 = .ok (.bipush 12, 2) := by decide +kernel
theorem dX11_tone_24 : decode cX11_tone 24 = .ok (.if_icmp .ge 10, 3) := by decide +kernel
theorem dX11_tone_27 : decode cX11_tone 27 = .ok (.iload_n 2, 1) := by decide +kernel
theorem dX11_tone_28 : decode cX11_tone 28 = .ok (.invokestatic 133, 3) := by decide +kernel
theorem dX11_isKind_0 : decode cX11_isKind 0 = .ok (.iload_n 0, 1) := by decide +kernel
theorem dX11_isKind_1 : decode cX11_isKind 1 = .ok (.ifCond .lt 12, 3) := by decide +kernel
theorem dX11_isKind_13 : decode cX11_isKind 13 = .ok (.iconst 0, 1) := by decide +kernel
theorem dX11_isKind_14 : decode cX11_isKind 14 = .ok (.ireturn, 1) := by decide +kernel
set_option maxRecDepth 4000 in
theorem c_X11_isKind_34 {l : Launch} {D : va_G} {B : Nat} {cy : Nat → ClassId} {M : Mem} {p0 : Int32} (h0 : p0 < 0) : Ci l D B cy yX11_isKind cX11_isKind 1 (some .boolean) 0 0 [.int p0] M (fun r M1 => r = 0 ∧ M1 = M) := by
  refine s_any (by decide) (Nat.le_of_ble_eq_true rfl) ?_
  intro p e s m below meth c ls F hr hlocks w hl
  have F : CallFix p m c cX11_isKind 1 s _ TB RX11 := F
  have hx := F.1
  have hb := F.2.1
  have hl : lv_has ls 1 [(0, .int p0)] := hl
  refine lv_iload_n hx hb dX11_isKind_0 rfl (lv_at hl 0 rfl) ?_
  refine lv_if_lt (tgt := 13) hx hb dX11_isKind_1 (by decide) (fun _ => ?_) (fun c1 => absurd h0 c1)
  refine lv_iconst (v := 0) hx hb dX11_isKind_13 (by decide) ?_
  exact e_z F w hr hlocks (by decide) ⟨rfl, rfl⟩ dX11_isKind_14
theorem tk_X11_isKind : Cond.code yX11_isKind cX11_isKind 1 (some .boolean) ∈ TB := tbm (tc3 (List.mem_of_getElem? (i := 162) rfl)) rfl
theorem gc_X11_isKind : GoodIn TB (cw yX11_isKind cX11_isKind 1 (some .boolean)) := goodIn_c2 tk_X11_isKind
theorem tb_84 : Cond.methodLink "ToneLines" 133 yX11_isKind ∈ TB := tbm (tc3 (List.mem_of_getElem? (i := 160) rfl)) rfl
theorem tb_85 : Cond.static yX11_isKind ∈ TB := tbm (tc3 (List.mem_of_getElem? (i := 161) rfl)) rfl
theorem gs_X11_133 : GoodIn TB (va_wsS RX11 133 yX11_isKind (cw yX11_isKind cX11_isKind 1 (some .boolean))) := goodIn_3 tb_84 tb_85 tb_71 gc_X11_isKind
theorem hs_X11_isKind : yX11_isKind.cls ≠ "java/lang/invoke/MethodHandle" ∧ yX11_isKind.cls ≠ "java/lang/invoke/VarHandle" ∧ (parseMethodDescriptor yX11_isKind.desc).map (fun d => d.parameters.length) = some 1 := by decide +kernel
theorem dX11_tone_31 : decode cX11_tone 31 = .ok (.ifCond .ne 5, 3) := by decide +kernel
set_option maxRecDepth 4000 in
theorem c_X11_tone_35 {l : Launch} {D : va_G} {B : Nat} {cy : Nat → ClassId} {M : Mem} {p2 : Int32} (h0 : M.1 44 0 = 0) (h1 : p2 < 0) : Ci l D B cy yX11_tone cX11_tone 3 (some .boolean) 1 20 [.ref (B + 0), .int 0, .int p2] M (fun r M1 => r = 0 ∧ M1 = M) := by
  refine s_any (by decide) (Nat.le_of_ble_eq_true rfl) ?_
  intro p e s m below meth c ls F hr hlocks w hl
  have F : CallFix p m c cX11_tone 3 s _ TB RX11 := F
  have hx := F.1
  have hb := F.2.1
  have hl : lv_has ls 3 [(0, .ref (B + 0)), (1, .int 0), (2, .int p2)] := hl
  refine lv_iload_n hx hb dX11_tone_0 rfl (lv_at hl 1 rfl) ?_
  refine lv_if_lt (tgt := 34) hx hb dX11_tone_1 (by decide) (fun c1 => absurd c1 (by decide)) (fun _ => ?_)
  refine lv_iload_n hx hb dX11_tone_4 rfl (lv_at hl 1 rfl) ?_
  refine lv_aload_n hx hb dX11_tone_5 rfl (lv_at hl 0 rfl) ?_
  refine f_11_4 F w (a := 0) rfl tb_73 dX11_tone_6 ?_
  refine f_9_0 F w (a := 44) rfl tb_83 dX11_tone_9 ?_
  refine r_val (v := 0) (h0) ?_
  refine lv_icmp_gt (tgt := 34) hx hb dX11_tone_12 (by decide) (fun c1 => absurd c1 (by decide)) (fun _ => ?_)
  refine lv_aload_n hx hb dX11_tone_15 rfl (lv_at hl 0 rfl) ?_
  refine f_11_4 F w (a := 0) rfl tb_73 dX11_tone_16 ?_
  refine f_9_0 F w (a := 44) rfl tb_83 dX11_tone_19 ?_
  refine r_val (v := 0) (h0) ?_
  refine lv_bipush (v := 12) hx hb dX11_tone_22 (by decide) ?_
  refine lv_icmp_ge (tgt := 34) hx hb dX11_tone_24 (by decide) (fun c1 => absurd c1 (by decide)) (fun _ => ?_)
  refine lv_iload_n hx hb dX11_tone_27 rfl (lv_at hl 2 rfl) ?_
  refine x_Si F w (As := [.int p2]) (rest := []) (c_X11_isKind_34 h1) gs_X11_133 hs_X11_isKind ⟨Nat.le_of_ble_eq_true rfl, Nat.le_of_ble_eq_true rfl⟩ hl.1 rfl (Nat.le_of_ble_eq_true rfl) ⟨Nat.zero_le _, Nat.zero_le _⟩ dX11_tone_28 (fun H locs w => ?_)
  refine lv_if_ne (tgt := 36) hx hb dX11_tone_31 (by decide) (fun c1 => absurd c1 (by decide)) (fun _ => ?_)
  refine lv_iconst (v := 0) hx hb dX11_tone_34 (by decide) ?_
  exact e_z F w hr hlocks (by decide) ⟨rfl, rfl⟩ dX11_tone_35
theorem dX11_isKind_4 : decode cX11_isKind 4 = .ok (.iload_n 0, 1) := by decide +kernel
theorem dX11_isKind_5 : decode cX11_isKind 5 = .ok (.iconst 2, 1) := by decide +kernel
theorem dX11_isKind_6 : decode cX11_isKind 6 = .ok (.if_icmp .gt 7, 3) := by decide +kernel
set_option maxRecDepth 4000 in
theorem c_X11_isKind_36 {l : Launch} {D : va_G} {B : Nat} {cy : Nat → ClassId} {M : Mem} {p0 : Int32} (h0 : ¬ p0 < 0) (h1 : 2 < p0) : Ci l D B cy yX11_isKind cX11_isKind 1 (some .boolean) 0 0 [.int p0] M (fun r M1 => r = 0 ∧ M1 = M) := by
  refine s_any (by decide) (Nat.le_of_ble_eq_true rfl) ?_
  intro p e s m below meth c ls F hr hlocks w hl
  have F : CallFix p m c cX11_isKind 1 s _ TB RX11 := F
  have hx := F.1
  have hb := F.2.1
  have hl : lv_has ls 1 [(0, .int p0)] := hl
  refine lv_iload_n hx hb dX11_isKind_0 rfl (lv_at hl 0 rfl) ?_
  refine lv_if_lt (tgt := 13) hx hb dX11_isKind_1 (by decide) (fun c1 => absurd c1 h0) (fun _ => ?_)
  refine lv_iload_n hx hb dX11_isKind_4 rfl (lv_at hl 0 rfl) ?_
  refine lv_iconst (v := 2) hx hb dX11_isKind_5 (by decide) ?_
  refine lv_icmp_gt (tgt := 13) hx hb dX11_isKind_6 (by decide) (fun _ => ?_) (fun c1 => absurd h1 c1)
  refine lv_iconst (v := 0) hx hb dX11_isKind_13 (by decide) ?_
  exact e_z F w hr hlocks (by decide) ⟨rfl, rfl⟩ dX11_isKind_14
set_option maxRecDepth 4000 in
theorem c_X11_tone_37 {l : Launch} {D : va_G} {B : Nat} {cy : Nat → ClassId} {M : Mem} {p2 : Int32} (h0 : M.1 44 0 = 0) (h1 : ¬ p2 < 0) (h2 : 2 < p2) : Ci l D B cy yX11_tone cX11_tone 3 (some .boolean) 1 20 [.ref (B + 0), .int 0, .int p2] M (fun r M1 => r = 0 ∧ M1 = M) := by
  refine s_any (by decide) (Nat.le_of_ble_eq_true rfl) ?_
  intro p e s m below meth c ls F hr hlocks w hl
  have F : CallFix p m c cX11_tone 3 s _ TB RX11 := F
  have hx := F.1
  have hb := F.2.1
  have hl : lv_has ls 3 [(0, .ref (B + 0)), (1, .int 0), (2, .int p2)] := hl
  refine lv_iload_n hx hb dX11_tone_0 rfl (lv_at hl 1 rfl) ?_
  refine lv_if_lt (tgt := 34) hx hb dX11_tone_1 (by decide) (fun c1 => absurd c1 (by decide)) (fun _ => ?_)
  refine lv_iload_n hx hb dX11_tone_4 rfl (lv_at hl 1 rfl) ?_
  refine lv_aload_n hx hb dX11_tone_5 rfl (lv_at hl 0 rfl) ?_
  refine f_11_4 F w (a := 0) rfl tb_73 dX11_tone_6 ?_
  refine f_9_0 F w (a := 44) rfl tb_83 dX11_tone_9 ?_
  refine r_val (v := 0) (h0) ?_
  refine lv_icmp_gt (tgt := 34) hx hb dX11_tone_12 (by decide) (fun c1 => absurd c1 (by decide)) (fun _ => ?_)
  refine lv_aload_n hx hb dX11_tone_15 rfl (lv_at hl 0 rfl) ?_
  refine f_11_4 F w (a := 0) rfl tb_73 dX11_tone_16 ?_
  refine f_9_0 F w (a := 44) rfl tb_83 dX11_tone_19 ?_
  refine r_val (v := 0) (h0) ?_
  refine lv_bipush (v := 12) hx hb dX11_tone_22 (by decide) ?_
  refine lv_icmp_ge (tgt := 34) hx hb dX11_tone_24 (by decide) (fun c1 => absurd c1 (by decide)) (fun _ => ?_)
  refine lv_iload_n hx hb dX11_tone_27 rfl (lv_at hl 2 rfl) ?_
  refine x_Si F w (As := [.int p2]) (rest := []) (c_X11_isKind_36 h1 h2) gs_X11_133 hs_X11_isKind ⟨Nat.le_of_ble_eq_true rfl, Nat.le_of_ble_eq_true rfl⟩ hl.1 rfl (Nat.le_of_ble_eq_true rfl) ⟨Nat.zero_le _, Nat.zero_le _⟩ dX11_tone_28 (fun H locs w => ?_)
  refine lv_if_ne (tgt := 36) hx hb dX11_tone_31 (by decide) (fun c1 => absurd c1 (by decide)) (fun _ => ?_)
  refine lv_iconst (v := 0) hx hb dX11_tone_34 (by decide) ?_
  exact e_z F w hr hlocks (by decide) ⟨rfl, rfl⟩ dX11_tone_35
theorem dX11_isKind_9 : decode cX11_isKind 9 = .ok (.iconst 1, 1) := by decide +kernel
theorem dX11_isKind_10 : decode cX11_isKind 10 = .ok (.goto 4, 3) := by decide +kernel
