/-- a tone is changed after its like -/
def turnP (K : Nat → Nat) (t x : Nat) : Prop := t ≠ 0 ∧ K (t - 1) = K t ∧ K t ≠ x
theorem kindW {M : Mem} {n q hv ed t x : Nat} {K L : Nat → Nat} {z : Int32} (hW : isR M 148 n q hv ed K L) (hn : n ≤ 12) (ht : t < n) : isR (st (st M 148 (1 + t) (zI (x : Int))) 146 3 z) 148 n q hv ed (updF K t x) L ∧ (st (st M 148 (1 + t) (zI (x : Int))) 146 3 z).1 146 3 = z ∧ FrC (st (st M 148 (1 + t) (zI (x : Int))) 146 3 z) M := by
  obtain ⟨w0, w1, w2, w3, w4, w5⟩ := hW
  refine ⟨⟨?_, ?_, ?_, ?_, fun k hk => ?_, fun k hk => ?_⟩, by simp [st, sA, upd], ⟨fun b h1 h2 => by simp [st, sA, h1, h2], fun k h => by simp [st, sA, upd, h], rfl⟩⟩
  · simp only [st, sA]; simp; simp only [upd]; rw [if_neg (by omega)]; exact w0
  · simp only [st, sA]; simp; simp only [upd]; rw [if_neg (by omega)]; exact w1
  · simp only [st, sA]; simp; simp only [upd]; rw [if_neg (by omega)]; exact w2
  · simp only [st, sA]; simp; simp only [upd]; rw [if_neg (by omega)]; exact w3
  · simp only [st, sA, updF]; simp; simp only [upd]
    by_cases h : k = t
    · simp [h]
    · rw [if_neg (by omega), if_neg h]; exact w4 k hk
  · simp only [st, sA]; simp; simp only [upd]; rw [if_neg (by omega)]; exact w5 k hk
theorem wkindW {M : Mem} {a n q hv ed t v : Nat} {K L : Nat → Nat} (h : isW M a n q hv ed K L) : isW (st M (a + 1) t (zI (v : Int))) a n q hv ed (updF K t v) L ∧ Fr3 (st M (a + 1) t (zI (v : Int))) M a := by
  obtain ⟨w0, w1, w2, w3, w4, w5⟩ := h
  refine ⟨⟨by simp [st, sA, w0], by simp [st, sA, w1], by simp [st, sA, w2], by simp [st, sA, w3], fun k hk => ?_, fun k hk => by simp [st, sA, w5 k hk]⟩, ⟨fun b h1 h2 h3 => by simp [st, sA, h2], rfl⟩⟩
  simp only [st, sA, updF]; simp; simp only [upd]
  by_cases h1 : k = t
  · rw [if_pos h1, if_pos h1]
  · rw [if_neg h1, if_neg h1]; exact w4 k hk
theorem dX12_turns_0 : decode cX12_turns 0 = .ok (.iload_n 1, 1) := dq0 kk_27 (by decide +kernel)
theorem dX12_turns_1 : decode cX12_turns 1 = .ok (.ifCond .eq 36, 3) := dqT kk_153 (by decide +kernel)
theorem dX12_turns_37 : decode cX12_turns 37 = .ok (.return_, 1) := dq0 kk_177 (by decide +kernel)
theorem dX12_turns_4 : decode cX12_turns 4 = .ok (.aload_n 0, 1) := dq0 kk_42 (by decide +kernel)
theorem dX12_turns_5 : decode cX12_turns 5 = .ok (.getfield 17, 3) := dqV kk_180 (by decide +kernel)
theorem dX12_turns_8 : decode cX12_turns 8 = .ok (.iconst 1, 1) := dq0 kk_4 (by decide +kernel)
theorem dX12_turns_9 : decode cX12_turns 9 = .ok (.iload_n 1, 1) := dq0 kk_27 (by decide +kernel)
theorem dX12_turns_10 : decode cX12_turns 10 = .ok (.iadd, 1) := dq0 kk_96 (by decide +kernel)
theorem dX12_turns_11 : decode cX12_turns 11 = .ok (.iconst 1, 1) := dq0 kk_4 (by decide +kernel)
theorem dX12_turns_12 : decode cX12_turns 12 = .ok (.isub, 1) := dq0 kk_100 (by decide +kernel)
theorem dX12_turns_13 : decode cX12_turns 13 = .ok (.iaload, 1) := dq0 kk_46 (by decide +kernel)
theorem dX12_turns_14 : decode cX12_turns 14 = .ok (.aload_n 0, 1) := dq0 kk_42 (by decide +kernel)
theorem dX12_turns_15 : decode cX12_turns 15 = .ok (.getfield 17, 3) := dqV kk_180 (by decide +kernel)
theorem dX12_turns_18 : decode cX12_turns 18 = .ok (.iconst 1, 1) := dq0 kk_4 (by decide +kernel)
theorem dX12_turns_19 : decode cX12_turns 19 = .ok (.iload_n 1, 1) := dq0 kk_27 (by decide +kernel)
theorem dX12_turns_20 : decode cX12_turns 20 = .ok (.iadd, 1) := dq0 kk_96 (by decide +kernel)
theorem dX12_turns_21 : decode cX12_turns 21 = .ok (.iaload, 1) := dq0 kk_46 (by decide +kernel)
theorem dX12_turns_22 : decode cX12_turns 22 = .ok (.if_icmp .ne 15, 3) := dqT kk_160 (by decide +kernel)
theorem dX12_turns_25 : decode cX12_turns 25 = .ok (.aload_n 0, 1) := dq0 kk_42 (by decide +kernel)
theorem dX12_turns_26 : decode cX12_turns 26 = .ok (.getfield 17, 3) := dqV kk_180 (by decide +kernel)
theorem dX12_turns_29 : decode cX12_turns 29 = .ok (.iconst 1, 1) := dq0 kk_4 (by decide +kernel)
theorem dX12_turns_30 : decode cX12_turns 30 = .ok (.iload_n 1, 1) := dq0 kk_27 (by decide +kernel)
theorem dX12_turns_31 : decode cX12_turns 31 = .ok (.iadd, 1) := dq0 kk_96 (by decide +kernel)
theorem dX12_turns_32 : decode cX12_turns 32 = .ok (.iaload, 1) := dq0 kk_46 (by decide +kernel)
theorem dX12_turns_33 : decode cX12_turns 33 = .ok (.iload_n 2, 1) := dq0 kk_28 (by decide +kernel)
theorem dX12_turns_34 : decode cX12_turns 34 = .ok (.if_icmp .ne 4, 3) := dqT kk_160 (by decide +kernel)
theorem dX12_turns_38 : decode cX12_turns 38 = .ok (.aload_n 0, 1) := dq0 kk_42 (by decide +kernel)
theorem dX12_turns_39 : decode cX12_turns 39 = .ok (.getfield 17, 3) := dqV kk_180 (by decide +kernel)
theorem dX12_turns_42 : decode cX12_turns 42 = .ok (.iconst 1, 1) := dq0 kk_4 (by decide +kernel)
theorem dX12_turns_43 : decode cX12_turns 43 = .ok (.iload_n 1, 1) := dq0 kk_27 (by decide +kernel)
theorem dX12_turns_44 : decode cX12_turns 44 = .ok (.iadd, 1) := dq0 kk_96 (by decide +kernel)
theorem dX12_turns_45 : decode cX12_turns 45 = .ok (.iload_n 2, 1) := dq0 kk_28 (by decide +kernel)
theorem dX12_turns_46 : decode cX12_turns 46 = .ok (.iastore, 1) := dq0 kk_79 (by decide +kernel)
theorem dX12_turns_47 : decode cX12_turns 47 = .ok (.aload_n 0, 1) := dq0 kk_42 (by decide +kernel)
theorem dX12_turns_48 : decode cX12_turns 48 = .ok (.dup, 1) := dq0 kk_89 (by decide +kernel)
theorem dX12_turns_49 : decode cX12_turns 49 = .ok (.getfield 66, 3) := dqV kk_180 (by decide +kernel)
theorem dX12_turns_52 : decode cX12_turns 52 = .ok (.iconst 1, 1) := dq0 kk_4 (by decide +kernel)
theorem dX12_turns_53 : decode cX12_turns 53 = .ok (.iadd, 1) := dq0 kk_96 (by decide +kernel)
theorem dX12_turns_54 : decode cX12_turns 54 = .ok (.putfield 66, 3) := dqV kk_181 (by decide +kernel)
theorem dX12_turns_57 : decode cX12_turns 57 = .ok (.return_, 1) := dq0 kk_177 (by decide +kernel)
set_option maxRecDepth 4000 in
theorem s_X12_turns {l : Launch} {D : va_G} {B : Nat} {cy : Nat → ClassId} {M : Mem} {n q hv ed : Nat} {K L : Nat → Nat} {z9 : Int} (hW : isR M 148 n q hv ed K L) (hwf : wf n q hv ed K L) (hc : M.1 146 3 = zI z9) {t x : Nat} (ht : t < n) (hx : x ≤ 2) : Cv l D B cy yX12_turns cX12_turns 3 0 0 [.ref (B + 146), .int (zI (t : Int)), .int (zI (x : Int))] M (fun M1 => (turnP K t x ∧ isR M1 148 n q hv ed (updF K t x) L ∧ M1.1 146 3 = zI (z9 + 1) ∧ FrC M1 M) ∨ (¬ turnP K t x ∧ M1 = M)) := by
  refine s_any (by decide) (Nat.le_of_ble_eq_true rfl) ?_
  intro p e s m below meth c ls F hr hlocks w hl
  have F : CallFix p m c cX12_turns 3 s _ TB RX12 := F
  have hx := F.1
  have hb := F.2.1
  have hl : lv_has ls 3 [(0, .ref (B + 146)), (1, .int (zI (t : Int))), (2, .int (zI (x : Int)))] := hl
  have hwf0 := hwf
  obtain ⟨hn, hq, hhv, hed, hKL⟩ := hwf0
  refine lv_iload_n hx hb dX12_turns_0 rfl (lv_at hl 1 rfl) ?_
  refine z_if_eq (tgt := 37) hx hb (by omega) dX12_turns_1 (by decide) (fun c1 => ?_) (fun c1 => ?_)
  · exact e_v F w hr hlocks (Or.inr ⟨fun h9 => by have h91 := h9.1; have h92 := h9.2.1; have h93 := h9.2.2; omega, rfl⟩) dX12_turns_37
  · refine lv_aload_n hx hb dX12_turns_4 rfl (lv_at hl 0 rfl) ?_
    refine f_12_2 F w (a := 146) rfl tb_45 dX12_turns_5 ?_
    refine lv_iconst (v := zI 1) hx hb dX12_turns_8 rfl ?_
    refine lv_iload_n hx hb dX12_turns_9 rfl (lv_at hl 1 rfl) ?_
    refine z_iadd (z := (((1 + t) : Nat) : Int)) hx hb dX12_turns_10 (by omega) ?_
    refine lv_iconst (v := zI 1) hx hb dX12_turns_11 rfl ?_
    refine z_isub (z := ((((1 + t) : Nat) : Int) - 1)) hx hb dX12_turns_12 (by omega) ?_
    refine r_val (v := (zI (((1 + (t - 1)) : Nat) : Int))) (congrArg zI (by omega)) ?_
    refine g_iald F w (a := 148) rfl (j := (1 + (t - 1))) (ix_n (by omega)) (by omega) dX12_turns_13 ?_
    have hK1 := (hKL (t - 1) (by omega)).1
    refine r_val (v := (zI (((K (t - 1)) : Nat) : Int))) (hW.2.2.2.2.1 (t - 1) (by omega)) ?_
    refine lv_aload_n hx hb dX12_turns_14 rfl (lv_at hl 0 rfl) ?_
    refine f_12_2 F w (a := 146) rfl tb_45 dX12_turns_15 ?_
    refine lv_iconst (v := zI 1) hx hb dX12_turns_18 rfl ?_
    refine lv_iload_n hx hb dX12_turns_19 rfl (lv_at hl 1 rfl) ?_
    refine z_iadd (z := (((1 + t) : Nat) : Int)) hx hb dX12_turns_20 (by omega) ?_
    refine g_iald F w (a := 148) rfl (j := (1 + t)) (ix_n (by omega)) (by omega) dX12_turns_21 ?_
    have hK1 := (hKL t (by omega)).1
    refine r_val (v := (zI (((K t) : Nat) : Int))) (hW.2.2.2.2.1 t (by omega)) ?_
    refine z_icmp_ne (tgt := 37) hx hb (by omega) (by omega) dX12_turns_22 (by decide) (fun c2 => ?_) (fun c2 => ?_)
    · exact e_v F w hr hlocks (Or.inr ⟨fun h9 => by have h91 := h9.1; have h92 := h9.2.1; have h93 := h9.2.2; omega, rfl⟩) dX12_turns_37
    · refine lv_aload_n hx hb dX12_turns_25 rfl (lv_at hl 0 rfl) ?_
      refine f_12_2 F w (a := 146) rfl tb_45 dX12_turns_26 ?_
      refine lv_iconst (v := zI 1) hx hb dX12_turns_29 rfl ?_
      refine lv_iload_n hx hb dX12_turns_30 rfl (lv_at hl 1 rfl) ?_
      refine z_iadd (z := (((1 + t) : Nat) : Int)) hx hb dX12_turns_31 (by omega) ?_
      refine g_iald F w (a := 148) rfl (j := (1 + t)) (ix_n (by omega)) (by omega) dX12_turns_32 ?_
      have hK2 := (hKL t (by omega)).1
      refine r_val (v := (zI (((K t) : Nat) : Int))) (hW.2.2.2.2.1 t (by omega)) ?_
      refine lv_iload_n hx hb dX12_turns_33 rfl (lv_at hl 2 rfl) ?_
      refine z_icmp_ne (tgt := 38) hx hb (by omega) (by omega) dX12_turns_34 (by decide) (fun c3 => ?_) (fun c3 => ?_)
      · refine lv_aload_n hx hb dX12_turns_38 rfl (lv_at hl 0 rfl) ?_
        refine f_12_2 F w (a := 146) rfl tb_45 dX12_turns_39 ?_
        refine lv_iconst (v := zI 1) hx hb dX12_turns_42 rfl ?_
        refine lv_iload_n hx hb dX12_turns_43 rfl (lv_at hl 1 rfl) ?_
        refine z_iadd (z := (((1 + t) : Nat) : Int)) hx hb dX12_turns_44 (by omega) ?_
        refine lv_iload_n hx hb dX12_turns_45 rfl (lv_at hl 2 rfl) ?_
        refine g_iast F w (a := 148) rfl (j := (1 + t)) (ix_n (by omega)) (by omega) dX12_turns_46 (fun H locs w => ?_)
        refine lv_aload_n hx hb dX12_turns_47 rfl (lv_at hl 0 rfl) ?_
        refine lv_dup hx hb dX12_turns_48 rfl ?_
        refine f_12_3 F w (a := 146) rfl tb_46 dX12_turns_49 ?_
        refine r_val (v := (zI z9)) ((st_ne (Or.inl (by omega))).trans hc) ?_
        refine lv_iconst (v := zI 1) hx hb dX12_turns_52 rfl ?_
        refine z_iadd (z := (z9 + 1)) hx hb dX12_turns_53 (by omega) ?_
        refine u_12_3 F w (a := 146) rfl tb_46 dX12_turns_54 (fun H locs w => ?_)
        exact e_v F w hr hlocks (Or.inl ⟨⟨by omega, by omega, by omega⟩, kindW hW hn ht⟩) dX12_turns_57
      · exact e_v F w hr hlocks (Or.inr ⟨fun h9 => by have h91 := h9.1; have h92 := h9.2.1; have h93 := h9.2.2; omega, rfl⟩) dX12_turns_37
theorem dX1_turnTo_0 : decode cX1_turnTo 0 = .ok (.aload_n 1, 1) := dq0 kk_43 (by decide +kernel)
theorem dX1_turnTo_1 : decode cX1_turnTo 1 = .ok (.iload_n 2, 1) := dq0 kk_28 (by decide +kernel)
theorem dX1_turnTo_2 : decode cX1_turnTo 2 = .ok (.invokevirtual 94, 3) := dqV kk_182 (by decide +kernel)
theorem tk_X9_kindOf : Cond.code yX9_kindOf cX9_kindOf 2 (some .int) ∈ TB := tbm (tc4 (List.mem_of_getElem? (i := 40) rfl)) rfl
theorem gc_X9_kindOf : GoodIn TB (cw yX9_kindOf cX9_kindOf 2 (some .int)) := goodIn_c2 tk_X9_kindOf
theorem tb_82 : Cond.methodLink "ToneLines$Doer" 94 yX9_kindOf ∈ TB := tbm (tc4 (List.mem_of_getElem? (i := 37) rfl)) rfl
theorem tb_83 : Cond.instanceMethod yX9_kindOf ∈ TB := tbm (tc4 (List.mem_of_getElem? (i := 38) rfl)) rfl
theorem tb_84 : Cond.selects "ToneLines$Word" yX9_kindOf yX9_kindOf ∈ TB := tbm (tc4 (List.mem_of_getElem? (i := 39) rfl)) rfl
theorem gv_X1_94 : GoodIn TB (wsV RX1 94 RX9 yX9_kindOf (cw yX9_kindOf cX9_kindOf 2 (some .int))) := goodIn_4 tb_82 tb_83 tb_84 tb_5 gc_X9_kindOf
theorem hv_X9_kindOf : yX9_kindOf.cls = RX9 ∧ yX9_kindOf.cls ≠ "java/lang/invoke/MethodHandle" ∧ yX9_kindOf.cls ≠ "java/lang/invoke/VarHandle" ∧ (parseMethodDescriptor yX9_kindOf.desc).map (fun d => d.parameters.length) = some 1 := by decide +kernel
theorem dX1_turnTo_5 : decode cX1_turnTo 5 = .ok (.istore 4, 2) := dqU kk_54 (by decide +kernel)
theorem dX1_turnTo_7 : decode cX1_turnTo 7 = .ok (.iload 4, 2) := dqU kk_21 (by decide +kernel)
theorem dX1_turnTo_9 : decode cX1_turnTo 9 = .ok (.iconst (-1), 1) := dq0 kk_2 (by decide +kernel)
theorem dX1_turnTo_10 : decode cX1_turnTo 10 = .ok (.if_icmp .eq 21, 3) := dqT kk_159 (by decide +kernel)
theorem dX1_turnTo_31 : decode cX1_turnTo 31 = .ok (.iconst 0, 1) := dq0 kk_3 (by decide +kernel)
theorem dX1_turnTo_32 : decode cX1_turnTo 32 = .ok (.ireturn, 1) := dq0 kk_172 (by decide +kernel)
theorem dX1_turnTo_13 : decode cX1_turnTo 13 = .ok (.iload 4, 2) := dqU kk_21 (by decide +kernel)
theorem dX1_turnTo_15 : decode cX1_turnTo 15 = .ok (.iload_n 3, 1) := dq0 kk_29 (by decide +kernel)
theorem dX1_turnTo_16 : decode cX1_turnTo 16 = .ok (.if_icmp .eq 15, 3) := dqT kk_159 (by decide +kernel)
theorem dX1_turnTo_19 : decode cX1_turnTo 19 = .ok (.aload_n 1, 1) := dq0 kk_43 (by decide +kernel)
theorem dX1_turnTo_20 : decode cX1_turnTo 20 = .ok (.iload_n 2, 1) := dq0 kk_28 (by decide +kernel)
theorem dX1_turnTo_21 : decode cX1_turnTo 21 = .ok (.iconst 1, 1) := dq0 kk_4 (by decide +kernel)
theorem dX1_turnTo_22 : decode cX1_turnTo 22 = .ok (.isub, 1) := dq0 kk_100 (by decide +kernel)
theorem dX1_turnTo_23 : decode cX1_turnTo 23 = .ok (.invokevirtual 94, 3) := dqV kk_182 (by decide +kernel)
theorem dX1_turnTo_26 : decode cX1_turnTo 26 = .ok (.iload 4, 2) := dqU kk_21 (by decide +kernel)
theorem dX1_turnTo_28 : decode cX1_turnTo 28 = .ok (.if_icmp .eq 5, 3) := dqT kk_159 (by decide +kernel)
theorem dX1_turnTo_33 : decode cX1_turnTo 33 = .ok (.aload_n 1, 1) := dq0 kk_43 (by decide +kernel)
theorem dX1_turnTo_34 : decode cX1_turnTo 34 = .ok (.getfield 140, 3) := dqV kk_180 (by decide +kernel)
theorem tb_85 : Cond.fieldLink "ToneLines$Doer" 140 "ToneLines$Word" "kinds" "[I" ∈ TB := tbm (tc1 (List.mem_of_getElem? (i := 144) rfl)) rfl
theorem dX1_turnTo_37 : decode cX1_turnTo 37 = .ok (.iload_n 2, 1) := dq0 kk_28 (by decide +kernel)
theorem dX1_turnTo_38 : decode cX1_turnTo 38 = .ok (.iload_n 3, 1) := dq0 kk_29 (by decide +kernel)
theorem dX1_turnTo_39 : decode cX1_turnTo 39 = .ok (.iastore, 1) := dq0 kk_79 (by decide +kernel)
theorem dX1_turnTo_40 : decode cX1_turnTo 40 = .ok (.iconst 1, 1) := dq0 kk_4 (by decide +kernel)
theorem dX1_turnTo_41 : decode cX1_turnTo 41 = .ok (.ireturn, 1) := dq0 kk_172 (by decide +kernel)
set_option maxRecDepth 4000 in
theorem s_X1_turnTo {l : Launch} {D : va_G} {B : Nat} {cy : Nat → ClassId} {M : Mem} {a n q hv ed : Nat} {K L : Nat → Nat} (hk : kd a = (9, 0, 0)) (hW : isW M a n q hv ed K L) (hwf : wf n q hv ed K L) {t x : Nat} (ht : t < n) (hx : x ≤ 2) : Ci l D B cy yX1_turnTo cX1_turnTo 5 (some .int) 2 42 [.ref (B + 23), .ref (B + a), .int (zI (t : Int)), .int (zI (x : Int))] M (fun r M1 => (turnP K t x ∧ r = zI 1 ∧ isW M1 a n q hv ed (updF K t x) L ∧ Fr3 M1 M a) ∨ (¬ turnP K t x ∧ r = zI 0 ∧ M1 = M)) := by
  refine s_any (by decide) (Nat.le_of_ble_eq_true rfl) ?_
  intro p e s m below meth c ls F hr hlocks w hl
  have F : CallFix p m c cX1_turnTo 5 s _ TB RX1 := F
  have hx := F.1
  have hb := F.2.1
  have hl : lv_has ls 5 [(0, .ref (B + 23)), (1, .ref (B + a)), (2, .int (zI (t : Int))), (3, .int (zI (x : Int)))] := hl
  have hwf0 := hwf
  obtain ⟨hn, hq, hhv, hed, hKL⟩ := hwf0
  refine lv_aload_n hx hb dX1_turnTo_0 rfl (lv_at hl 1 rfl) ?_
  refine lv_iload_n hx hb dX1_turnTo_1 rfl (lv_at hl 2 rfl) ?_
  refine k_Vi F w (As := [.int (zI (t : Int))]) (rest := []) (a := a) (kd_lt (a := a) hk (by decide)) (sh_9 hk _ _) rfl (s_X9_kindOf hk hW hwf (by omega)) gv_X1_94 hv_X9_kindOf ⟨(Nat.le_of_ble_eq_true rfl), (Nat.le_of_ble_eq_true rfl)⟩ hl.1 rfl (Nat.le_of_ble_eq_true rfl) ⟨Nat.zero_le _, Nat.zero_le _⟩ dX1_turnTo_2 (fun r M1 H locs hp w => ?_)
  rcases hp with ⟨⟨k1, ek1, hk1, rfl⟩ | ⟨nk1, rfl⟩, hMe⟩
  · obtain rfl : t = k1 := by omega
    rw [hMe] at w
    have gk1 := (hKL t (by omega)).1
    refine lv_istore (lv' := [(4, .int (zI (((K t) : Nat) : Int))), (0, .ref (B + 23)), (1, .ref (B + a)), (2, .int (zI (t : Int))), (3, .int (zI (x : Int)))]) hx hb dX1_turnTo_5 hl (by decide) rfl (fun ls hl => ?_)
    refine lv_iload hx hb dX1_turnTo_7 (lv_at hl 0 rfl) ?_
    refine lv_iconst (v := zI (-1)) hx hb dX1_turnTo_9 rfl ?_
    refine z_icmp_eq (tgt := 31) hx hb (by omega) (by omega) dX1_turnTo_10 (by decide) (fun c2 => ?_) (fun c2 => ?_)
    · refine lv_iconst (v := zI 0) hx hb dX1_turnTo_31 rfl ?_
      exact e_i F w hr hlocks (Or.inr ⟨fun h9 => by have h91 := h9.1; have h92 := h9.2.1; have h93 := h9.2.2; omega, rfl, rfl⟩) dX1_turnTo_32
    · refine lv_iload hx hb dX1_turnTo_13 (lv_at hl 0 rfl) ?_
      refine lv_iload_n hx hb dX1_turnTo_15 rfl (lv_at hl 4 rfl) ?_
      refine z_icmp_eq (tgt := 31) hx hb (by omega) (by omega) dX1_turnTo_16 (by decide) (fun c3 => ?_) (fun c3 => ?_)
      · refine lv_iconst (v := zI 0) hx hb dX1_turnTo_31 rfl ?_
        exact e_i F w hr hlocks (Or.inr ⟨fun h9 => by have h91 := h9.1; have h92 := h9.2.1; have h93 := h9.2.2; omega, rfl, rfl⟩) dX1_turnTo_32
      · refine lv_aload_n hx hb dX1_turnTo_19 rfl (lv_at hl 2 rfl) ?_
        refine lv_iload_n hx hb dX1_turnTo_20 rfl (lv_at hl 3 rfl) ?_
        refine lv_iconst (v := zI 1) hx hb dX1_turnTo_21 rfl ?_
        refine z_isub (z := ((t : Int) - 1)) hx hb dX1_turnTo_22 (by omega) ?_
        refine k_Vi F w (As := [.int (zI ((t : Int) - 1))]) (rest := []) (a := a) (kd_lt (a := a) hk (by decide)) (sh_9 hk _ _) rfl (s_X9_kindOf hk hW hwf (by omega)) gv_X1_94 hv_X9_kindOf ⟨(Nat.le_of_ble_eq_true rfl), (Nat.le_of_ble_eq_true rfl)⟩ hl.1 rfl (Nat.le_of_ble_eq_true rfl) ⟨Nat.zero_le _, Nat.zero_le _⟩ dX1_turnTo_23 (fun r M1 H locs hp w => ?_)
        rcases hp with ⟨⟨k4, ek4, hk4, rfl⟩ | ⟨nk4, rfl⟩, hMe⟩
        · obtain rfl : t - 1 = k4 := by omega
          rw [hMe] at w
          have gk4 := (hKL (t - 1) (by omega)).1
          refine lv_iload hx hb dX1_turnTo_26 (lv_at hl 0 rfl) ?_
          refine z_icmp_eq (tgt := 33) hx hb (by omega) (by omega) dX1_turnTo_28 (by decide) (fun c5 => ?_) (fun c5 => ?_)
          · refine lv_aload_n hx hb dX1_turnTo_33 rfl (lv_at hl 2 rfl) ?_
            refine f_9_4 F w (a := a) hk tb_85 dX1_turnTo_34 ?_
            refine lv_iload_n hx hb dX1_turnTo_37 rfl (lv_at hl 3 rfl) ?_
            refine lv_iload_n hx hb dX1_turnTo_38 rfl (lv_at hl 4 rfl) ?_
            refine g_iast F w (a := (a + 1)) (kd_w1 hk) (j := t) (ix_n (by omega)) (by omega) dX1_turnTo_39 (fun H locs w => ?_)
            refine lv_iconst (v := zI 1) hx hb dX1_turnTo_40 rfl ?_
            exact e_i F w hr hlocks (Or.inl ⟨⟨by omega, by omega, by omega⟩, rfl, wkindW hW⟩) dX1_turnTo_41
          · refine lv_iconst (v := zI 0) hx hb dX1_turnTo_31 rfl ?_
            exact e_i F w hr hlocks (Or.inr ⟨fun h9 => by have h91 := h9.1; have h92 := h9.2.1; have h93 := h9.2.2; omega, rfl, rfl⟩) dX1_turnTo_32
        · rw [hMe] at w
          refine lv_iload hx hb dX1_turnTo_26 (lv_at hl 0 rfl) ?_
          refine z_icmp_eq (tgt := 33) hx hb (by omega) (by omega) dX1_turnTo_28 (by decide) (fun c6 => ?_) (fun c6 => ?_)
          · refine lv_aload_n hx hb dX1_turnTo_33 rfl (lv_at hl 2 rfl) ?_
            refine f_9_4 F w (a := a) hk tb_85 dX1_turnTo_34 ?_
            refine lv_iload_n hx hb dX1_turnTo_37 rfl (lv_at hl 3 rfl) ?_
            refine lv_iload_n hx hb dX1_turnTo_38 rfl (lv_at hl 4 rfl) ?_
            refine g_iast F w (a := (a + 1)) (kd_w1 hk) (j := t) (ix_n (by omega)) (by omega) dX1_turnTo_39 (fun H locs w => ?_)
            refine lv_iconst (v := zI 1) hx hb dX1_turnTo_40 rfl ?_
            exact e_i F w hr hlocks (Or.inl ⟨⟨by omega, by omega, by omega⟩, rfl, wkindW hW⟩) dX1_turnTo_41
          · refine lv_iconst (v := zI 0) hx hb dX1_turnTo_31 rfl ?_
            exact e_i F w hr hlocks (Or.inr ⟨fun h9 => by have h91 := h9.1; have h92 := h9.2.1; have h93 := h9.2.2; omega, rfl, rfl⟩) dX1_turnTo_32
  · exact False.elim (by omega)
theorem dX1_drop_0 : decode cX1_drop 0 = .ok (.aload_n 1, 1) := dq0 kk_43 (by decide +kernel)
theorem dX1_drop_1 : decode cX1_drop 1 = .ok (.iload_n 2, 1) := dq0 kk_28 (by decide +kernel)
theorem dX1_drop_2 : decode cX1_drop 2 = .ok (.invokevirtual 56, 3) := dqV kk_182 (by decide +kernel)
theorem dX1_drop_5 : decode cX1_drop 5 = .ok (.ifCond .eq 5, 3) := dqT kk_153 (by decide +kernel)
theorem dX1_drop_10 : decode cX1_drop 10 = .ok (.aload_n 1, 1) := dq0 kk_43 (by decide +kernel)
theorem dX1_drop_11 : decode cX1_drop 11 = .ok (.iload_n 2, 1) := dq0 kk_28 (by decide +kernel)
theorem dX1_drop_12 : decode cX1_drop 12 = .ok (.invokevirtual 136, 3) := dqV kk_182 (by decide +kernel)
theorem tk_X9_removeTone : Cond.code yX9_removeTone cX9_removeTone 3 none ∈ TB := tbm (tc3 (List.mem_of_getElem? (i := 172) rfl)) rfl
theorem gc_X9_removeTone : GoodIn TB (cw yX9_removeTone cX9_removeTone 3 none) := goodIn_c2 tk_X9_removeTone
theorem tb_86 : Cond.methodLink "ToneLines$Doer" 136 yX9_removeTone ∈ TB := tbm (tc4 (List.mem_of_getElem? (i := 76) rfl)) rfl
theorem tb_87 : Cond.instanceMethod yX9_removeTone ∈ TB := tbm (tc3 (List.mem_of_getElem? (i := 170) rfl)) rfl
theorem tb_88 : Cond.selects "ToneLines$Word" yX9_removeTone yX9_removeTone ∈ TB := tbm (tc3 (List.mem_of_getElem? (i := 171) rfl)) rfl
theorem gv_X1_136 : GoodIn TB (wsV RX1 136 RX9 yX9_removeTone (cw yX9_removeTone cX9_removeTone 3 none)) := goodIn_4 tb_86 tb_87 tb_88 tb_5 gc_X9_removeTone
theorem hv_X9_removeTone : yX9_removeTone.cls = RX9 ∧ yX9_removeTone.cls ≠ "java/lang/invoke/MethodHandle" ∧ yX9_removeTone.cls ≠ "java/lang/invoke/VarHandle" ∧ (parseMethodDescriptor yX9_removeTone.desc).map (fun d => d.parameters.length) = some 1 := by decide +kernel
theorem dX1_drop_15 : decode cX1_drop 15 = .ok (.iconst 1, 1) := dq0 kk_4 (by decide +kernel)
theorem dX1_drop_16 : decode cX1_drop 16 = .ok (.ireturn, 1) := dq0 kk_172 (by decide +kernel)
theorem dX1_drop_8 : decode cX1_drop 8 = .ok (.iconst 0, 1) := dq0 kk_3 (by decide +kernel)
theorem dX1_drop_9 : decode cX1_drop 9 = .ok (.ireturn, 1) := dq0 kk_172 (by decide +kernel)
set_option maxRecDepth 4000 in
theorem s_X1_drop {l : Launch} {D : va_G} {B : Nat} {cy : Nat → ClassId} {M : Mem} {a n q hv ed : Nat} {K L : Nat → Nat} (hk : kd a = (9, 0, 0)) (hW : isW M a n q hv ed K L) (hwf : wf n q hv ed K L) {t : Nat} (ht : t < n) : Ci l D B cy yX1_drop cX1_drop 3 (some .int) 2 43 [.ref (B + 23), .ref (B + a), .int (zI (t : Int))] M (fun r M1 => (L t = 0 ∧ r = zI 1 ∧ isW M1 a (n - 1) q hv ed (remF K t) (remF L t) ∧ Fr3 M1 M a) ∨ (L t ≠ 0 ∧ r = zI 0 ∧ M1 = M)) := by
  refine s_any (by decide) (Nat.le_of_ble_eq_true rfl) ?_
  intro p e s m below meth c ls F hr hlocks w hl
  have F : CallFix p m c cX1_drop 3 s _ TB RX1 := F
  have hx := F.1
  have hb := F.2.1
  have hl : lv_has ls 3 [(0, .ref (B + 23)), (1, .ref (B + a)), (2, .int (zI (t : Int)))] := hl
  have hwf0 := hwf
  obtain ⟨hn, hq, hhv, hed, hKL⟩ := hwf0
  refine lv_aload_n hx hb dX1_drop_0 rfl (lv_at hl 1 rfl) ?_
  refine lv_iload_n hx hb dX1_drop_1 rfl (lv_at hl 2 rfl) ?_
  refine k_Vi F w (As := [.int (zI (t : Int))]) (rest := []) (a := a) (kd_lt (a := a) hk (by decide)) (sh_9 hk _ _) rfl (s_X9_linesFrom hk hW hwf (by omega)) gv_X1_56 hv_X9_linesFrom ⟨(Nat.le_of_ble_eq_true rfl), (Nat.le_of_ble_eq_true rfl)⟩ hl.1 rfl (Nat.le_of_ble_eq_true rfl) ⟨Nat.zero_le _, Nat.zero_le _⟩ dX1_drop_2 (fun r M1 H locs hp w => ?_)
  rcases hp with ⟨⟨k1, ek1, hk1, rfl⟩ | ⟨nk1, rfl⟩, hMe⟩
  · obtain rfl : t = k1 := by omega
    rw [hMe] at w
    have gk1 := (hKL t (by omega)).2
    refine z_if_eq (tgt := 10) hx hb (by omega) dX1_drop_5 (by decide) (fun c2 => ?_) (fun c2 => ?_)
    · refine lv_aload_n hx hb dX1_drop_10 rfl (lv_at hl 1 rfl) ?_
      refine lv_iload_n hx hb dX1_drop_11 rfl (lv_at hl 2 rfl) ?_
      refine k_Vv F w (As := [.int (zI (t : Int))]) (rest := []) (a := a) (kd_lt (a := a) hk (by decide)) (sh_9 hk _ _) rfl (s_X9_removeTone hk hW hwf (t := t) (by omega)) gv_X1_136 hv_X9_removeTone ⟨(Nat.le_of_ble_eq_true rfl), (Nat.le_of_ble_eq_true rfl)⟩ hl.1 rfl (Nat.le_of_ble_eq_true rfl) ⟨Nat.zero_le _, Nat.zero_le _⟩ dX1_drop_12 (fun M1 H locs hp w => ?_)
      rcases hp with ⟨hW2, hF2⟩
      refine lv_iconst (v := zI 1) hx hb dX1_drop_15 rfl ?_
      exact e_i F w hr hlocks (Or.inl ⟨by omega, rfl, hW2, hF2⟩) dX1_drop_16
    · refine lv_iconst (v := zI 0) hx hb dX1_drop_8 rfl ?_
      exact e_i F w hr hlocks (Or.inr ⟨by omega, rfl, rfl⟩) dX1_drop_9
  · exact False.elim (by omega)
