theorem dX9_hasTone_0 : decode cX9_hasTone 0 = .ok (.iload_n 1, 1) := dq0 kk_27 (by decide +kernel)
theorem dX9_hasTone_1 : decode cX9_hasTone 1 = .ok (.ifCond .lt 21, 3) := dqT kk_155 (by decide +kernel)
theorem dX9_hasTone_22 : decode cX9_hasTone 22 = .ok (.iconst 0, 1) := dq0 kk_3 (by decide +kernel)
theorem dX9_hasTone_23 : decode cX9_hasTone 23 = .ok (.ireturn, 1) := dq0 kk_172 (by decide +kernel)
theorem dX9_hasTone_4 : decode cX9_hasTone 4 = .ok (.iload_n 1, 1) := dq0 kk_27 (by decide +kernel)
theorem dX9_hasTone_5 : decode cX9_hasTone 5 = .ok (.aload_n 0, 1) := dq0 kk_42 (by decide +kernel)
theorem dX9_hasTone_6 : decode cX9_hasTone 6 = .ok (.getfield 9, 3) := dqV kk_180 (by decide +kernel)
theorem tb_0 : Cond.fieldLink "ToneLines$Word" 9 "ToneLines$Word" "tones" "I" ∈ TB := tbm (tc1 (List.mem_of_getElem? (i := 129) rfl)) rfl
theorem dX9_hasTone_9 : decode cX9_hasTone 9 = .ok (.if_icmp .ge 13, 3) := dqT kk_162 (by decide +kernel)
theorem dX9_hasTone_12 : decode cX9_hasTone 12 = .ok (.iload_n 1, 1) := dq0 kk_27 (by decide +kernel)
theorem dX9_hasTone_13 : decode cX9_hasTone 13 = .ok (.bipush 12, 2) := dqS kk_16 (by decide +kernel)
theorem dX9_hasTone_15 : decode cX9_hasTone 15 = .ok (.if_icmp .ge 7, 3) := dqT kk_162 (by decide +kernel)
theorem dX9_hasTone_18 : decode cX9_hasTone 18 = .ok (.iconst 1, 1) := dq0 kk_4 (by decide +kernel)
theorem dX9_hasTone_19 : decode cX9_hasTone 19 = .ok (.goto 4, 3) := dqT kk_167 (by decide +kernel)
set_option maxRecDepth 4000 in
theorem s_X9_hasTone {l : Launch} {D : va_G} {B : Nat} {cy : Nat → ClassId} {M : Mem} {a n q hv ed : Nat} {K L : Nat → Nat} (hk : kd a = (9, 0, 0)) (hW : isW M a n q hv ed K L) (hwf : wf n q hv ed K L) {t : Int} (ht : rg t) : Ci l D B cy yX9_hasTone cX9_hasTone 2 (some .boolean) 0 0 [.ref (B + a), .int (zI t)] M (fun r M1 => ((∃ k : Nat, t = (k : Int) ∧ k < n ∧ r = zI 1) ∨ (¬ (0 ≤ t ∧ t < (n : Int)) ∧ r = zI 0)) ∧ M1 = M) := by
  refine s_any (by decide) (Nat.le_of_ble_eq_true rfl) ?_
  intro p e s m below meth c ls F hr hlocks w hl
  have F : CallFix p m c cX9_hasTone 2 s _ TB RX9 := F
  have hx := F.1
  have hb := F.2.1
  have hl : lv_has ls 2 [(0, .ref (B + a)), (1, .int (zI t))] := hl
  have hwf0 := hwf
  obtain ⟨hn, hq, hhv, hed, hKL⟩ := hwf0
  refine lv_iload_n hx hb dX9_hasTone_0 rfl (lv_at hl 1 rfl) ?_
  refine z_if_lt (tgt := 22) hx hb (by omega) dX9_hasTone_1 (by decide) (fun c1 => ?_) (fun c1 => ?_)
  · refine lv_iconst (v := zI 0) hx hb dX9_hasTone_22 rfl ?_
    exact e_z F w hr hlocks (by decide) ⟨Or.inr ⟨by omega, rfl⟩, rfl⟩ dX9_hasTone_23
  · refine lv_iload_n hx hb dX9_hasTone_4 rfl (lv_at hl 1 rfl) ?_
    refine lv_aload_n hx hb dX9_hasTone_5 rfl (lv_at hl 0 rfl) ?_
    refine f_9_0 F w (a := a) hk tb_0 dX9_hasTone_6 ?_
    refine r_val (v := (zI (n : Int))) (hW.1) ?_
    refine z_icmp_ge (tgt := 22) hx hb (by omega) (by omega) dX9_hasTone_9 (by decide) (fun c2 => ?_) (fun c2 => ?_)
    · refine lv_iconst (v := zI 0) hx hb dX9_hasTone_22 rfl ?_
      exact e_z F w hr hlocks (by decide) ⟨Or.inr ⟨by omega, rfl⟩, rfl⟩ dX9_hasTone_23
    · refine lv_iload_n hx hb dX9_hasTone_12 rfl (lv_at hl 1 rfl) ?_
      refine lv_bipush (v := zI 12) hx hb dX9_hasTone_13 (by decide) ?_
      refine z_icmp_ge (tgt := 22) hx hb (by omega) (by omega) dX9_hasTone_15 (by decide) (fun c3 => ?_) (fun c3 => ?_)
      · refine lv_iconst (v := zI 0) hx hb dX9_hasTone_22 rfl ?_
        exact e_z F w hr hlocks (by decide) ⟨Or.inr ⟨by omega, rfl⟩, rfl⟩ dX9_hasTone_23
      · refine lv_iconst (v := zI 1) hx hb dX9_hasTone_18 rfl ?_
        refine lv_goto (tgt := 23) hx hb dX9_hasTone_19 (by decide) ?_
        exact e_z F w hr hlocks (by decide) ⟨Or.inl ⟨t.toNat, by omega, by omega, rfl⟩, rfl⟩ dX9_hasTone_23
theorem dX9_hasSyllable_0 : decode cX9_hasSyllable 0 = .ok (.iload_n 1, 1) := dq0 kk_27 (by decide +kernel)
theorem dX9_hasSyllable_1 : decode cX9_hasSyllable 1 = .ok (.ifCond .lt 15, 3) := dqT kk_155 (by decide +kernel)
theorem dX9_hasSyllable_16 : decode cX9_hasSyllable 16 = .ok (.iconst 0, 1) := dq0 kk_3 (by decide +kernel)
theorem dX9_hasSyllable_17 : decode cX9_hasSyllable 17 = .ok (.ireturn, 1) := dq0 kk_172 (by decide +kernel)
theorem dX9_hasSyllable_4 : decode cX9_hasSyllable 4 = .ok (.iload_n 1, 1) := dq0 kk_27 (by decide +kernel)
theorem dX9_hasSyllable_5 : decode cX9_hasSyllable 5 = .ok (.aload_n 0, 1) := dq0 kk_42 (by decide +kernel)
theorem dX9_hasSyllable_6 : decode cX9_hasSyllable 6 = .ok (.getfield 15, 3) := dqV kk_180 (by decide +kernel)
theorem tb_1 : Cond.fieldLink "ToneLines$Word" 15 "ToneLines$Word" "syllables" "I" ∈ TB := tbm (tc1 (List.mem_of_getElem? (i := 134) rfl)) rfl
theorem dX9_hasSyllable_9 : decode cX9_hasSyllable 9 = .ok (.if_icmp .ge 7, 3) := dqT kk_162 (by decide +kernel)
theorem dX9_hasSyllable_12 : decode cX9_hasSyllable 12 = .ok (.iconst 1, 1) := dq0 kk_4 (by decide +kernel)
theorem dX9_hasSyllable_13 : decode cX9_hasSyllable 13 = .ok (.goto 4, 3) := dqT kk_167 (by decide +kernel)
set_option maxRecDepth 4000 in
theorem s_X9_hasSyllable {l : Launch} {D : va_G} {B : Nat} {cy : Nat → ClassId} {M : Mem} {a n q hv ed : Nat} {K L : Nat → Nat} (hk : kd a = (9, 0, 0)) (hW : isW M a n q hv ed K L) (hwf : wf n q hv ed K L) {t : Int} (ht : rg t) : Ci l D B cy yX9_hasSyllable cX9_hasSyllable 2 (some .boolean) 0 0 [.ref (B + a), .int (zI t)] M (fun r M1 => ((∃ k : Nat, t = (k : Int) ∧ k < q ∧ r = zI 1) ∨ (¬ (0 ≤ t ∧ t < (q : Int)) ∧ r = zI 0)) ∧ M1 = M) := by
  refine s_any (by decide) (Nat.le_of_ble_eq_true rfl) ?_
  intro p e s m below meth c ls F hr hlocks w hl
  have F : CallFix p m c cX9_hasSyllable 2 s _ TB RX9 := F
  have hx := F.1
  have hb := F.2.1
  have hl : lv_has ls 2 [(0, .ref (B + a)), (1, .int (zI t))] := hl
  have hwf0 := hwf
  obtain ⟨hn, hq, hhv, hed, hKL⟩ := hwf0
  refine lv_iload_n hx hb dX9_hasSyllable_0 rfl (lv_at hl 1 rfl) ?_
  refine z_if_lt (tgt := 16) hx hb (by omega) dX9_hasSyllable_1 (by decide) (fun c1 => ?_) (fun c1 => ?_)
  · refine lv_iconst (v := zI 0) hx hb dX9_hasSyllable_16 rfl ?_
    exact e_z F w hr hlocks (by decide) ⟨Or.inr ⟨by omega, rfl⟩, rfl⟩ dX9_hasSyllable_17
  · refine lv_iload_n hx hb dX9_hasSyllable_4 rfl (lv_at hl 1 rfl) ?_
    refine lv_aload_n hx hb dX9_hasSyllable_5 rfl (lv_at hl 0 rfl) ?_
    refine f_9_1 F w (a := a) hk tb_1 dX9_hasSyllable_6 ?_
    refine r_val (v := (zI (q : Int))) (hW.2.1) ?_
    refine z_icmp_ge (tgt := 16) hx hb (by omega) (by omega) dX9_hasSyllable_9 (by decide) (fun c2 => ?_) (fun c2 => ?_)
    · refine lv_iconst (v := zI 0) hx hb dX9_hasSyllable_16 rfl ?_
      exact e_z F w hr hlocks (by decide) ⟨Or.inr ⟨by omega, rfl⟩, rfl⟩ dX9_hasSyllable_17
    · refine lv_iconst (v := zI 1) hx hb dX9_hasSyllable_12 rfl ?_
      refine lv_goto (tgt := 17) hx hb dX9_hasSyllable_13 (by decide) ?_
      exact e_z F w hr hlocks (by decide) ⟨Or.inl ⟨t.toNat, by omega, by omega, rfl⟩, rfl⟩ dX9_hasSyllable_17
theorem dX9_linesFrom_0 : decode cX9_linesFrom 0 = .ok (.aload_n 0, 1) := dq0 kk_42 (by decide +kernel)
theorem dX9_linesFrom_1 : decode cX9_linesFrom 1 = .ok (.iload_n 1, 1) := dq0 kk_27 (by decide +kernel)
theorem dX9_linesFrom_2 : decode cX9_linesFrom 2 = .ok (.invokevirtual 41, 3) := dqV kk_182 (by decide +kernel)
theorem tk_X9_hasTone : Cond.code yX9_hasTone cX9_hasTone 2 (some .boolean) ∈ TB := tbm (tc3 (List.mem_of_getElem? (i := 9) rfl)) rfl
theorem gc_X9_hasTone : GoodIn TB (cw yX9_hasTone cX9_hasTone 2 (some .boolean)) := goodIn_c2 tk_X9_hasTone
theorem tb_2 : Cond.methodLink "ToneLines$Word" 41 yX9_hasTone ∈ TB := tbm (tc3 (List.mem_of_getElem? (i := 6) rfl)) rfl
theorem tb_3 : Cond.instanceMethod yX9_hasTone ∈ TB := tbm (tc3 (List.mem_of_getElem? (i := 7) rfl)) rfl
theorem tb_4 : Cond.selects "ToneLines$Word" yX9_hasTone yX9_hasTone ∈ TB := tbm (tc3 (List.mem_of_getElem? (i := 8) rfl)) rfl
theorem tb_5 : Cond.initialized "ToneLines$Word" ∈ TB := tbm (tc1 (List.mem_of_getElem? (i := 8) rfl)) rfl
theorem gv_X9_41 : GoodIn TB (wsV RX9 41 RX9 yX9_hasTone (cw yX9_hasTone cX9_hasTone 2 (some .boolean))) := goodIn_4 tb_2 tb_3 tb_4 tb_5 gc_X9_hasTone
theorem hv_X9_hasTone : yX9_hasTone.cls = RX9 ∧ yX9_hasTone.cls ≠ "java/lang/invoke/MethodHandle" ∧ yX9_hasTone.cls ≠ "java/lang/invoke/VarHandle" ∧ (parseMethodDescriptor yX9_hasTone.desc).map (fun d => d.parameters.length) = some 1 := by decide +kernel
theorem dX9_linesFrom_5 : decode cX9_linesFrom 5 = .ok (.ifCond .eq 12, 3) := dqT kk_153 (by decide +kernel)
theorem dX9_linesFrom_8 : decode cX9_linesFrom 8 = .ok (.aload_n 0, 1) := dq0 kk_42 (by decide +kernel)
theorem dX9_linesFrom_9 : decode cX9_linesFrom 9 = .ok (.getfield 28, 3) := dqV kk_180 (by decide +kernel)
theorem tb_6 : Cond.fieldLink "ToneLines$Word" 28 "ToneLines$Word" "lines" "[I" ∈ TB := tbm (tc1 (List.mem_of_getElem? (i := 145) rfl)) rfl
theorem dX9_linesFrom_12 : decode cX9_linesFrom 12 = .ok (.iload_n 1, 1) := dq0 kk_27 (by decide +kernel)
theorem dX9_linesFrom_13 : decode cX9_linesFrom 13 = .ok (.iaload, 1) := dq0 kk_46 (by decide +kernel)
theorem dX9_linesFrom_14 : decode cX9_linesFrom 14 = .ok (.goto 4, 3) := dqT kk_167 (by decide +kernel)
theorem dX9_linesFrom_18 : decode cX9_linesFrom 18 = .ok (.ireturn, 1) := dq0 kk_172 (by decide +kernel)
theorem dX9_linesFrom_17 : decode cX9_linesFrom 17 = .ok (.iconst 0, 1) := dq0 kk_3 (by decide +kernel)
set_option maxRecDepth 4000 in
theorem s_X9_linesFrom {l : Launch} {D : va_G} {B : Nat} {cy : Nat → ClassId} {M : Mem} {a n q hv ed : Nat} {K L : Nat → Nat} (hk : kd a = (9, 0, 0)) (hW : isW M a n q hv ed K L) (hwf : wf n q hv ed K L) {t : Int} (ht : rg t) : Ci l D B cy yX9_linesFrom cX9_linesFrom 2 (some .int) 1 21 [.ref (B + a), .int (zI t)] M (fun r M1 => ((∃ k : Nat, t = (k : Int) ∧ k < n ∧ r = zI (L k : Int)) ∨ (¬ (0 ≤ t ∧ t < (n : Int)) ∧ r = zI 0)) ∧ M1 = M) := by
  refine s_any (by decide) (Nat.le_of_ble_eq_true rfl) ?_
  intro p e s m below meth c ls F hr hlocks w hl
  have F : CallFix p m c cX9_linesFrom 2 s _ TB RX9 := F
  have hx := F.1
  have hb := F.2.1
  have hl : lv_has ls 2 [(0, .ref (B + a)), (1, .int (zI t))] := hl
  have hwf0 := hwf
  obtain ⟨hn, hq, hhv, hed, hKL⟩ := hwf0
  refine lv_aload_n hx hb dX9_linesFrom_0 rfl (lv_at hl 0 rfl) ?_
  refine lv_iload_n hx hb dX9_linesFrom_1 rfl (lv_at hl 1 rfl) ?_
  refine k_Vi F w (As := [.int (zI t)]) (rest := []) (a := a) (kd_lt (a := a) hk (by decide)) (sh_9 hk _ _) rfl (s_X9_hasTone hk hW hwf (by omega)) gv_X9_41 hv_X9_hasTone ⟨(Nat.le_of_ble_eq_true rfl), (Nat.le_of_ble_eq_true rfl)⟩ hl.1 rfl (Nat.le_of_ble_eq_true rfl) ⟨Nat.zero_le _, Nat.zero_le _⟩ dX9_linesFrom_2 (fun r M1 H locs hp w => ?_)
  rcases hp with ⟨⟨k1, rfl, hk1, rfl⟩ | ⟨nk1, rfl⟩, hMe⟩
  · rw [hMe] at w
    refine z_if_eq (tgt := 17) hx hb (by omega) dX9_linesFrom_5 (by decide) (fun c2 => False.elim (by omega)) (fun c2 => ?_)
    refine lv_aload_n hx hb dX9_linesFrom_8 rfl (lv_at hl 0 rfl) ?_
    refine f_9_5 F w (a := a) hk tb_6 dX9_linesFrom_9 ?_
    refine lv_iload_n hx hb dX9_linesFrom_12 rfl (lv_at hl 1 rfl) ?_
    refine g_iald F w (a := (a + 2)) (kd_w2 hk) (j := k1) (ix_n (by omega)) (by omega) dX9_linesFrom_13 ?_
    have hL2 := (hKL k1 (by omega)).2
    refine r_val (v := (zI (((L k1) : Nat) : Int))) (hW.2.2.2.2.2 k1 (by omega)) ?_
    refine lv_goto (tgt := 18) hx hb dX9_linesFrom_14 (by decide) ?_
    exact e_i F w hr hlocks ⟨Or.inl ⟨k1, rfl, by omega, rfl⟩, rfl⟩ dX9_linesFrom_18
  · rw [hMe] at w
    refine z_if_eq (tgt := 17) hx hb (by omega) dX9_linesFrom_5 (by decide) (fun c3 => ?_) (fun c3 => False.elim (by omega))
    refine lv_iconst (v := zI 0) hx hb dX9_linesFrom_17 rfl ?_
    exact e_i F w hr hlocks ⟨Or.inr ⟨by omega, rfl⟩, rfl⟩ dX9_linesFrom_18
theorem dX9_kindOf_0 : decode cX9_kindOf 0 = .ok (.aload_n 0, 1) := dq0 kk_42 (by decide +kernel)
theorem dX9_kindOf_1 : decode cX9_kindOf 1 = .ok (.iload_n 1, 1) := dq0 kk_27 (by decide +kernel)
theorem dX9_kindOf_2 : decode cX9_kindOf 2 = .ok (.invokevirtual 41, 3) := dqV kk_182 (by decide +kernel)
theorem dX9_kindOf_5 : decode cX9_kindOf 5 = .ok (.ifCond .eq 12, 3) := dqT kk_153 (by decide +kernel)
theorem dX9_kindOf_8 : decode cX9_kindOf 8 = .ok (.aload_n 0, 1) := dq0 kk_42 (by decide +kernel)
theorem dX9_kindOf_9 : decode cX9_kindOf 9 = .ok (.getfield 24, 3) := dqV kk_180 (by decide +kernel)
theorem tb_7 : Cond.fieldLink "ToneLines$Word" 24 "ToneLines$Word" "kinds" "[I" ∈ TB := tbm (tc1 (List.mem_of_getElem? (i := 142) rfl)) rfl
theorem dX9_kindOf_12 : decode cX9_kindOf 12 = .ok (.iload_n 1, 1) := dq0 kk_27 (by decide +kernel)
theorem dX9_kindOf_13 : decode cX9_kindOf 13 = .ok (.iaload, 1) := dq0 kk_46 (by decide +kernel)
theorem dX9_kindOf_14 : decode cX9_kindOf 14 = .ok (.goto 4, 3) := dqT kk_167 (by decide +kernel)
theorem dX9_kindOf_18 : decode cX9_kindOf 18 = .ok (.ireturn, 1) := dq0 kk_172 (by decide +kernel)
theorem dX9_kindOf_17 : decode cX9_kindOf 17 = .ok (.iconst (-1), 1) := dq0 kk_2 (by decide +kernel)
set_option maxRecDepth 4000 in
theorem s_X9_kindOf {l : Launch} {D : va_G} {B : Nat} {cy : Nat → ClassId} {M : Mem} {a n q hv ed : Nat} {K L : Nat → Nat} (hk : kd a = (9, 0, 0)) (hW : isW M a n q hv ed K L) (hwf : wf n q hv ed K L) {t : Int} (ht : rg t) : Ci l D B cy yX9_kindOf cX9_kindOf 2 (some .int) 1 21 [.ref (B + a), .int (zI t)] M (fun r M1 => ((∃ k : Nat, t = (k : Int) ∧ k < n ∧ r = zI (K k : Int)) ∨ (¬ (0 ≤ t ∧ t < (n : Int)) ∧ r = zI (-1))) ∧ M1 = M) := by
  refine s_any (by decide) (Nat.le_of_ble_eq_true rfl) ?_
  intro p e s m below meth c ls F hr hlocks w hl
  have F : CallFix p m c cX9_kindOf 2 s _ TB RX9 := F
  have hx := F.1
  have hb := F.2.1
  have hl : lv_has ls 2 [(0, .ref (B + a)), (1, .int (zI t))] := hl
  have hwf0 := hwf
  obtain ⟨hn, hq, hhv, hed, hKL⟩ := hwf0
  refine lv_aload_n hx hb dX9_kindOf_0 rfl (lv_at hl 0 rfl) ?_
  refine lv_iload_n hx hb dX9_kindOf_1 rfl (lv_at hl 1 rfl) ?_
  refine k_Vi F w (As := [.int (zI t)]) (rest := []) (a := a) (kd_lt (a := a) hk (by decide)) (sh_9 hk _ _) rfl (s_X9_hasTone hk hW hwf (by omega)) gv_X9_41 hv_X9_hasTone ⟨(Nat.le_of_ble_eq_true rfl), (Nat.le_of_ble_eq_true rfl)⟩ hl.1 rfl (Nat.le_of_ble_eq_true rfl) ⟨Nat.zero_le _, Nat.zero_le _⟩ dX9_kindOf_2 (fun r M1 H locs hp w => ?_)
  rcases hp with ⟨⟨k1, rfl, hk1, rfl⟩ | ⟨nk1, rfl⟩, hMe⟩
  · rw [hMe] at w
    refine z_if_eq (tgt := 17) hx hb (by omega) dX9_kindOf_5 (by decide) (fun c2 => False.elim (by omega)) (fun c2 => ?_)
    refine lv_aload_n hx hb dX9_kindOf_8 rfl (lv_at hl 0 rfl) ?_
    refine f_9_4 F w (a := a) hk tb_7 dX9_kindOf_9 ?_
    refine lv_iload_n hx hb dX9_kindOf_12 rfl (lv_at hl 1 rfl) ?_
    refine g_iald F w (a := (a + 1)) (kd_w1 hk) (j := k1) (ix_n (by omega)) (by omega) dX9_kindOf_13 ?_
    have hK2 := (hKL k1 (by omega)).1
    refine r_val (v := (zI (((K k1) : Nat) : Int))) (hW.2.2.2.2.1 k1 (by omega)) ?_
    refine lv_goto (tgt := 18) hx hb dX9_kindOf_14 (by decide) ?_
    exact e_i F w hr hlocks ⟨Or.inl ⟨k1, rfl, by omega, rfl⟩, rfl⟩ dX9_kindOf_18
  · rw [hMe] at w
    refine z_if_eq (tgt := 17) hx hb (by omega) dX9_kindOf_5 (by decide) (fun c3 => ?_) (fun c3 => False.elim (by omega))
    refine lv_iconst (v := zI (-1)) hx hb dX9_kindOf_17 rfl ?_
    exact e_i F w hr hlocks ⟨Or.inr ⟨by omega, rfl⟩, rfl⟩ dX9_kindOf_18
theorem dX9_isHeavy_0 : decode cX9_isHeavy 0 = .ok (.aload_n 0, 1) := dq0 kk_42 (by decide +kernel)
theorem dX9_isHeavy_1 : decode cX9_isHeavy 1 = .ok (.iload_n 1, 1) := dq0 kk_27 (by decide +kernel)
theorem dX9_isHeavy_2 : decode cX9_isHeavy 2 = .ok (.invokevirtual 45, 3) := dqV kk_182 (by decide +kernel)
theorem tk_X9_hasSyllable : Cond.code yX9_hasSyllable cX9_hasSyllable 2 (some .boolean) ∈ TB := tbm (tc3 (List.mem_of_getElem? (i := 13) rfl)) rfl
theorem gc_X9_hasSyllable : GoodIn TB (cw yX9_hasSyllable cX9_hasSyllable 2 (some .boolean)) := goodIn_c2 tk_X9_hasSyllable
theorem tb_8 : Cond.methodLink "ToneLines$Word" 45 yX9_hasSyllable ∈ TB := tbm (tc3 (List.mem_of_getElem? (i := 10) rfl)) rfl
theorem tb_9 : Cond.instanceMethod yX9_hasSyllable ∈ TB := tbm (tc3 (List.mem_of_getElem? (i := 11) rfl)) rfl
theorem tb_10 : Cond.selects "ToneLines$Word" yX9_hasSyllable yX9_hasSyllable ∈ TB := tbm (tc3 (List.mem_of_getElem? (i := 12) rfl)) rfl
theorem gv_X9_45 : GoodIn TB (wsV RX9 45 RX9 yX9_hasSyllable (cw yX9_hasSyllable cX9_hasSyllable 2 (some .boolean))) := goodIn_4 tb_8 tb_9 tb_10 tb_5 gc_X9_hasSyllable
theorem hv_X9_hasSyllable : yX9_hasSyllable.cls = RX9 ∧ yX9_hasSyllable.cls ≠ "java/lang/invoke/MethodHandle" ∧ yX9_hasSyllable.cls ≠ "java/lang/invoke/VarHandle" ∧ (parseMethodDescriptor yX9_hasSyllable.desc).map (fun d => d.parameters.length) = some 1 := by decide +kernel
theorem dX9_isHeavy_5 : decode cX9_isHeavy 5 = .ok (.ifCond .eq 18, 3) := dqT kk_153 (by decide +kernel)
theorem dX9_isHeavy_8 : decode cX9_isHeavy 8 = .ok (.aload_n 0, 1) := dq0 kk_42 (by decide +kernel)
theorem dX9_isHeavy_9 : decode cX9_isHeavy 9 = .ok (.getfield 18, 3) := dqV kk_180 (by decide +kernel)
theorem tb_11 : Cond.fieldLink "ToneLines$Word" 18 "ToneLines$Word" "heavy" "I" ∈ TB := tbm (tc1 (List.mem_of_getElem? (i := 140) rfl)) rfl
theorem dX9_isHeavy_12 : decode cX9_isHeavy 12 = .ok (.iload_n 1, 1) := dq0 kk_27 (by decide +kernel)
theorem dX9_isHeavy_13 : decode cX9_isHeavy 13 = .ok (.ishr, 1) := dq0 kk_122 (by decide +kernel)
theorem dX9_isHeavy_14 : decode cX9_isHeavy 14 = .ok (.iconst 1, 1) := dq0 kk_4 (by decide +kernel)
theorem dX9_isHeavy_15 : decode cX9_isHeavy 15 = .ok (.iand, 1) := dq0 kk_126 (by decide +kernel)
theorem dX9_isHeavy_16 : decode cX9_isHeavy 16 = .ok (.ifCond .eq 7, 3) := dqT kk_153 (by decide +kernel)
theorem dX9_isHeavy_23 : decode cX9_isHeavy 23 = .ok (.iconst 0, 1) := dq0 kk_3 (by decide +kernel)
theorem dX9_isHeavy_24 : decode cX9_isHeavy 24 = .ok (.ireturn, 1) := dq0 kk_172 (by decide +kernel)
theorem dX9_isHeavy_19 : decode cX9_isHeavy 19 = .ok (.iconst 1, 1) := dq0 kk_4 (by decide +kernel)
theorem dX9_isHeavy_20 : decode cX9_isHeavy 20 = .ok (.goto 4, 3) := dqT kk_167 (by decide +kernel)
set_option maxRecDepth 4000 in
theorem s_X9_isHeavy {l : Launch} {D : va_G} {B : Nat} {cy : Nat → ClassId} {M : Mem} {a n q hv ed : Nat} {K L : Nat → Nat} (hk : kd a = (9, 0, 0)) (hW : isW M a n q hv ed K L) (hwf : wf n q hv ed K L) {t : Int} (ht : rg t) : Ci l D B cy yX9_isHeavy cX9_isHeavy 2 (some .boolean) 1 21 [.ref (B + a), .int (zI t)] M (fun r M1 => ((∃ k : Nat, t = (k : Int) ∧ k < q ∧ hv.testBit k = true ∧ r = zI 1) ∨ (¬ (∃ k : Nat, t = (k : Int) ∧ k < q ∧ hv.testBit k = true) ∧ r = zI 0)) ∧ M1 = M) := by
  refine s_any (by decide) (Nat.le_of_ble_eq_true rfl) ?_
  intro p e s m below meth c ls F hr hlocks w hl
  have F : CallFix p m c cX9_isHeavy 2 s _ TB RX9 := F
  have hx := F.1
  have hb := F.2.1
  have hl : lv_has ls 2 [(0, .ref (B + a)), (1, .int (zI t))] := hl
  have hwf0 := hwf
  obtain ⟨hn, hq, hhv, hed, hKL⟩ := hwf0
  refine lv_aload_n hx hb dX9_isHeavy_0 rfl (lv_at hl 0 rfl) ?_
  refine lv_iload_n hx hb dX9_isHeavy_1 rfl (lv_at hl 1 rfl) ?_
  refine k_Vi F w (As := [.int (zI t)]) (rest := []) (a := a) (kd_lt (a := a) hk (by decide)) (sh_9 hk _ _) rfl (s_X9_hasSyllable hk hW hwf (by omega)) gv_X9_45 hv_X9_hasSyllable ⟨(Nat.le_of_ble_eq_true rfl), (Nat.le_of_ble_eq_true rfl)⟩ hl.1 rfl (Nat.le_of_ble_eq_true rfl) ⟨Nat.zero_le _, Nat.zero_le _⟩ dX9_isHeavy_2 (fun r M1 H locs hp w => ?_)
  rcases hp with ⟨⟨k1, rfl, hk1, rfl⟩ | ⟨nk1, rfl⟩, hMe⟩
  · rw [hMe] at w
    refine z_if_eq (tgt := 23) hx hb (by omega) dX9_isHeavy_5 (by decide) (fun c2 => False.elim (by omega)) (fun c2 => ?_)
    refine lv_aload_n hx hb dX9_isHeavy_8 rfl (lv_at hl 0 rfl) ?_
    refine f_9_2 F w (a := a) hk tb_11 dX9_isHeavy_9 ?_
    refine r_val (v := (zI (hv : Int))) (hW.2.2.1) ?_
    refine lv_iload_n hx hb dX9_isHeavy_12 rfl (lv_at hl 1 rfl) ?_
    refine lv_ishr hx hb dX9_isHeavy_13 ?_
    refine r_val (v := (zI (((hv >>> k1) : Nat) : Int))) (zb_shr (a := hv) (n := k1) (by omega) (by omega)) ?_
    have q3 := shr_le hv k1
    refine lv_iconst (v := zI 1) hx hb dX9_isHeavy_14 rfl ?_
    refine lv_iand hx hb dX9_isHeavy_15 ?_
    refine r_val (v := (zI (((tb hv k1) : Nat) : Int))) zb_tst ?_
    have q4 := tb01 hv k1
    refine z_if_eq (tgt := 23) hx hb (by omega) dX9_isHeavy_16 (by decide) (fun c5 => ?_) (fun c5 => ?_)
    · refine lv_iconst (v := zI 0) hx hb dX9_isHeavy_23 rfl ?_
      exact e_z F w hr hlocks (by decide) ⟨Or.inr ⟨fun ⟨k9, e9, _, b9⟩ => by (obtain rfl : k1 = k9 := by omega); have := tbo.mpr b9; omega, rfl⟩, rfl⟩ dX9_isHeavy_24
    · refine lv_iconst (v := zI 1) hx hb dX9_isHeavy_19 rfl ?_
      refine lv_goto (tgt := 24) hx hb dX9_isHeavy_20 (by decide) ?_
      exact e_z F w hr hlocks (by decide) ⟨Or.inl ⟨k1, rfl, by omega, tbo.mp (by omega), rfl⟩, rfl⟩ dX9_isHeavy_24
  · rw [hMe] at w
    refine z_if_eq (tgt := 23) hx hb (by omega) dX9_isHeavy_5 (by decide) (fun c6 => ?_) (fun c6 => False.elim (by omega))
    refine lv_iconst (v := zI 0) hx hb dX9_isHeavy_23 rfl ?_
    exact e_z F w hr hlocks (by decide) ⟨Or.inr ⟨fun ⟨k9, e9, h9, _⟩ => by omega, rfl⟩, rfl⟩ dX9_isHeavy_24
theorem dX9_hasEdge_0 : decode cX9_hasEdge 0 = .ok (.aload_n 0, 1) := dq0 kk_42 (by decide +kernel)
theorem dX9_hasEdge_1 : decode cX9_hasEdge 1 = .ok (.iload_n 1, 1) := dq0 kk_27 (by decide +kernel)
theorem dX9_hasEdge_2 : decode cX9_hasEdge 2 = .ok (.invokevirtual 45, 3) := dqV kk_182 (by decide +kernel)
theorem dX9_hasEdge_5 : decode cX9_hasEdge 5 = .ok (.ifCond .eq 18, 3) := dqT kk_153 (by decide +kernel)
theorem dX9_hasEdge_8 : decode cX9_hasEdge 8 = .ok (.aload_n 0, 1) := dq0 kk_42 (by decide +kernel)
theorem dX9_hasEdge_9 : decode cX9_hasEdge 9 = .ok (.getfield 21, 3) := dqV kk_180 (by decide +kernel)
theorem tb_12 : Cond.fieldLink "ToneLines$Word" 21 "ToneLines$Word" "edges" "I" ∈ TB := tbm (tc1 (List.mem_of_getElem? (i := 141) rfl)) rfl
theorem dX9_hasEdge_12 : decode cX9_hasEdge 12 = .ok (.iload_n 1, 1) := dq0 kk_27 (by decide +kernel)
theorem dX9_hasEdge_13 : decode cX9_hasEdge 13 = .ok (.ishr, 1) := dq0 kk_122 (by decide +kernel)
theorem dX9_hasEdge_14 : decode cX9_hasEdge 14 = .ok (.iconst 1, 1) := dq0 kk_4 (by decide +kernel)
theorem dX9_hasEdge_15 : decode cX9_hasEdge 15 = .ok (.iand, 1) := dq0 kk_126 (by decide +kernel)
theorem dX9_hasEdge_16 : decode cX9_hasEdge 16 = .ok (.ifCond .eq 7, 3) := dqT kk_153 (by decide +kernel)
theorem dX9_hasEdge_23 : decode cX9_hasEdge 23 = .ok (.iconst 0, 1) := dq0 kk_3 (by decide +kernel)
theorem dX9_hasEdge_24 : decode cX9_hasEdge 24 = .ok (.ireturn, 1) := dq0 kk_172 (by decide +kernel)
theorem dX9_hasEdge_19 : decode cX9_hasEdge 19 = .ok (.iconst 1, 1) := dq0 kk_4 (by decide +kernel)
theorem dX9_hasEdge_20 : decode cX9_hasEdge 20 = .ok (.goto 4, 3) := dqT kk_167 (by decide +kernel)
set_option maxRecDepth 4000 in
theorem s_X9_hasEdge {l : Launch} {D : va_G} {B : Nat} {cy : Nat → ClassId} {M : Mem} {a n q hv ed : Nat} {K L : Nat → Nat} (hk : kd a = (9, 0, 0)) (hW : isW M a n q hv ed K L) (hwf : wf n q hv ed K L) {t : Int} (ht : rg t) : Ci l D B cy yX9_hasEdge cX9_hasEdge 2 (some .boolean) 1 21 [.ref (B + a), .int (zI t)] M (fun r M1 => ((∃ k : Nat, t = (k : Int) ∧ k < q ∧ ed.testBit k = true ∧ r = zI 1) ∨ (¬ (∃ k : Nat, t = (k : Int) ∧ k < q ∧ ed.testBit k = true) ∧ r = zI 0)) ∧ M1 = M) := by
  refine s_any (by decide) (Nat.le_of_ble_eq_true rfl) ?_
  intro p e s m below meth c ls F hr hlocks w hl
  have F : CallFix p m c cX9_hasEdge 2 s _ TB RX9 := F
  have hx := F.1
  have hb := F.2.1
  have hl : lv_has ls 2 [(0, .ref (B + a)), (1, .int (zI t))] := hl
  have hwf0 := hwf
  obtain ⟨hn, hq, hhv, hed, hKL⟩ := hwf0
  refine lv_aload_n hx hb dX9_hasEdge_0 rfl (lv_at hl 0 rfl) ?_
  refine lv_iload_n hx hb dX9_hasEdge_1 rfl (lv_at hl 1 rfl) ?_
  refine k_Vi F w (As := [.int (zI t)]) (rest := []) (a := a) (kd_lt (a := a) hk (by decide)) (sh_9 hk _ _) rfl (s_X9_hasSyllable hk hW hwf (by omega)) gv_X9_45 hv_X9_hasSyllable ⟨(Nat.le_of_ble_eq_true rfl), (Nat.le_of_ble_eq_true rfl)⟩ hl.1 rfl (Nat.le_of_ble_eq_true rfl) ⟨Nat.zero_le _, Nat.zero_le _⟩ dX9_hasEdge_2 (fun r M1 H locs hp w => ?_)
  rcases hp with ⟨⟨k1, rfl, hk1, rfl⟩ | ⟨nk1, rfl⟩, hMe⟩
  · rw [hMe] at w
    refine z_if_eq (tgt := 23) hx hb (by omega) dX9_hasEdge_5 (by decide) (fun c2 => False.elim (by omega)) (fun c2 => ?_)
    refine lv_aload_n hx hb dX9_hasEdge_8 rfl (lv_at hl 0 rfl) ?_
    refine f_9_3 F w (a := a) hk tb_12 dX9_hasEdge_9 ?_
    refine r_val (v := (zI (ed : Int))) (hW.2.2.2.1) ?_
    refine lv_iload_n hx hb dX9_hasEdge_12 rfl (lv_at hl 1 rfl) ?_
    refine lv_ishr hx hb dX9_hasEdge_13 ?_
    refine r_val (v := (zI (((ed >>> k1) : Nat) : Int))) (zb_shr (a := ed) (n := k1) (by omega) (by omega)) ?_
    have q3 := shr_le ed k1
    refine lv_iconst (v := zI 1) hx hb dX9_hasEdge_14 rfl ?_
    refine lv_iand hx hb dX9_hasEdge_15 ?_
    refine r_val (v := (zI (((tb ed k1) : Nat) : Int))) zb_tst ?_
    have q4 := tb01 ed k1
    refine z_if_eq (tgt := 23) hx hb (by omega) dX9_hasEdge_16 (by decide) (fun c5 => ?_) (fun c5 => ?_)
    · refine lv_iconst (v := zI 0) hx hb dX9_hasEdge_23 rfl ?_
      exact e_z F w hr hlocks (by decide) ⟨Or.inr ⟨fun ⟨k9, e9, _, b9⟩ => by (obtain rfl : k1 = k9 := by omega); have := tbo.mpr b9; omega, rfl⟩, rfl⟩ dX9_hasEdge_24
    · refine lv_iconst (v := zI 1) hx hb dX9_hasEdge_19 rfl ?_
      refine lv_goto (tgt := 24) hx hb dX9_hasEdge_20 (by decide) ?_
      exact e_z F w hr hlocks (by decide) ⟨Or.inl ⟨k1, rfl, by omega, tbo.mp (by omega), rfl⟩, rfl⟩ dX9_hasEdge_24
  · rw [hMe] at w
    refine z_if_eq (tgt := 23) hx hb (by omega) dX9_hasEdge_5 (by decide) (fun c6 => ?_) (fun c6 => False.elim (by omega))
    refine lv_iconst (v := zI 0) hx hb dX9_hasEdge_23 rfl ?_
    exact e_z F w hr hlocks (by decide) ⟨Or.inr ⟨fun ⟨k9, e9, h9, _⟩ => by omega, rfl⟩, rfl⟩ dX9_hasEdge_24
theorem dX9_bare_4 : decode cX9_bare 4 = .ok (.iload_n 2, 1) := dq0 kk_28 (by decide +kernel)
theorem dX9_bare_5 : decode cX9_bare 5 = .ok (.aload_n 0, 1) := dq0 kk_42 (by decide +kernel)
theorem dX9_bare_6 : decode cX9_bare 6 = .ok (.getfield 9, 3) := dqV kk_180 (by decide +kernel)
theorem dX9_bare_9 : decode cX9_bare 9 = .ok (.if_icmp .ge 18, 3) := dqT kk_162 (by decide +kernel)
theorem dX9_bare_12 : decode cX9_bare 12 = .ok (.iload_n 1, 1) := dq0 kk_27 (by decide +kernel)
theorem dX9_bare_13 : decode cX9_bare 13 = .ok (.aload_n 0, 1) := dq0 kk_42 (by decide +kernel)
theorem dX9_bare_14 : decode cX9_bare 14 = .ok (.getfield 28, 3) := dqV kk_180 (by decide +kernel)
theorem dX9_bare_17 : decode cX9_bare 17 = .ok (.iload_n 2, 1) := dq0 kk_28 (by decide +kernel)
theorem dX9_bare_18 : decode cX9_bare 18 = .ok (.iaload, 1) := dq0 kk_46 (by decide +kernel)
theorem dX9_bare_19 : decode cX9_bare 19 = .ok (.ior, 1) := dq0 kk_128 (by decide +kernel)
theorem dX9_bare_20 : decode cX9_bare 20 = .ok (.istore_n 1, 1) := dq0 kk_60 (by decide +kernel)
theorem dX9_bare_21 : decode cX9_bare 21 = .ok (.iinc 2 1, 3) := dqI kk_132 (by decide +kernel)
theorem dX9_bare_24 : decode cX9_bare 24 = .ok (.goto (-20), 3) := dqT kk_167 (by decide +kernel)
set_option maxRecDepth 4000 in
theorem lp_X9_bare {p : Program} {l : Launch} {e : Env} {s : State} {m : MethodId} {args : Array Value} {below : List Frame} {meth : Method} {c : Code} {D : va_G} {B : Nat} {cy : Nat → ClassId} {H0 : Heap} {Q : State → Prop} {M : Mem} {R : Room} {a n q hv ed : Nat} {K L : Nat → Nat}  (F : CallFix p m c cX9_bare 3 s args TB RX9) (hR1 : 0 ≤ R.frames) (hR2 : 0 ≤ R.locals) (hk : kd a = (9, 0, 0)) (hW : isW M a n q hv ed K L) (hwf : wf n q hv ed K L) (kk : ∀ (t : Nat) (H : Heap) (locs : List Loc) (ls : Array Slot), (t = n) → Wd D B cy s H0 M H locs → lv_has ls 3 [(2, .int (zI (t : Int))), (1, .int (zI (((orL L t) : Nat) : Int))), (0, .ref (B + a))] → W p l e R s m args below meth c H locs 0 0 Q (F0 m 27 ls [])) : ∀ (f : Nat) (t : Nat), (t ≤ n) → (n ≤ t + f) → ∀ (H : Heap) (locs : List Loc) (ls : Array Slot), Wd D B cy s H0 M H locs → lv_has ls 3 [(2, .int (zI (t : Int))), (1, .int (zI (((orL L t) : Nat) : Int))), (0, .ref (B + a))] → W p l e R s m args below meth c H locs 0 0 Q (F0 m 4 ls []) := by
  have hx := F.1
  have hb := F.2.1
  have hwf0 := hwf
  obtain ⟨hn, hq, hhv, hed, hKL⟩ := hwf0
  intro f
  induction f with
  | zero =>
    intro t i0 hf H locs ls w hl
    refine lv_iload_n hx hb dX9_bare_4 rfl (lv_at hl 0 rfl) ?_
    refine lv_aload_n hx hb dX9_bare_5 rfl (lv_at hl 2 rfl) ?_
    refine f_9_0 F w (a := a) hk tb_0 dX9_bare_6 ?_
    refine r_val (v := (zI (n : Int))) (hW.1) ?_
    refine z_icmp_ge (tgt := 27) hx hb (by omega) (by omega) dX9_bare_9 (by decide) (fun c1 => ?_) (fun c1 => False.elim (by omega))
    exact kk t _ _ ls (by omega) w (lv_sub hl [0, 1, 2] rfl)
  | succ f ih =>
    intro t i0 hf H locs ls w hl
    refine lv_iload_n hx hb dX9_bare_4 rfl (lv_at hl 0 rfl) ?_
    refine lv_aload_n hx hb dX9_bare_5 rfl (lv_at hl 2 rfl) ?_
    refine f_9_0 F w (a := a) hk tb_0 dX9_bare_6 ?_
    refine r_val (v := (zI (n : Int))) (hW.1) ?_
    refine z_icmp_ge (tgt := 27) hx hb (by omega) (by omega) dX9_bare_9 (by decide) (fun c1 => ?_) (fun c1 => ?_)
    · exact kk t _ _ ls (by omega) w (lv_sub hl [0, 1, 2] rfl)
    · refine lv_iload_n hx hb dX9_bare_12 rfl (lv_at hl 1 rfl) ?_
      refine lv_aload_n hx hb dX9_bare_13 rfl (lv_at hl 2 rfl) ?_
      refine f_9_5 F w (a := a) hk tb_6 dX9_bare_14 ?_
      refine lv_iload_n hx hb dX9_bare_17 rfl (lv_at hl 0 rfl) ?_
      refine g_iald F w (a := (a + 2)) (kd_w2 hk) (j := t) (ix_n (by omega)) (by omega) dX9_bare_18 ?_
      have hL1 := (hKL t (by omega)).2
      refine r_val (v := (zI (((L t) : Nat) : Int))) (hW.2.2.2.2.2 t (by omega)) ?_
      refine lv_ior hx hb dX9_bare_19 ?_
      refine r_val (v := (zI (((orL L (t + 1)) : Nat) : Int))) (zb_or _ _) ?_
      refine lv_istore_n (lv' := [(1, .int (zI (((orL L (t + 1)) : Nat) : Int))), (2, .int (zI (t : Int))), (0, .ref (B + a))]) hx hb dX9_bare_20 rfl hl (by decide) rfl (fun ls hl => ?_)
      refine z_iinc (v := (((t + 1) : Nat) : Int)) (lv' := [(2, .int (zI (((t + 1) : Nat) : Int))), (1, .int (zI (((orL L (t + 1)) : Nat) : Int))), (0, .ref (B + a))]) hx hb dX9_bare_21 hl (k := 1) rfl (by omega) (by decide) rfl (fun ls hl => ?_)
      refine lv_goto (tgt := 4) hx hb dX9_bare_24 (by decide) ?_
      exact ih (t + 1) (by omega) (by omega) _ _ ls w (lv_sub hl [0, 1, 2] rfl)
theorem dX9_bare_0 : decode cX9_bare 0 = .ok (.iconst 0, 1) := dq0 kk_3 (by decide +kernel)
theorem dX9_bare_1 : decode cX9_bare 1 = .ok (.istore_n 1, 1) := dq0 kk_60 (by decide +kernel)
theorem dX9_bare_2 : decode cX9_bare 2 = .ok (.iconst 0, 1) := dq0 kk_3 (by decide +kernel)
theorem dX9_bare_3 : decode cX9_bare 3 = .ok (.istore_n 2, 1) := dq0 kk_61 (by decide +kernel)
theorem dX9_bare_27 : decode cX9_bare 27 = .ok (.iconst 1, 1) := dq0 kk_4 (by decide +kernel)
theorem dX9_bare_28 : decode cX9_bare 28 = .ok (.aload_n 0, 1) := dq0 kk_42 (by decide +kernel)
theorem dX9_bare_29 : decode cX9_bare 29 = .ok (.getfield 15, 3) := dqV kk_180 (by decide +kernel)
theorem dX9_bare_32 : decode cX9_bare 32 = .ok (.ishl, 1) := dq0 kk_120 (by decide +kernel)
theorem dX9_bare_33 : decode cX9_bare 33 = .ok (.iconst 1, 1) := dq0 kk_4 (by decide +kernel)
theorem dX9_bare_34 : decode cX9_bare 34 = .ok (.isub, 1) := dq0 kk_100 (by decide +kernel)
theorem dX9_bare_35 : decode cX9_bare 35 = .ok (.iload_n 1, 1) := dq0 kk_27 (by decide +kernel)
theorem dX9_bare_36 : decode cX9_bare 36 = .ok (.iconst (-1), 1) := dq0 kk_2 (by decide +kernel)
theorem dX9_bare_37 : decode cX9_bare 37 = .ok (.ixor, 1) := dq0 kk_130 (by decide +kernel)
theorem dX9_bare_38 : decode cX9_bare 38 = .ok (.iand, 1) := dq0 kk_126 (by decide +kernel)
theorem dX9_bare_39 : decode cX9_bare 39 = .ok (.ireturn, 1) := dq0 kk_172 (by decide +kernel)
set_option maxRecDepth 4000 in
theorem s_X9_bare {l : Launch} {D : va_G} {B : Nat} {cy : Nat → ClassId} {M : Mem} {a n q hv ed : Nat} {K L : Nat → Nat} (hk : kd a = (9, 0, 0)) (hW : isW M a n q hv ed K L) (hwf : wf n q hv ed K L)  : Ci l D B cy yX9_bare cX9_bare 3 (some .int) 0 0 [.ref (B + a)] M (fun r M1 => r = zI ((andn (2 ^ q - 1) (orL L n) : Nat) : Int) ∧ M1 = M) := by
  refine s_any (by decide) (Nat.le_of_ble_eq_true rfl) ?_
  intro p e s m below meth c ls F hr hlocks w hl
  have F : CallFix p m c cX9_bare 3 s _ TB RX9 := F
  have hx := F.1
  have hb := F.2.1
  have hl : lv_has ls 3 [(0, .ref (B + a))] := hl
  have hwf0 := hwf
  obtain ⟨hn, hq, hhv, hed, hKL⟩ := hwf0
  refine lv_iconst (v := zI 0) hx hb dX9_bare_0 rfl ?_
  refine lv_istore_n (lv' := [(1, .int (zI 0)), (0, .ref (B + a))]) hx hb dX9_bare_1 rfl hl (by decide) rfl (fun ls hl => ?_)
  refine lv_iconst (v := zI 0) hx hb dX9_bare_2 rfl ?_
  refine lv_istore_n (lv' := [(2, .int (zI 0)), (1, .int (zI 0)), (0, .ref (B + a))]) hx hb dX9_bare_3 rfl hl (by decide) rfl (fun ls hl => ?_)
  refine lp_X9_bare  F (Nat.le_of_ble_eq_true rfl) (Nat.le_of_ble_eq_true rfl) hk hW hwf (fun t H locs ls x0 w hl => ?_) n 0 (by omega) (by omega) _ _ ls w (lv_sub hl [0, 1, 2] rfl)
  subst x0
  refine lv_iconst (v := zI 1) hx hb dX9_bare_27 rfl ?_
  refine lv_aload_n hx hb dX9_bare_28 rfl (lv_at hl 2 rfl) ?_
  refine f_9_1 F w (a := a) hk tb_1 dX9_bare_29 ?_
  refine r_val (v := (zI (q : Int))) (hW.2.1) ?_
  refine lv_ishl hx hb dX9_bare_32 ?_
  refine r_val (v := (zI (((2 ^ q) : Nat) : Int))) (zb_shl (n := q) (by omega)) ?_
  have q1 := p2_b (n := q) (by omega)
  refine lv_iconst (v := zI 1) hx hb dX9_bare_33 rfl ?_
  refine z_isub (z := ((((2 ^ q) - 1) : Nat) : Int)) hx hb dX9_bare_34 (by omega) ?_
  refine lv_iload_n hx hb dX9_bare_35 rfl (lv_at hl 1 rfl) ?_
  refine lv_iconst (v := zI (-1)) hx hb dX9_bare_36 rfl ?_
  refine lv_ixor hx hb dX9_bare_37 ?_
  refine lv_iand hx hb dX9_bare_38 ?_
  refine r_val (v := (zI (((andn ((2 ^ q) - 1) (orL L t)) : Nat) : Int))) (zb_andn _ _) ?_
  have q3 := andn_le ((2 ^ q) - 1) (orL L t)
  exact e_i F w hr hlocks ⟨rfl, rfl⟩ dX9_bare_39
theorem dX9_isBare_0 : decode cX9_isBare 0 = .ok (.aload_n 0, 1) := dq0 kk_42 (by decide +kernel)
theorem dX9_isBare_1 : decode cX9_isBare 1 = .ok (.iload_n 1, 1) := dq0 kk_27 (by decide +kernel)
theorem dX9_isBare_2 : decode cX9_isBare 2 = .ok (.invokevirtual 45, 3) := dqV kk_182 (by decide +kernel)
theorem dX9_isBare_5 : decode cX9_isBare 5 = .ok (.ifCond .eq 18, 3) := dqT kk_153 (by decide +kernel)
theorem dX9_isBare_8 : decode cX9_isBare 8 = .ok (.aload_n 0, 1) := dq0 kk_42 (by decide +kernel)
theorem dX9_isBare_9 : decode cX9_isBare 9 = .ok (.invokevirtual 48, 3) := dqV kk_182 (by decide +kernel)
theorem tk_X9_bare : Cond.code yX9_bare cX9_bare 3 (some .int) ∈ TB := tbm (tc3 (List.mem_of_getElem? (i := 227) rfl)) rfl
theorem gc_X9_bare : GoodIn TB (cw yX9_bare cX9_bare 3 (some .int)) := goodIn_c2 tk_X9_bare
theorem tb_13 : Cond.methodLink "ToneLines$Word" 48 yX9_bare ∈ TB := tbm (tc3 (List.mem_of_getElem? (i := 224) rfl)) rfl
theorem tb_14 : Cond.instanceMethod yX9_bare ∈ TB := tbm (tc3 (List.mem_of_getElem? (i := 225) rfl)) rfl
theorem tb_15 : Cond.selects "ToneLines$Word" yX9_bare yX9_bare ∈ TB := tbm (tc3 (List.mem_of_getElem? (i := 226) rfl)) rfl
theorem gv_X9_48 : GoodIn TB (wsV RX9 48 RX9 yX9_bare (cw yX9_bare cX9_bare 3 (some .int))) := goodIn_4 tb_13 tb_14 tb_15 tb_5 gc_X9_bare
theorem hv_X9_bare : yX9_bare.cls = RX9 ∧ yX9_bare.cls ≠ "java/lang/invoke/MethodHandle" ∧ yX9_bare.cls ≠ "java/lang/invoke/VarHandle" ∧ (parseMethodDescriptor yX9_bare.desc).map (fun d => d.parameters.length) = some 0 := by decide +kernel
theorem dX9_isBare_12 : decode cX9_isBare 12 = .ok (.iload_n 1, 1) := dq0 kk_27 (by decide +kernel)
theorem dX9_isBare_13 : decode cX9_isBare 13 = .ok (.ishr, 1) := dq0 kk_122 (by decide +kernel)
theorem dX9_isBare_14 : decode cX9_isBare 14 = .ok (.iconst 1, 1) := dq0 kk_4 (by decide +kernel)
theorem dX9_isBare_15 : decode cX9_isBare 15 = .ok (.iand, 1) := dq0 kk_126 (by decide +kernel)
theorem dX9_isBare_16 : decode cX9_isBare 16 = .ok (.ifCond .eq 7, 3) := dqT kk_153 (by decide +kernel)
theorem dX9_isBare_23 : decode cX9_isBare 23 = .ok (.iconst 0, 1) := dq0 kk_3 (by decide +kernel)
theorem dX9_isBare_24 : decode cX9_isBare 24 = .ok (.ireturn, 1) := dq0 kk_172 (by decide +kernel)
theorem dX9_isBare_19 : decode cX9_isBare 19 = .ok (.iconst 1, 1) := dq0 kk_4 (by decide +kernel)
theorem dX9_isBare_20 : decode cX9_isBare 20 = .ok (.goto 4, 3) := dqT kk_167 (by decide +kernel)
set_option maxRecDepth 4000 in
theorem s_X9_isBare {l : Launch} {D : va_G} {B : Nat} {cy : Nat → ClassId} {M : Mem} {a n q hv ed : Nat} {K L : Nat → Nat} (hk : kd a = (9, 0, 0)) (hW : isW M a n q hv ed K L) (hwf : wf n q hv ed K L) {t : Int} (ht : rg t) : Ci l D B cy yX9_isBare cX9_isBare 2 (some .boolean) 1 22 [.ref (B + a), .int (zI t)] M (fun r M1 => (((∃ k : Nat, t = (k : Int) ∧ k < q ∧ bareP n L k) ∧ r = zI 1) ∨ (¬ ((∃ k : Nat, t = (k : Int) ∧ k < q ∧ bareP n L k)) ∧ r = zI 0)) ∧ M1 = M) := by
  refine s_any (by decide) (Nat.le_of_ble_eq_true rfl) ?_
  intro p e s m below meth c ls F hr hlocks w hl
  have F : CallFix p m c cX9_isBare 2 s _ TB RX9 := F
  have hx := F.1
  have hb := F.2.1
  have hl : lv_has ls 2 [(0, .ref (B + a)), (1, .int (zI t))] := hl
  have hwf0 := hwf
  obtain ⟨hn, hq, hhv, hed, hKL⟩ := hwf0
  refine lv_aload_n hx hb dX9_isBare_0 rfl (lv_at hl 0 rfl) ?_
  refine lv_iload_n hx hb dX9_isBare_1 rfl (lv_at hl 1 rfl) ?_
  refine k_Vi F w (As := [.int (zI t)]) (rest := []) (a := a) (kd_lt (a := a) hk (by decide)) (sh_9 hk _ _) rfl (s_X9_hasSyllable hk hW hwf (by omega)) gv_X9_45 hv_X9_hasSyllable ⟨(Nat.le_of_ble_eq_true rfl), (Nat.le_of_ble_eq_true rfl)⟩ hl.1 rfl (Nat.le_of_ble_eq_true rfl) ⟨Nat.zero_le _, Nat.zero_le _⟩ dX9_isBare_2 (fun r M1 H locs hp w => ?_)
  rcases hp with ⟨⟨k1, rfl, hk1, rfl⟩ | ⟨nk1, rfl⟩, hMe⟩
  · rw [hMe] at w
    refine z_if_eq (tgt := 23) hx hb (by omega) dX9_isBare_5 (by decide) (fun c2 => False.elim (by omega)) (fun c2 => ?_)
    refine lv_aload_n hx hb dX9_isBare_8 rfl (lv_at hl 0 rfl) ?_
    refine x_Vi F w (As := []) (rest := []) (a := a) (kd_lt (a := a) hk (by decide)) (sh_9 hk _ _) rfl (s_X9_bare hk hW hwf) gv_X9_48 hv_X9_bare ⟨(Nat.le_of_ble_eq_true rfl), (Nat.le_of_ble_eq_true rfl)⟩ hl.1 rfl (Nat.le_of_ble_eq_true rfl) ⟨Nat.zero_le _, Nat.zero_le _⟩ dX9_isBare_9 (fun H locs w => ?_)
    have hb1 := andn_le (2 ^ q - 1) (orL L n)
    have hb2 := p2_le (n := q) (by omega)
    refine lv_iload_n hx hb dX9_isBare_12 rfl (lv_at hl 1 rfl) ?_
    refine lv_ishr hx hb dX9_isBare_13 ?_
    refine r_val (v := (zI ((((andn (2 ^ q - 1) (orL L n)) >>> k1) : Nat) : Int))) (zb_shr (a := (andn (2 ^ q - 1) (orL L n))) (n := k1) (by omega) (by omega)) ?_
    have q3 := shr_le (andn (2 ^ q - 1) (orL L n)) k1
    refine lv_iconst (v := zI 1) hx hb dX9_isBare_14 rfl ?_
    refine lv_iand hx hb dX9_isBare_15 ?_
    refine r_val (v := (zI (((tb (andn (2 ^ q - 1) (orL L n)) k1) : Nat) : Int))) zb_tst ?_
    have q4 := tb01 (andn (2 ^ q - 1) (orL L n)) k1
    refine z_if_eq (tgt := 23) hx hb (by omega) dX9_isBare_16 (by decide) (fun c5 => ?_) (fun c5 => ?_)
    · refine lv_iconst (v := zI 0) hx hb dX9_isBare_23 rfl ?_
      exact e_z F w hr hlocks (by decide) ⟨Or.inr ⟨fun ⟨k9, e9, b9⟩ => by (obtain rfl : k1 = k9 := by omega); have := tbo.mpr (bare_bit.mpr b9); omega, rfl⟩, rfl⟩ dX9_isBare_24
    · refine lv_iconst (v := zI 1) hx hb dX9_isBare_19 rfl ?_
      refine lv_goto (tgt := 24) hx hb dX9_isBare_20 (by decide) ?_
      exact e_z F w hr hlocks (by decide) ⟨Or.inl ⟨⟨k1, rfl, bare_bit.mp (tbo.mp (by omega))⟩, rfl⟩, rfl⟩ dX9_isBare_24
  · rw [hMe] at w
    refine z_if_eq (tgt := 23) hx hb (by omega) dX9_isBare_5 (by decide) (fun c6 => ?_) (fun c6 => False.elim (by omega))
    refine lv_iconst (v := zI 0) hx hb dX9_isBare_23 rfl ?_
    exact e_z F w hr hlocks (by decide) ⟨Or.inr ⟨fun ⟨k9, e9, b9⟩ => by have := b9.1; omega, rfl⟩, rfl⟩ dX9_isBare_24
theorem dX9_crossesNone_6 : decode cX9_crossesNone 6 = .ok (.iload 5, 2) := dqU kk_21 (by decide +kernel)
theorem dX9_crossesNone_8 : decode cX9_crossesNone 8 = .ok (.iload_n 1, 1) := dq0 kk_27 (by decide +kernel)
theorem dX9_crossesNone_9 : decode cX9_crossesNone 9 = .ok (.if_icmp .ge 34, 3) := dqT kk_162 (by decide +kernel)
theorem dX9_crossesNone_12 : decode cX9_crossesNone 12 = .ok (.iload 5, 2) := dqU kk_21 (by decide +kernel)
theorem dX9_crossesNone_14 : decode cX9_crossesNone 14 = .ok (.aload_n 0, 1) := dq0 kk_42 (by decide +kernel)
theorem dX9_crossesNone_15 : decode cX9_crossesNone 15 = .ok (.getfield 9, 3) := dqV kk_180 (by decide +kernel)
theorem dX9_crossesNone_18 : decode cX9_crossesNone 18 = .ok (.if_icmp .ge 25, 3) := dqT kk_162 (by decide +kernel)
theorem dX9_crossesNone_21 : decode cX9_crossesNone 21 = .ok (.iload 4, 2) := dqU kk_21 (by decide +kernel)
theorem dX9_crossesNone_23 : decode cX9_crossesNone 23 = .ok (.aload_n 0, 1) := dq0 kk_42 (by decide +kernel)
theorem dX9_crossesNone_24 : decode cX9_crossesNone 24 = .ok (.getfield 28, 3) := dqV kk_180 (by decide +kernel)
theorem dX9_crossesNone_27 : decode cX9_crossesNone 27 = .ok (.iload 5, 2) := dqU kk_21 (by decide +kernel)
theorem dX9_crossesNone_29 : decode cX9_crossesNone 29 = .ok (.iaload, 1) := dq0 kk_46 (by decide +kernel)
theorem dX9_crossesNone_30 : decode cX9_crossesNone 30 = .ok (.iload_n 3, 1) := dq0 kk_29 (by decide +kernel)
theorem dX9_crossesNone_31 : decode cX9_crossesNone 31 = .ok (.ishr, 1) := dq0 kk_122 (by decide +kernel)
theorem dX9_crossesNone_32 : decode cX9_crossesNone 32 = .ok (.iconst 1, 1) := dq0 kk_4 (by decide +kernel)
theorem dX9_crossesNone_33 : decode cX9_crossesNone 33 = .ok (.ishr, 1) := dq0 kk_122 (by decide +kernel)
theorem dX9_crossesNone_34 : decode cX9_crossesNone 34 = .ok (.ior, 1) := dq0 kk_128 (by decide +kernel)
theorem dX9_crossesNone_35 : decode cX9_crossesNone 35 = .ok (.istore 4, 2) := dqU kk_54 (by decide +kernel)
theorem dX9_crossesNone_37 : decode cX9_crossesNone 37 = .ok (.iinc 5 1, 3) := dqI kk_132 (by decide +kernel)
theorem dX9_crossesNone_40 : decode cX9_crossesNone 40 = .ok (.goto (-34), 3) := dqT kk_167 (by decide +kernel)
set_option maxRecDepth 4000 in
theorem lp_X9_crosses1 {p : Program} {l : Launch} {e : Env} {s : State} {m : MethodId} {args : Array Value} {below : List Frame} {meth : Method} {c : Code} {D : va_G} {B : Nat} {cy : Nat → ClassId} {H0 : Heap} {Q : State → Prop} {M : Mem} {R : Room} {a n q hv ed : Nat} {K L : Nat → Nat}  {x y j : Nat} (F : CallFix p m c cX9_crossesNone 7 s args TB RX9) (hR1 : 0 ≤ R.frames) (hR2 : 0 ≤ R.locals) (hk : kd a = (9, 0, 0)) (hW : isW M a n q hv ed K L) (hwf : wf n q hv ed K L) (hx0 : x ≤ n) (hy0 : y ≤ n) (hj : j < 12) (kk : ∀ (u : Nat) (H : Heap) (locs : List Loc) (ls : Array Slot), (u = x) → Wd D B cy s H0 M H locs → lv_has ls 7 [(5, .int (zI (u : Int))), (4, .int (zI (((orL (SF L j) u) : Nat) : Int))), (0, .ref (B + a)), (1, .int (zI (x : Int))), (2, .int (zI (y : Int))), (3, .int (zI (j : Int)))] → W p l e R s m args below meth c H locs 0 0 Q (F0 m 43 ls [])) : ∀ (f : Nat) (u : Nat), (u ≤ x) → (x ≤ u + f) → ∀ (H : Heap) (locs : List Loc) (ls : Array Slot), Wd D B cy s H0 M H locs → lv_has ls 7 [(5, .int (zI (u : Int))), (4, .int (zI (((orL (SF L j) u) : Nat) : Int))), (0, .ref (B + a)), (1, .int (zI (x : Int))), (2, .int (zI (y : Int))), (3, .int (zI (j : Int)))] → W p l e R s m args below meth c H locs 0 0 Q (F0 m 6 ls []) := by
  have hx := F.1
  have hb := F.2.1
  have hwf0 := hwf
  obtain ⟨hn, hq, hhv, hed, hKL⟩ := hwf0
  intro f
  induction f with
  | zero =>
    intro u i0 hf H locs ls w hl
    refine lv_iload hx hb dX9_crossesNone_6 (lv_at hl 0 rfl) ?_
    refine lv_iload_n hx hb dX9_crossesNone_8 rfl (lv_at hl 3 rfl) ?_
    refine z_icmp_ge (tgt := 43) hx hb (by omega) (by omega) dX9_crossesNone_9 (by decide) (fun c1 => ?_) (fun c1 => False.elim (by omega))
    exact kk u _ _ ls (by omega) w (lv_sub hl [0, 1, 2, 3, 4, 5] rfl)
  | succ f ih =>
    intro u i0 hf H locs ls w hl
    refine lv_iload hx hb dX9_crossesNone_6 (lv_at hl 0 rfl) ?_
    refine lv_iload_n hx hb dX9_crossesNone_8 rfl (lv_at hl 3 rfl) ?_
    refine z_icmp_ge (tgt := 43) hx hb (by omega) (by omega) dX9_crossesNone_9 (by decide) (fun c1 => ?_) (fun c1 => ?_)
    · exact kk u _ _ ls (by omega) w (lv_sub hl [0, 1, 2, 3, 4, 5] rfl)
    · refine lv_iload hx hb dX9_crossesNone_12 (lv_at hl 0 rfl) ?_
      refine lv_aload_n hx hb dX9_crossesNone_14 rfl (lv_at hl 2 rfl) ?_
      refine f_9_0 F w (a := a) hk tb_0 dX9_crossesNone_15 ?_
      refine r_val (v := (zI (n : Int))) (hW.1) ?_
      refine z_icmp_ge (tgt := 43) hx hb (by omega) (by omega) dX9_crossesNone_18 (by decide) (fun c2 => False.elim (by omega)) (fun c2 => ?_)
      refine lv_iload hx hb dX9_crossesNone_21 (lv_at hl 1 rfl) ?_
      refine lv_aload_n hx hb dX9_crossesNone_23 rfl (lv_at hl 2 rfl) ?_
      refine f_9_5 F w (a := a) hk tb_6 dX9_crossesNone_24 ?_
      refine lv_iload hx hb dX9_crossesNone_27 (lv_at hl 0 rfl) ?_
      refine g_iald F w (a := (a + 2)) (kd_w2 hk) (j := u) (ix_n (by omega)) (by omega) dX9_crossesNone_29 ?_
      have hL2 := (hKL u (by omega)).2
      refine r_val (v := (zI (((L u) : Nat) : Int))) (hW.2.2.2.2.2 u (by omega)) ?_
      refine lv_iload_n hx hb dX9_crossesNone_30 rfl (lv_at hl 5 rfl) ?_
      refine lv_ishr hx hb dX9_crossesNone_31 ?_
      refine r_val (v := (zI ((((L u) >>> j) : Nat) : Int))) (zb_shr (a := (L u)) (n := j) (by omega) (by omega)) ?_
      have q3 := shr_le (L u) j
      refine lv_iconst (v := zI 1) hx hb dX9_crossesNone_32 rfl ?_
      refine lv_ishr hx hb dX9_crossesNone_33 ?_
      refine r_val (v := (zI (((((L u) >>> j) >>> 1) : Nat) : Int))) (zb_shr (a := ((L u) >>> j)) (n := 1) (by omega) (by omega)) ?_
      have q4 := shr_le ((L u) >>> j) 1
      refine lv_ior hx hb dX9_crossesNone_34 ?_
      refine r_val (v := (zI (((orL (SF L j) (u + 1)) : Nat) : Int))) (zb_or _ _) ?_
      refine lv_istore (lv' := [(4, .int (zI (((orL (SF L j) (u + 1)) : Nat) : Int))), (5, .int (zI (u : Int))), (0, .ref (B + a)), (1, .int (zI (x : Int))), (2, .int (zI (y : Int))), (3, .int (zI (j : Int)))]) hx hb dX9_crossesNone_35 hl (by decide) rfl (fun ls hl => ?_)
      refine z_iinc (v := (((u + 1) : Nat) : Int)) (lv' := [(5, .int (zI (((u + 1) : Nat) : Int))), (4, .int (zI (((orL (SF L j) (u + 1)) : Nat) : Int))), (0, .ref (B + a)), (1, .int (zI (x : Int))), (2, .int (zI (y : Int))), (3, .int (zI (j : Int)))]) hx hb dX9_crossesNone_37 hl (k := 1) rfl (by omega) (by decide) rfl (fun ls hl => ?_)
      refine lv_goto (tgt := 6) hx hb dX9_crossesNone_40 (by decide) ?_
      exact ih (u + 1) (by omega) (by omega) _ _ ls w (lv_sub hl [0, 1, 2, 3, 4, 5] rfl)
theorem dX9_crossesNone_49 : decode cX9_crossesNone 49 = .ok (.iload 6, 2) := dqU kk_21 (by decide +kernel)
theorem dX9_crossesNone_51 : decode cX9_crossesNone 51 = .ok (.ifCond .lt 36, 3) := dqT kk_155 (by decide +kernel)
theorem dX9_crossesNone_54 : decode cX9_crossesNone 54 = .ok (.iload 6, 2) := dqU kk_21 (by decide +kernel)
theorem dX9_crossesNone_56 : decode cX9_crossesNone 56 = .ok (.aload_n 0, 1) := dq0 kk_42 (by decide +kernel)
theorem dX9_crossesNone_57 : decode cX9_crossesNone 57 = .ok (.getfield 9, 3) := dqV kk_180 (by decide +kernel)
theorem dX9_crossesNone_60 : decode cX9_crossesNone 60 = .ok (.if_icmp .ge 27, 3) := dqT kk_162 (by decide +kernel)
theorem dX9_crossesNone_63 : decode cX9_crossesNone 63 = .ok (.iload 5, 2) := dqU kk_21 (by decide +kernel)
theorem dX9_crossesNone_65 : decode cX9_crossesNone 65 = .ok (.aload_n 0, 1) := dq0 kk_42 (by decide +kernel)
theorem dX9_crossesNone_66 : decode cX9_crossesNone 66 = .ok (.getfield 28, 3) := dqV kk_180 (by decide +kernel)
theorem dX9_crossesNone_69 : decode cX9_crossesNone 69 = .ok (.iload 6, 2) := dqU kk_21 (by decide +kernel)
theorem dX9_crossesNone_71 : decode cX9_crossesNone 71 = .ok (.iaload, 1) := dq0 kk_46 (by decide +kernel)
theorem dX9_crossesNone_72 : decode cX9_crossesNone 72 = .ok (.iconst 1, 1) := dq0 kk_4 (by decide +kernel)
theorem dX9_crossesNone_73 : decode cX9_crossesNone 73 = .ok (.iload_n 3, 1) := dq0 kk_29 (by decide +kernel)
theorem dX9_crossesNone_74 : decode cX9_crossesNone 74 = .ok (.ishl, 1) := dq0 kk_120 (by decide +kernel)
theorem dX9_crossesNone_75 : decode cX9_crossesNone 75 = .ok (.iconst 1, 1) := dq0 kk_4 (by decide +kernel)
theorem dX9_crossesNone_76 : decode cX9_crossesNone 76 = .ok (.isub, 1) := dq0 kk_100 (by decide +kernel)
theorem dX9_crossesNone_77 : decode cX9_crossesNone 77 = .ok (.iand, 1) := dq0 kk_126 (by decide +kernel)
theorem dX9_crossesNone_78 : decode cX9_crossesNone 78 = .ok (.ior, 1) := dq0 kk_128 (by decide +kernel)
theorem dX9_crossesNone_79 : decode cX9_crossesNone 79 = .ok (.istore 5, 2) := dqU kk_54 (by decide +kernel)
theorem dX9_crossesNone_81 : decode cX9_crossesNone 81 = .ok (.iinc 6 1, 3) := dqI kk_132 (by decide +kernel)
theorem dX9_crossesNone_84 : decode cX9_crossesNone 84 = .ok (.goto (-35), 3) := dqT kk_167 (by decide +kernel)
set_option maxRecDepth 4000 in
theorem lp_X9_crosses2 {p : Program} {l : Launch} {e : Env} {s : State} {m : MethodId} {args : Array Value} {below : List Frame} {meth : Method} {c : Code} {D : va_G} {B : Nat} {cy : Nat → ClassId} {H0 : Heap} {Q : State → Prop} {M : Mem} {R : Room} {a n q hv ed : Nat} {K L : Nat → Nat}  {x y j : Nat} (F : CallFix p m c cX9_crossesNone 7 s args TB RX9) (hR1 : 0 ≤ R.frames) (hR2 : 0 ≤ R.locals) (hk : kd a = (9, 0, 0)) (hW : isW M a n q hv ed K L) (hwf : wf n q hv ed K L) (hx0 : x ≤ n) (hy0 : y ≤ n) (hj : j < 12) (kk : ∀ (d : Nat) (H : Heap) (locs : List Loc) (ls : Array Slot), (d = n - y) → Wd D B cy s H0 M H locs → lv_has ls 7 [(6, .int (zI (((y + d) : Nat) : Int))), (5, .int (zI (((orL (fun i => BF L j (y + i)) d) : Nat) : Int))), (4, .int (zI (((orL (SF L j) x) : Nat) : Int))), (0, .ref (B + a)), (1, .int (zI (x : Int))), (2, .int (zI (y : Int))), (3, .int (zI (j : Int)))] → W p l e R s m args below meth c H locs 0 0 Q (F0 m 87 ls [])) : ∀ (f : Nat) (d : Nat), (y + d ≤ n) → (n ≤ y + d + f) → ∀ (H : Heap) (locs : List Loc) (ls : Array Slot), Wd D B cy s H0 M H locs → lv_has ls 7 [(6, .int (zI (((y + d) : Nat) : Int))), (5, .int (zI (((orL (fun i => BF L j (y + i)) d) : Nat) : Int))), (4, .int (zI (((orL (SF L j) x) : Nat) : Int))), (0, .ref (B + a)), (1, .int (zI (x : Int))), (2, .int (zI (y : Int))), (3, .int (zI (j : Int)))] → W p l e R s m args below meth c H locs 0 0 Q (F0 m 49 ls []) := by
  have hx := F.1
  have hb := F.2.1
  have hwf0 := hwf
  obtain ⟨hn, hq, hhv, hed, hKL⟩ := hwf0
  intro f
  induction f with
  | zero =>
    intro d i0 hf H locs ls w hl
    refine lv_iload hx hb dX9_crossesNone_49 (lv_at hl 0 rfl) ?_
    refine z_if_lt (tgt := 87) hx hb (by omega) dX9_crossesNone_51 (by decide) (fun c1 => False.elim (by omega)) (fun c1 => ?_)
    refine lv_iload hx hb dX9_crossesNone_54 (lv_at hl 0 rfl) ?_
    refine lv_aload_n hx hb dX9_crossesNone_56 rfl (lv_at hl 3 rfl) ?_
    refine f_9_0 F w (a := a) hk tb_0 dX9_crossesNone_57 ?_
    refine r_val (v := (zI (n : Int))) (hW.1) ?_
    refine z_icmp_ge (tgt := 87) hx hb (by omega) (by omega) dX9_crossesNone_60 (by decide) (fun c2 => ?_) (fun c2 => False.elim (by omega))
    exact kk d _ _ ls (by omega) w (lv_sub hl [0, 1, 2, 3, 4, 5, 6] rfl)
  | succ f ih =>
    intro d i0 hf H locs ls w hl
    refine lv_iload hx hb dX9_crossesNone_49 (lv_at hl 0 rfl) ?_
    refine z_if_lt (tgt := 87) hx hb (by omega) dX9_crossesNone_51 (by decide) (fun c1 => False.elim (by omega)) (fun c1 => ?_)
    refine lv_iload hx hb dX9_crossesNone_54 (lv_at hl 0 rfl) ?_
    refine lv_aload_n hx hb dX9_crossesNone_56 rfl (lv_at hl 3 rfl) ?_
    refine f_9_0 F w (a := a) hk tb_0 dX9_crossesNone_57 ?_
    refine r_val (v := (zI (n : Int))) (hW.1) ?_
    refine z_icmp_ge (tgt := 87) hx hb (by omega) (by omega) dX9_crossesNone_60 (by decide) (fun c2 => ?_) (fun c2 => ?_)
    · exact kk d _ _ ls (by omega) w (lv_sub hl [0, 1, 2, 3, 4, 5, 6] rfl)
    · refine lv_iload hx hb dX9_crossesNone_63 (lv_at hl 1 rfl) ?_
      refine lv_aload_n hx hb dX9_crossesNone_65 rfl (lv_at hl 3 rfl) ?_
      refine f_9_5 F w (a := a) hk tb_6 dX9_crossesNone_66 ?_
      refine lv_iload hx hb dX9_crossesNone_69 (lv_at hl 0 rfl) ?_
      refine g_iald F w (a := (a + 2)) (kd_w2 hk) (j := (y + d)) (ix_n (by omega)) (by omega) dX9_crossesNone_71 ?_
      have hL2 := (hKL (y + d) (by omega)).2
      refine r_val (v := (zI (((L (y + d)) : Nat) : Int))) (hW.2.2.2.2.2 (y + d) (by omega)) ?_
      refine lv_iconst (v := zI 1) hx hb dX9_crossesNone_72 rfl ?_
      refine lv_iload_n hx hb dX9_crossesNone_73 rfl (lv_at hl 6 rfl) ?_
      refine lv_ishl hx hb dX9_crossesNone_74 ?_
      refine r_val (v := (zI (((2 ^ j) : Nat) : Int))) (zb_shl (n := j) (by omega)) ?_
      have q3 := p2_b (n := j) (by omega)
      refine lv_iconst (v := zI 1) hx hb dX9_crossesNone_75 rfl ?_
      refine z_isub (z := ((((2 ^ j) - 1) : Nat) : Int)) hx hb dX9_crossesNone_76 (by omega) ?_
      refine lv_iand hx hb dX9_crossesNone_77 ?_
      refine r_val (v := (zI ((((L (y + d)) &&& ((2 ^ j) - 1)) : Nat) : Int))) (zb_and (L (y + d)) ((2 ^ j) - 1)) ?_
      have q4 := (Nat.and_le_left : (L (y + d)) &&& ((2 ^ j) - 1) ≤ _)
      refine lv_ior hx hb dX9_crossesNone_78 ?_
      refine r_val (v := (zI (((orL (fun i => BF L j (y + i)) (d + 1)) : Nat) : Int))) (zb_or _ _) ?_
      refine lv_istore (lv' := [(5, .int (zI (((orL (fun i => BF L j (y + i)) (d + 1)) : Nat) : Int))), (6, .int (zI (((y + d) : Nat) : Int))), (4, .int (zI (((orL (SF L j) x) : Nat) : Int))), (0, .ref (B + a)), (1, .int (zI (x : Int))), (2, .int (zI (y : Int))), (3, .int (zI (j : Int)))]) hx hb dX9_crossesNone_79 hl (by decide) rfl (fun ls hl => ?_)
      refine z_iinc (v := ((((y + d) + 1) : Nat) : Int)) (lv' := [(6, .int (zI ((((y + d) + 1) : Nat) : Int))), (5, .int (zI (((orL (fun i => BF L j (y + i)) (d + 1)) : Nat) : Int))), (4, .int (zI (((orL (SF L j) x) : Nat) : Int))), (0, .ref (B + a)), (1, .int (zI (x : Int))), (2, .int (zI (y : Int))), (3, .int (zI (j : Int)))]) hx hb dX9_crossesNone_81 hl (k := 1) rfl (by omega) (by decide) rfl (fun ls hl => ?_)
      refine lv_goto (tgt := 49) hx hb dX9_crossesNone_84 (by decide) ?_
      exact ih (d + 1) (by omega) (by omega) _ _ ls w (lv_sub hl [0, 1, 2, 3, 4, 5, 6] rfl)
theorem dX9_crossesNone_0 : decode cX9_crossesNone 0 = .ok (.iconst 0, 1) := dq0 kk_3 (by decide +kernel)
theorem dX9_crossesNone_1 : decode cX9_crossesNone 1 = .ok (.istore 4, 2) := dqU kk_54 (by decide +kernel)
theorem dX9_crossesNone_3 : decode cX9_crossesNone 3 = .ok (.iconst 0, 1) := dq0 kk_3 (by decide +kernel)
theorem dX9_crossesNone_4 : decode cX9_crossesNone 4 = .ok (.istore 5, 2) := dqU kk_54 (by decide +kernel)
theorem dX9_crossesNone_43 : decode cX9_crossesNone 43 = .ok (.iconst 0, 1) := dq0 kk_3 (by decide +kernel)
theorem dX9_crossesNone_44 : decode cX9_crossesNone 44 = .ok (.istore 5, 2) := dqU kk_54 (by decide +kernel)
theorem dX9_crossesNone_46 : decode cX9_crossesNone 46 = .ok (.iload_n 2, 1) := dq0 kk_28 (by decide +kernel)
theorem dX9_crossesNone_47 : decode cX9_crossesNone 47 = .ok (.istore 6, 2) := dqU kk_54 (by decide +kernel)
theorem dX9_crossesNone_87 : decode cX9_crossesNone 87 = .ok (.iload 4, 2) := dqU kk_21 (by decide +kernel)
theorem dX9_crossesNone_89 : decode cX9_crossesNone 89 = .ok (.ifCond .ne 12, 3) := dqT kk_154 (by decide +kernel)
theorem dX9_crossesNone_101 : decode cX9_crossesNone 101 = .ok (.iconst 0, 1) := dq0 kk_3 (by decide +kernel)
theorem dX9_crossesNone_102 : decode cX9_crossesNone 102 = .ok (.ireturn, 1) := dq0 kk_172 (by decide +kernel)
theorem dX9_crossesNone_92 : decode cX9_crossesNone 92 = .ok (.iload 5, 2) := dqU kk_21 (by decide +kernel)
theorem dX9_crossesNone_94 : decode cX9_crossesNone 94 = .ok (.ifCond .ne 7, 3) := dqT kk_154 (by decide +kernel)
theorem dX9_crossesNone_97 : decode cX9_crossesNone 97 = .ok (.iconst 1, 1) := dq0 kk_4 (by decide +kernel)
theorem dX9_crossesNone_98 : decode cX9_crossesNone 98 = .ok (.goto 4, 3) := dqT kk_167 (by decide +kernel)
set_option maxRecDepth 4000 in
theorem s_X9_crossesNone {l : Launch} {D : va_G} {B : Nat} {cy : Nat → ClassId} {M : Mem} {a n q hv ed : Nat} {K L : Nat → Nat} (hk : kd a = (9, 0, 0)) (hW : isW M a n q hv ed K L) (hwf : wf n q hv ed K L) {x y j : Nat} (hx0 : x ≤ n) (hy0 : y ≤ n) (hj : j < 12) : Ci l D B cy yX9_crossesNone cX9_crossesNone 7 (some .boolean) 0 0 [.ref (B + a), .int (zI (x : Int)), .int (zI (y : Int)), .int (zI (j : Int))] M (fun r M1 => ((sideP n L x y j) ∧ r = zI 1 ∨ ¬ (sideP n L x y j) ∧ r = zI 0) ∧ M1 = M) := by
  refine s_any (by decide) (Nat.le_of_ble_eq_true rfl) ?_
  intro p e s m below meth c ls F hr hlocks w hl
  have F : CallFix p m c cX9_crossesNone 7 s _ TB RX9 := F
  have hx := F.1
  have hb := F.2.1
  have hl : lv_has ls 7 [(0, .ref (B + a)), (1, .int (zI (x : Int))), (2, .int (zI (y : Int))), (3, .int (zI (j : Int)))] := hl
  have hwf0 := hwf
  obtain ⟨hn, hq, hhv, hed, hKL⟩ := hwf0
  refine lv_iconst (v := zI 0) hx hb dX9_crossesNone_0 rfl ?_
  refine lv_istore (lv' := [(4, .int (zI 0)), (0, .ref (B + a)), (1, .int (zI (x : Int))), (2, .int (zI (y : Int))), (3, .int (zI (j : Int)))]) hx hb dX9_crossesNone_1 hl (by decide) rfl (fun ls hl => ?_)
  refine lv_iconst (v := zI 0) hx hb dX9_crossesNone_3 rfl ?_
  refine lv_istore (lv' := [(5, .int (zI 0)), (4, .int (zI 0)), (0, .ref (B + a)), (1, .int (zI (x : Int))), (2, .int (zI (y : Int))), (3, .int (zI (j : Int)))]) hx hb dX9_crossesNone_4 hl (by decide) rfl (fun ls hl => ?_)
  refine lp_X9_crosses1  F (Nat.le_of_ble_eq_true rfl) (Nat.le_of_ble_eq_true rfl) hk hW hwf hx0 hy0 hj (fun u H locs ls x0 w hl => ?_) x 0 (by omega) (by omega) _ _ ls w (lv_sub hl [0, 1, 2, 3, 4, 5] rfl)
  subst x0
  refine lv_iconst (v := zI 0) hx hb dX9_crossesNone_43 rfl ?_
  refine lv_istore (lv' := [(5, .int (zI 0)), (4, .int (zI (((orL (SF L j) u) : Nat) : Int))), (0, .ref (B + a)), (1, .int (zI (u : Int))), (2, .int (zI (y : Int))), (3, .int (zI (j : Int)))]) hx hb dX9_crossesNone_44 hl (by decide) rfl (fun ls hl => ?_)
  refine lv_iload_n hx hb dX9_crossesNone_46 rfl (lv_at hl 4 rfl) ?_
  refine lv_istore (lv' := [(6, .int (zI (y : Int))), (5, .int (zI 0)), (4, .int (zI (((orL (SF L j) u) : Nat) : Int))), (0, .ref (B + a)), (1, .int (zI (u : Int))), (2, .int (zI (y : Int))), (3, .int (zI (j : Int)))]) hx hb dX9_crossesNone_47 hl (by decide) rfl (fun ls hl => ?_)
  have hbx : orL (SF L j) u < 4096 := orL_lt12 (fun k hk9 => SF_lt (hKL k (by omega)).2)
  have hby : orL (fun i => BF L j (y + i)) (n - y) < 4096 := orL_lt12 (fun k hk9 => BF_lt (hKL (y + k) (by omega)).2)
  refine lp_X9_crosses2 (x := u) F (Nat.le_of_ble_eq_true rfl) (Nat.le_of_ble_eq_true rfl) hk hW hwf hx0 hy0 hj (fun d H locs ls x0 w hl => ?_) n 0 (by omega) (by omega) _ _ ls w (lv_sub hl [0, 1, 2, 3, 4, 5, 6] rfl)
  subst x0
  refine lv_iload hx hb dX9_crossesNone_87 (lv_at hl 2 rfl) ?_
  refine z_if_ne (tgt := 101) hx hb (by omega) dX9_crossesNone_89 (by decide) (fun c1 => ?_) (fun c1 => ?_)
  · refine lv_iconst (v := zI 0) hx hb dX9_crossesNone_101 rfl ?_
    exact e_z F w hr hlocks (by decide) ⟨Or.inr ⟨fun h9 => by have := (side_iff hx0 hy0).mpr h9; omega, rfl⟩, rfl⟩ dX9_crossesNone_102
  · refine lv_iload hx hb dX9_crossesNone_92 (lv_at hl 1 rfl) ?_
    refine z_if_ne (tgt := 101) hx hb (by omega) dX9_crossesNone_94 (by decide) (fun c2 => ?_) (fun c2 => ?_)
    · refine lv_iconst (v := zI 0) hx hb dX9_crossesNone_101 rfl ?_
      exact e_z F w hr hlocks (by decide) ⟨Or.inr ⟨fun h9 => by have := (side_iff hx0 hy0).mpr h9; omega, rfl⟩, rfl⟩ dX9_crossesNone_102
    · refine lv_iconst (v := zI 1) hx hb dX9_crossesNone_97 rfl ?_
      refine lv_goto (tgt := 102) hx hb dX9_crossesNone_98 (by decide) ?_
      exact e_z F w hr hlocks (by decide) ⟨Or.inl ⟨(side_iff hx0 hy0).mp ⟨by omega, by omega⟩, rfl⟩, rfl⟩ dX9_crossesNone_102
theorem dX9_isOpen_0 : decode cX9_isOpen 0 = .ok (.aload_n 0, 1) := dq0 kk_42 (by decide +kernel)
theorem dX9_isOpen_1 : decode cX9_isOpen 1 = .ok (.iload_n 1, 1) := dq0 kk_27 (by decide +kernel)
theorem dX9_isOpen_2 : decode cX9_isOpen 2 = .ok (.invokevirtual 41, 3) := dqV kk_182 (by decide +kernel)
theorem dX9_isOpen_5 : decode cX9_isOpen 5 = .ok (.ifCond .eq 40, 3) := dqT kk_153 (by decide +kernel)
theorem dX9_isOpen_8 : decode cX9_isOpen 8 = .ok (.aload_n 0, 1) := dq0 kk_42 (by decide +kernel)
theorem dX9_isOpen_9 : decode cX9_isOpen 9 = .ok (.iload_n 2, 1) := dq0 kk_28 (by decide +kernel)
theorem dX9_isOpen_10 : decode cX9_isOpen 10 = .ok (.invokevirtual 45, 3) := dqV kk_182 (by decide +kernel)
theorem dX9_isOpen_13 : decode cX9_isOpen 13 = .ok (.ifCond .eq 32, 3) := dqT kk_153 (by decide +kernel)
theorem dX9_isOpen_16 : decode cX9_isOpen 16 = .ok (.aload_n 0, 1) := dq0 kk_42 (by decide +kernel)
theorem dX9_isOpen_17 : decode cX9_isOpen 17 = .ok (.getfield 28, 3) := dqV kk_180 (by decide +kernel)
theorem dX9_isOpen_20 : decode cX9_isOpen 20 = .ok (.iload_n 1, 1) := dq0 kk_27 (by decide +kernel)
theorem dX9_isOpen_21 : decode cX9_isOpen 21 = .ok (.iaload, 1) := dq0 kk_46 (by decide +kernel)
theorem dX9_isOpen_22 : decode cX9_isOpen 22 = .ok (.iload_n 2, 1) := dq0 kk_28 (by decide +kernel)
theorem dX9_isOpen_23 : decode cX9_isOpen 23 = .ok (.ishr, 1) := dq0 kk_122 (by decide +kernel)
theorem dX9_isOpen_24 : decode cX9_isOpen 24 = .ok (.iconst 1, 1) := dq0 kk_4 (by decide +kernel)
theorem dX9_isOpen_25 : decode cX9_isOpen 25 = .ok (.iand, 1) := dq0 kk_126 (by decide +kernel)
theorem dX9_isOpen_26 : decode cX9_isOpen 26 = .ok (.ifCond .ne 19, 3) := dqT kk_154 (by decide +kernel)
theorem dX9_isOpen_45 : decode cX9_isOpen 45 = .ok (.iconst 0, 1) := dq0 kk_3 (by decide +kernel)
theorem dX9_isOpen_46 : decode cX9_isOpen 46 = .ok (.ireturn, 1) := dq0 kk_172 (by decide +kernel)
theorem dX9_isOpen_29 : decode cX9_isOpen 29 = .ok (.aload_n 0, 1) := dq0 kk_42 (by decide +kernel)
theorem dX9_isOpen_30 : decode cX9_isOpen 30 = .ok (.iload_n 1, 1) := dq0 kk_27 (by decide +kernel)
theorem dX9_isOpen_31 : decode cX9_isOpen 31 = .ok (.iload_n 1, 1) := dq0 kk_27 (by decide +kernel)
theorem dX9_isOpen_32 : decode cX9_isOpen 32 = .ok (.iconst 1, 1) := dq0 kk_4 (by decide +kernel)
theorem dX9_isOpen_33 : decode cX9_isOpen 33 = .ok (.iadd, 1) := dq0 kk_96 (by decide +kernel)
theorem dX9_isOpen_34 : decode cX9_isOpen 34 = .ok (.iload_n 2, 1) := dq0 kk_28 (by decide +kernel)
theorem dX9_isOpen_35 : decode cX9_isOpen 35 = .ok (.invokevirtual 52, 3) := dqV kk_182 (by decide +kernel)
theorem tk_X9_crossesNone : Cond.code yX9_crossesNone cX9_crossesNone 7 (some .boolean) ∈ TB := tbm (tc3 (List.mem_of_getElem? (i := 17) rfl)) rfl
theorem gc_X9_crossesNone : GoodIn TB (cw yX9_crossesNone cX9_crossesNone 7 (some .boolean)) := goodIn_c2 tk_X9_crossesNone
theorem tb_16 : Cond.methodLink "ToneLines$Word" 52 yX9_crossesNone ∈ TB := tbm (tc3 (List.mem_of_getElem? (i := 14) rfl)) rfl
theorem tb_17 : Cond.instanceMethod yX9_crossesNone ∈ TB := tbm (tc3 (List.mem_of_getElem? (i := 15) rfl)) rfl
theorem tb_18 : Cond.selects "ToneLines$Word" yX9_crossesNone yX9_crossesNone ∈ TB := tbm (tc3 (List.mem_of_getElem? (i := 16) rfl)) rfl
theorem gv_X9_52 : GoodIn TB (wsV RX9 52 RX9 yX9_crossesNone (cw yX9_crossesNone cX9_crossesNone 7 (some .boolean))) := goodIn_4 tb_16 tb_17 tb_18 tb_5 gc_X9_crossesNone
theorem hv_X9_crossesNone : yX9_crossesNone.cls = RX9 ∧ yX9_crossesNone.cls ≠ "java/lang/invoke/MethodHandle" ∧ yX9_crossesNone.cls ≠ "java/lang/invoke/VarHandle" ∧ (parseMethodDescriptor yX9_crossesNone.desc).map (fun d => d.parameters.length) = some 3 := by decide +kernel
theorem dX9_isOpen_38 : decode cX9_isOpen 38 = .ok (.ifCond .eq 7, 3) := dqT kk_153 (by decide +kernel)
theorem dX9_isOpen_41 : decode cX9_isOpen 41 = .ok (.iconst 1, 1) := dq0 kk_4 (by decide +kernel)
theorem dX9_isOpen_42 : decode cX9_isOpen 42 = .ok (.goto 4, 3) := dqT kk_167 (by decide +kernel)
set_option maxRecDepth 4000 in
theorem s_X9_isOpen {l : Launch} {D : va_G} {B : Nat} {cy : Nat → ClassId} {M : Mem} {a n q hv ed : Nat} {K L : Nat → Nat} (hk : kd a = (9, 0, 0)) (hW : isW M a n q hv ed K L) (hwf : wf n q hv ed K L) {t y : Int} (ht : rg t) (hy : rg y) : Ci l D B cy yX9_isOpen cX9_isOpen 3 (some .boolean) 1 26 [.ref (B + a), .int (zI t), .int (zI y)] M (fun r M1 => (((∃ k j : Nat, t = (k : Int) ∧ y = (j : Int) ∧ k < n ∧ j < q ∧ openP n L k j) ∧ r = zI 1) ∨ (¬ ((∃ k j : Nat, t = (k : Int) ∧ y = (j : Int) ∧ k < n ∧ j < q ∧ openP n L k j)) ∧ r = zI 0)) ∧ M1 = M) := by
  refine s_any (by decide) (Nat.le_of_ble_eq_true rfl) ?_
  intro p e s m below meth c ls F hr hlocks w hl
  have F : CallFix p m c cX9_isOpen 3 s _ TB RX9 := F
  have hx := F.1
  have hb := F.2.1
  have hl : lv_has ls 3 [(0, .ref (B + a)), (1, .int (zI t)), (2, .int (zI y))] := hl
  have hwf0 := hwf
  obtain ⟨hn, hq, hhv, hed, hKL⟩ := hwf0
  refine lv_aload_n hx hb dX9_isOpen_0 rfl (lv_at hl 0 rfl) ?_
  refine lv_iload_n hx hb dX9_isOpen_1 rfl (lv_at hl 1 rfl) ?_
  refine k_Vi F w (As := [.int (zI t)]) (rest := []) (a := a) (kd_lt (a := a) hk (by decide)) (sh_9 hk _ _) rfl (s_X9_hasTone hk hW hwf (by omega)) gv_X9_41 hv_X9_hasTone ⟨(Nat.le_of_ble_eq_true rfl), (Nat.le_of_ble_eq_true rfl)⟩ hl.1 rfl (Nat.le_of_ble_eq_true rfl) ⟨Nat.zero_le _, Nat.zero_le _⟩ dX9_isOpen_2 (fun r M1 H locs hp w => ?_)
  rcases hp with ⟨⟨k1, rfl, hk1, rfl⟩ | ⟨nk1, rfl⟩, hMe⟩
  · rw [hMe] at w
    refine z_if_eq (tgt := 45) hx hb (by omega) dX9_isOpen_5 (by decide) (fun c2 => False.elim (by omega)) (fun c2 => ?_)
    refine lv_aload_n hx hb dX9_isOpen_8 rfl (lv_at hl 0 rfl) ?_
    refine lv_iload_n hx hb dX9_isOpen_9 rfl (lv_at hl 2 rfl) ?_
    refine k_Vi F w (As := [.int (zI y)]) (rest := []) (a := a) (kd_lt (a := a) hk (by decide)) (sh_9 hk _ _) rfl (s_X9_hasSyllable hk hW hwf (by omega)) gv_X9_45 hv_X9_hasSyllable ⟨(Nat.le_of_ble_eq_true rfl), (Nat.le_of_ble_eq_true rfl)⟩ hl.1 rfl (Nat.le_of_ble_eq_true rfl) ⟨Nat.zero_le _, Nat.zero_le _⟩ dX9_isOpen_10 (fun r M1 H locs hp w => ?_)
    rcases hp with ⟨⟨k3, rfl, hk3, rfl⟩ | ⟨nk3, rfl⟩, hMe⟩
    · rw [hMe] at w
      refine z_if_eq (tgt := 45) hx hb (by omega) dX9_isOpen_13 (by decide) (fun c4 => False.elim (by omega)) (fun c4 => ?_)
      refine lv_aload_n hx hb dX9_isOpen_16 rfl (lv_at hl 0 rfl) ?_
      refine f_9_5 F w (a := a) hk tb_6 dX9_isOpen_17 ?_
      refine lv_iload_n hx hb dX9_isOpen_20 rfl (lv_at hl 1 rfl) ?_
      refine g_iald F w (a := (a + 2)) (kd_w2 hk) (j := k1) (ix_n (by omega)) (by omega) dX9_isOpen_21 ?_
      have hL4 := (hKL k1 (by omega)).2
      refine r_val (v := (zI (((L k1) : Nat) : Int))) (hW.2.2.2.2.2 k1 (by omega)) ?_
      refine lv_iload_n hx hb dX9_isOpen_22 rfl (lv_at hl 2 rfl) ?_
      refine lv_ishr hx hb dX9_isOpen_23 ?_
      refine r_val (v := (zI ((((L k1) >>> k3) : Nat) : Int))) (zb_shr (a := (L k1)) (n := k3) (by omega) (by omega)) ?_
      have q5 := shr_le (L k1) k3
      refine lv_iconst (v := zI 1) hx hb dX9_isOpen_24 rfl ?_
      refine lv_iand hx hb dX9_isOpen_25 ?_
      refine r_val (v := (zI (((tb (L k1) k3) : Nat) : Int))) zb_tst ?_
      have q6 := tb01 (L k1) k3
      refine z_if_ne (tgt := 45) hx hb (by omega) dX9_isOpen_26 (by decide) (fun c7 => ?_) (fun c7 => ?_)
      · refine lv_iconst (v := zI 0) hx hb dX9_isOpen_45 rfl ?_
        exact e_z F w hr hlocks (by decide) ⟨Or.inr ⟨fun ⟨k9, j9, e1, e2, _, _, b9⟩ => by (obtain rfl : k1 = k9 := by omega); (obtain rfl : k3 = j9 := by omega); have := tbz.mpr b9.1; omega, rfl⟩, rfl⟩ dX9_isOpen_46
      · refine lv_aload_n hx hb dX9_isOpen_29 rfl (lv_at hl 0 rfl) ?_
        refine lv_iload_n hx hb dX9_isOpen_30 rfl (lv_at hl 1 rfl) ?_
        refine lv_iload_n hx hb dX9_isOpen_31 rfl (lv_at hl 1 rfl) ?_
        refine lv_iconst (v := zI 1) hx hb dX9_isOpen_32 rfl ?_
        refine z_iadd (z := (((k1 + 1) : Nat) : Int)) hx hb dX9_isOpen_33 (by omega) ?_
        refine lv_iload_n hx hb dX9_isOpen_34 rfl (lv_at hl 2 rfl) ?_
        refine k_Vi F w (As := [.int (zI (k1 : Int)), .int (zI (((k1 + 1) : Nat) : Int)), .int (zI (k3 : Int))]) (rest := []) (a := a) (kd_lt (a := a) hk (by decide)) (sh_9 hk _ _) rfl (s_X9_crossesNone hk hW hwf (x := k1) (y := (k1 + 1)) (j := k3) (by omega) (by omega) (by omega)) gv_X9_52 hv_X9_crossesNone ⟨(Nat.le_of_ble_eq_true rfl), (Nat.le_of_ble_eq_true rfl)⟩ hl.1 rfl (Nat.le_of_ble_eq_true rfl) ⟨Nat.zero_le _, Nat.zero_le _⟩ dX9_isOpen_35 (fun r M1 H locs hp w => ?_)
        rcases hp with ⟨⟨hc9, rfl⟩ | ⟨hc9, rfl⟩, hMe⟩
        · rw [hMe] at w
          refine z_if_eq (tgt := 45) hx hb (by omega) dX9_isOpen_38 (by decide) (fun c8 => False.elim (by omega)) (fun c8 => ?_)
          refine lv_iconst (v := zI 1) hx hb dX9_isOpen_41 rfl ?_
          refine lv_goto (tgt := 46) hx hb dX9_isOpen_42 (by decide) ?_
          exact e_z F w hr hlocks (by decide) ⟨Or.inl ⟨⟨k1, k3, rfl, rfl, by omega, by omega, tbz.mp (by omega), hc9⟩, rfl⟩, rfl⟩ dX9_isOpen_46
        · rw [hMe] at w
          refine z_if_eq (tgt := 45) hx hb (by omega) dX9_isOpen_38 (by decide) (fun c9 => ?_) (fun c9 => False.elim (by omega))
          refine lv_iconst (v := zI 0) hx hb dX9_isOpen_45 rfl ?_
          exact e_z F w hr hlocks (by decide) ⟨Or.inr ⟨fun ⟨k9, j9, e1, e2, _, _, b9⟩ => by (obtain rfl : k1 = k9 := by omega); (obtain rfl : k3 = j9 := by omega); exact hc9 b9.2, rfl⟩, rfl⟩ dX9_isOpen_46
    · rw [hMe] at w
      refine z_if_eq (tgt := 45) hx hb (by omega) dX9_isOpen_13 (by decide) (fun c10 => ?_) (fun c10 => False.elim (by omega))
      refine lv_iconst (v := zI 0) hx hb dX9_isOpen_45 rfl ?_
      exact e_z F w hr hlocks (by decide) ⟨Or.inr ⟨fun ⟨k9, j9, e1, e2, h1, h2, _⟩ => by omega, rfl⟩, rfl⟩ dX9_isOpen_46
  · rw [hMe] at w
    refine z_if_eq (tgt := 45) hx hb (by omega) dX9_isOpen_5 (by decide) (fun c11 => ?_) (fun c11 => False.elim (by omega))
    refine lv_iconst (v := zI 0) hx hb dX9_isOpen_45 rfl ?_
    exact e_z F w hr hlocks (by decide) ⟨Or.inr ⟨fun ⟨k9, j9, e1, e2, h1, h2, _⟩ => by omega, rfl⟩, rfl⟩ dX9_isOpen_46
theorem dX9_hasLine_0 : decode cX9_hasLine 0 = .ok (.aload_n 0, 1) := dq0 kk_42 (by decide +kernel)
theorem dX9_hasLine_1 : decode cX9_hasLine 1 = .ok (.iload_n 1, 1) := dq0 kk_27 (by decide +kernel)
theorem dX9_hasLine_2 : decode cX9_hasLine 2 = .ok (.invokevirtual 41, 3) := dqV kk_182 (by decide +kernel)
theorem dX9_hasLine_5 : decode cX9_hasLine 5 = .ok (.ifCond .eq 28, 3) := dqT kk_153 (by decide +kernel)
theorem dX9_hasLine_8 : decode cX9_hasLine 8 = .ok (.aload_n 0, 1) := dq0 kk_42 (by decide +kernel)
theorem dX9_hasLine_9 : decode cX9_hasLine 9 = .ok (.iload_n 2, 1) := dq0 kk_28 (by decide +kernel)
theorem dX9_hasLine_10 : decode cX9_hasLine 10 = .ok (.invokevirtual 45, 3) := dqV kk_182 (by decide +kernel)
theorem dX9_hasLine_13 : decode cX9_hasLine 13 = .ok (.ifCond .eq 20, 3) := dqT kk_153 (by decide +kernel)
theorem dX9_hasLine_16 : decode cX9_hasLine 16 = .ok (.aload_n 0, 1) := dq0 kk_42 (by decide +kernel)
theorem dX9_hasLine_17 : decode cX9_hasLine 17 = .ok (.getfield 28, 3) := dqV kk_180 (by decide +kernel)
theorem dX9_hasLine_20 : decode cX9_hasLine 20 = .ok (.iload_n 1, 1) := dq0 kk_27 (by decide +kernel)
theorem dX9_hasLine_21 : decode cX9_hasLine 21 = .ok (.iaload, 1) := dq0 kk_46 (by decide +kernel)
theorem dX9_hasLine_22 : decode cX9_hasLine 22 = .ok (.iload_n 2, 1) := dq0 kk_28 (by decide +kernel)
theorem dX9_hasLine_23 : decode cX9_hasLine 23 = .ok (.ishr, 1) := dq0 kk_122 (by decide +kernel)
theorem dX9_hasLine_24 : decode cX9_hasLine 24 = .ok (.iconst 1, 1) := dq0 kk_4 (by decide +kernel)
theorem dX9_hasLine_25 : decode cX9_hasLine 25 = .ok (.iand, 1) := dq0 kk_126 (by decide +kernel)
theorem dX9_hasLine_26 : decode cX9_hasLine 26 = .ok (.ifCond .eq 7, 3) := dqT kk_153 (by decide +kernel)
theorem dX9_hasLine_33 : decode cX9_hasLine 33 = .ok (.iconst 0, 1) := dq0 kk_3 (by decide +kernel)
theorem dX9_hasLine_34 : decode cX9_hasLine 34 = .ok (.ireturn, 1) := dq0 kk_172 (by decide +kernel)
theorem dX9_hasLine_29 : decode cX9_hasLine 29 = .ok (.iconst 1, 1) := dq0 kk_4 (by decide +kernel)
theorem dX9_hasLine_30 : decode cX9_hasLine 30 = .ok (.goto 4, 3) := dqT kk_167 (by decide +kernel)
set_option maxRecDepth 4000 in
theorem s_X9_hasLine {l : Launch} {D : va_G} {B : Nat} {cy : Nat → ClassId} {M : Mem} {a n q hv ed : Nat} {K L : Nat → Nat} (hk : kd a = (9, 0, 0)) (hW : isW M a n q hv ed K L) (hwf : wf n q hv ed K L) {t y : Int} (ht : rg t) (hy : rg y) : Ci l D B cy yX9_hasLine cX9_hasLine 3 (some .boolean) 1 21 [.ref (B + a), .int (zI t), .int (zI y)] M (fun r M1 => (((∃ k j : Nat, t = (k : Int) ∧ y = (j : Int) ∧ k < n ∧ j < q ∧ (L k).testBit j = true) ∧ r = zI 1) ∨ (¬ ((∃ k j : Nat, t = (k : Int) ∧ y = (j : Int) ∧ k < n ∧ j < q ∧ (L k).testBit j = true)) ∧ r = zI 0)) ∧ M1 = M) := by
  refine s_any (by decide) (Nat.le_of_ble_eq_true rfl) ?_
  intro p e s m below meth c ls F hr hlocks w hl
  have F : CallFix p m c cX9_hasLine 3 s _ TB RX9 := F
  have hx := F.1
  have hb := F.2.1
  have hl : lv_has ls 3 [(0, .ref (B + a)), (1, .int (zI t)), (2, .int (zI y))] := hl
  have hwf0 := hwf
  obtain ⟨hn, hq, hhv, hed, hKL⟩ := hwf0
  refine lv_aload_n hx hb dX9_hasLine_0 rfl (lv_at hl 0 rfl) ?_
  refine lv_iload_n hx hb dX9_hasLine_1 rfl (lv_at hl 1 rfl) ?_
  refine k_Vi F w (As := [.int (zI t)]) (rest := []) (a := a) (kd_lt (a := a) hk (by decide)) (sh_9 hk _ _) rfl (s_X9_hasTone hk hW hwf (by omega)) gv_X9_41 hv_X9_hasTone ⟨(Nat.le_of_ble_eq_true rfl), (Nat.le_of_ble_eq_true rfl)⟩ hl.1 rfl (Nat.le_of_ble_eq_true rfl) ⟨Nat.zero_le _, Nat.zero_le _⟩ dX9_hasLine_2 (fun r M1 H locs hp w => ?_)
  rcases hp with ⟨⟨k1, rfl, hk1, rfl⟩ | ⟨nk1, rfl⟩, hMe⟩
  · rw [hMe] at w
    refine z_if_eq (tgt := 33) hx hb (by omega) dX9_hasLine_5 (by decide) (fun c2 => False.elim (by omega)) (fun c2 => ?_)
    refine lv_aload_n hx hb dX9_hasLine_8 rfl (lv_at hl 0 rfl) ?_
    refine lv_iload_n hx hb dX9_hasLine_9 rfl (lv_at hl 2 rfl) ?_
    refine k_Vi F w (As := [.int (zI y)]) (rest := []) (a := a) (kd_lt (a := a) hk (by decide)) (sh_9 hk _ _) rfl (s_X9_hasSyllable hk hW hwf (by omega)) gv_X9_45 hv_X9_hasSyllable ⟨(Nat.le_of_ble_eq_true rfl), (Nat.le_of_ble_eq_true rfl)⟩ hl.1 rfl (Nat.le_of_ble_eq_true rfl) ⟨Nat.zero_le _, Nat.zero_le _⟩ dX9_hasLine_10 (fun r M1 H locs hp w => ?_)
    rcases hp with ⟨⟨k3, rfl, hk3, rfl⟩ | ⟨nk3, rfl⟩, hMe⟩
    · rw [hMe] at w
      refine z_if_eq (tgt := 33) hx hb (by omega) dX9_hasLine_13 (by decide) (fun c4 => False.elim (by omega)) (fun c4 => ?_)
      refine lv_aload_n hx hb dX9_hasLine_16 rfl (lv_at hl 0 rfl) ?_
      refine f_9_5 F w (a := a) hk tb_6 dX9_hasLine_17 ?_
      refine lv_iload_n hx hb dX9_hasLine_20 rfl (lv_at hl 1 rfl) ?_
      refine g_iald F w (a := (a + 2)) (kd_w2 hk) (j := k1) (ix_n (by omega)) (by omega) dX9_hasLine_21 ?_
      have hL4 := (hKL k1 (by omega)).2
      refine r_val (v := (zI (((L k1) : Nat) : Int))) (hW.2.2.2.2.2 k1 (by omega)) ?_
      refine lv_iload_n hx hb dX9_hasLine_22 rfl (lv_at hl 2 rfl) ?_
      refine lv_ishr hx hb dX9_hasLine_23 ?_
      refine r_val (v := (zI ((((L k1) >>> k3) : Nat) : Int))) (zb_shr (a := (L k1)) (n := k3) (by omega) (by omega)) ?_
      have q5 := shr_le (L k1) k3
      refine lv_iconst (v := zI 1) hx hb dX9_hasLine_24 rfl ?_
      refine lv_iand hx hb dX9_hasLine_25 ?_
      refine r_val (v := (zI (((tb (L k1) k3) : Nat) : Int))) zb_tst ?_
      have q6 := tb01 (L k1) k3
      refine z_if_eq (tgt := 33) hx hb (by omega) dX9_hasLine_26 (by decide) (fun c7 => ?_) (fun c7 => ?_)
      · refine lv_iconst (v := zI 0) hx hb dX9_hasLine_33 rfl ?_
        exact e_z F w hr hlocks (by decide) ⟨Or.inr ⟨fun ⟨k9, j9, e1, e2, _, _, b9⟩ => by (obtain rfl : k1 = k9 := by omega); (obtain rfl : k3 = j9 := by omega); have := tbo.mpr b9; omega, rfl⟩, rfl⟩ dX9_hasLine_34
      · refine lv_iconst (v := zI 1) hx hb dX9_hasLine_29 rfl ?_
        refine lv_goto (tgt := 34) hx hb dX9_hasLine_30 (by decide) ?_
        exact e_z F w hr hlocks (by decide) ⟨Or.inl ⟨⟨k1, k3, rfl, rfl, by omega, by omega, tbo.mp (by omega)⟩, rfl⟩, rfl⟩ dX9_hasLine_34
    · rw [hMe] at w
      refine z_if_eq (tgt := 33) hx hb (by omega) dX9_hasLine_13 (by decide) (fun c8 => ?_) (fun c8 => False.elim (by omega))
      refine lv_iconst (v := zI 0) hx hb dX9_hasLine_33 rfl ?_
      exact e_z F w hr hlocks (by decide) ⟨Or.inr ⟨fun ⟨k9, j9, e1, e2, h1, h2, _⟩ => by omega, rfl⟩, rfl⟩ dX9_hasLine_34
  · rw [hMe] at w
    refine z_if_eq (tgt := 33) hx hb (by omega) dX9_hasLine_5 (by decide) (fun c9 => ?_) (fun c9 => False.elim (by omega))
    refine lv_iconst (v := zI 0) hx hb dX9_hasLine_33 rfl ?_
    exact e_z F w hr hlocks (by decide) ⟨Or.inr ⟨fun ⟨k9, j9, e1, e2, h1, h2, _⟩ => by omega, rfl⟩, rfl⟩ dX9_hasLine_34
theorem dX9_tonesOf_4 : decode cX9_tonesOf 4 = .ok (.iload_n 3, 1) := dq0 kk_29 (by decide +kernel)
theorem dX9_tonesOf_5 : decode cX9_tonesOf 5 = .ok (.aload_n 0, 1) := dq0 kk_42 (by decide +kernel)
theorem dX9_tonesOf_6 : decode cX9_tonesOf 6 = .ok (.getfield 9, 3) := dqV kk_180 (by decide +kernel)
theorem dX9_tonesOf_9 : decode cX9_tonesOf 9 = .ok (.if_icmp .ge 24, 3) := dqT kk_162 (by decide +kernel)
theorem dX9_tonesOf_12 : decode cX9_tonesOf 12 = .ok (.iload_n 2, 1) := dq0 kk_28 (by decide +kernel)
theorem dX9_tonesOf_13 : decode cX9_tonesOf 13 = .ok (.aload_n 0, 1) := dq0 kk_42 (by decide +kernel)
theorem dX9_tonesOf_14 : decode cX9_tonesOf 14 = .ok (.getfield 28, 3) := dqV kk_180 (by decide +kernel)
theorem dX9_tonesOf_17 : decode cX9_tonesOf 17 = .ok (.iload_n 3, 1) := dq0 kk_29 (by decide +kernel)
theorem dX9_tonesOf_18 : decode cX9_tonesOf 18 = .ok (.iaload, 1) := dq0 kk_46 (by decide +kernel)
theorem dX9_tonesOf_19 : decode cX9_tonesOf 19 = .ok (.iload_n 1, 1) := dq0 kk_27 (by decide +kernel)
theorem dX9_tonesOf_20 : decode cX9_tonesOf 20 = .ok (.ishr, 1) := dq0 kk_122 (by decide +kernel)
theorem dX9_tonesOf_21 : decode cX9_tonesOf 21 = .ok (.iconst 1, 1) := dq0 kk_4 (by decide +kernel)
theorem dX9_tonesOf_22 : decode cX9_tonesOf 22 = .ok (.iand, 1) := dq0 kk_126 (by decide +kernel)
theorem dX9_tonesOf_23 : decode cX9_tonesOf 23 = .ok (.iload_n 3, 1) := dq0 kk_29 (by decide +kernel)
theorem dX9_tonesOf_24 : decode cX9_tonesOf 24 = .ok (.ishl, 1) := dq0 kk_120 (by decide +kernel)
theorem dX9_tonesOf_25 : decode cX9_tonesOf 25 = .ok (.ior, 1) := dq0 kk_128 (by decide +kernel)
theorem dX9_tonesOf_26 : decode cX9_tonesOf 26 = .ok (.istore_n 2, 1) := dq0 kk_61 (by decide +kernel)
theorem dX9_tonesOf_27 : decode cX9_tonesOf 27 = .ok (.iinc 3 1, 3) := dqI kk_132 (by decide +kernel)
theorem dX9_tonesOf_30 : decode cX9_tonesOf 30 = .ok (.goto (-26), 3) := dqT kk_167 (by decide +kernel)
set_option maxRecDepth 4000 in
theorem lp_X9_tonesOf {p : Program} {l : Launch} {e : Env} {s : State} {m : MethodId} {args : Array Value} {below : List Frame} {meth : Method} {c : Code} {D : va_G} {B : Nat} {cy : Nat → ClassId} {H0 : Heap} {Q : State → Prop} {M : Mem} {R : Room} {a n q hv ed : Nat} {K L : Nat → Nat}  {j : Nat} (F : CallFix p m c cX9_tonesOf 4 s args TB RX9) (hR1 : 0 ≤ R.frames) (hR2 : 0 ≤ R.locals) (hk : kd a = (9, 0, 0)) (hW : isW M a n q hv ed K L) (hwf : wf n q hv ed K L) (hj : j < 12) (kk : ∀ (t : Nat) (H : Heap) (locs : List Loc) (ls : Array Slot), (t = n) → Wd D B cy s H0 M H locs → lv_has ls 4 [(3, .int (zI (t : Int))), (2, .int (zI (((tmk L j t) : Nat) : Int))), (0, .ref (B + a)), (1, .int (zI (j : Int)))] → W p l e R s m args below meth c H locs 0 0 Q (F0 m 33 ls [])) : ∀ (f : Nat) (t : Nat), (t ≤ n) → (n ≤ t + f) → ∀ (H : Heap) (locs : List Loc) (ls : Array Slot), Wd D B cy s H0 M H locs → lv_has ls 4 [(3, .int (zI (t : Int))), (2, .int (zI (((tmk L j t) : Nat) : Int))), (0, .ref (B + a)), (1, .int (zI (j : Int)))] → W p l e R s m args below meth c H locs 0 0 Q (F0 m 4 ls []) := by
  have hx := F.1
  have hb := F.2.1
  have hwf0 := hwf
  obtain ⟨hn, hq, hhv, hed, hKL⟩ := hwf0
  intro f
  induction f with
  | zero =>
    intro t i0 hf H locs ls w hl
    refine lv_iload_n hx hb dX9_tonesOf_4 rfl (lv_at hl 0 rfl) ?_
    refine lv_aload_n hx hb dX9_tonesOf_5 rfl (lv_at hl 2 rfl) ?_
    refine f_9_0 F w (a := a) hk tb_0 dX9_tonesOf_6 ?_
    refine r_val (v := (zI (n : Int))) (hW.1) ?_
    refine z_icmp_ge (tgt := 33) hx hb (by omega) (by omega) dX9_tonesOf_9 (by decide) (fun c1 => ?_) (fun c1 => False.elim (by omega))
    exact kk t _ _ ls (by omega) w (lv_sub hl [0, 1, 2, 3] rfl)
  | succ f ih =>
    intro t i0 hf H locs ls w hl
    refine lv_iload_n hx hb dX9_tonesOf_4 rfl (lv_at hl 0 rfl) ?_
    refine lv_aload_n hx hb dX9_tonesOf_5 rfl (lv_at hl 2 rfl) ?_
    refine f_9_0 F w (a := a) hk tb_0 dX9_tonesOf_6 ?_
    refine r_val (v := (zI (n : Int))) (hW.1) ?_
    refine z_icmp_ge (tgt := 33) hx hb (by omega) (by omega) dX9_tonesOf_9 (by decide) (fun c1 => ?_) (fun c1 => ?_)
    · exact kk t _ _ ls (by omega) w (lv_sub hl [0, 1, 2, 3] rfl)
    · refine lv_iload_n hx hb dX9_tonesOf_12 rfl (lv_at hl 1 rfl) ?_
      refine lv_aload_n hx hb dX9_tonesOf_13 rfl (lv_at hl 2 rfl) ?_
      refine f_9_5 F w (a := a) hk tb_6 dX9_tonesOf_14 ?_
      refine lv_iload_n hx hb dX9_tonesOf_17 rfl (lv_at hl 0 rfl) ?_
      refine g_iald F w (a := (a + 2)) (kd_w2 hk) (j := t) (ix_n (by omega)) (by omega) dX9_tonesOf_18 ?_
      have hL1 := (hKL t (by omega)).2
      refine r_val (v := (zI (((L t) : Nat) : Int))) (hW.2.2.2.2.2 t (by omega)) ?_
      refine lv_iload_n hx hb dX9_tonesOf_19 rfl (lv_at hl 3 rfl) ?_
      refine lv_ishr hx hb dX9_tonesOf_20 ?_
      refine r_val (v := (zI ((((L t) >>> j) : Nat) : Int))) (zb_shr (a := (L t)) (n := j) (by omega) (by omega)) ?_
      have q2 := shr_le (L t) j
      refine lv_iconst (v := zI 1) hx hb dX9_tonesOf_21 rfl ?_
      refine lv_iand hx hb dX9_tonesOf_22 ?_
      refine r_val (v := (zI (((tb (L t) j) : Nat) : Int))) zb_tst ?_
      have q3 := tb01 (L t) j
      refine lv_iload_n hx hb dX9_tonesOf_23 rfl (lv_at hl 0 rfl) ?_
      refine lv_ishl hx hb dX9_tonesOf_24 ?_
      refine r_val (v := (zI ((((tb (L t) j) * 2 ^ t) : Nat) : Int))) (zb_shl01 (tb01 _ _) (by omega)) ?_
      have q4 := tbp_lt (m := (L t)) (j := j) (t := t) (by omega)
      refine lv_ior hx hb dX9_tonesOf_25 ?_
      refine r_val (v := (zI (((tmk L j (t + 1)) : Nat) : Int))) (zb_or _ _) ?_
      refine lv_istore_n (lv' := [(2, .int (zI (((tmk L j (t + 1)) : Nat) : Int))), (3, .int (zI (t : Int))), (0, .ref (B + a)), (1, .int (zI (j : Int)))]) hx hb dX9_tonesOf_26 rfl hl (by decide) rfl (fun ls hl => ?_)
      refine z_iinc (v := (((t + 1) : Nat) : Int)) (lv' := [(3, .int (zI (((t + 1) : Nat) : Int))), (2, .int (zI (((tmk L j (t + 1)) : Nat) : Int))), (0, .ref (B + a)), (1, .int (zI (j : Int)))]) hx hb dX9_tonesOf_27 hl (k := 1) rfl (by omega) (by decide) rfl (fun ls hl => ?_)
      refine lv_goto (tgt := 4) hx hb dX9_tonesOf_30 (by decide) ?_
      exact ih (t + 1) (by omega) (by omega) _ _ ls w (lv_sub hl [0, 1, 2, 3] rfl)
theorem dX9_tonesOf_0 : decode cX9_tonesOf 0 = .ok (.iconst 0, 1) := dq0 kk_3 (by decide +kernel)
theorem dX9_tonesOf_1 : decode cX9_tonesOf 1 = .ok (.istore_n 2, 1) := dq0 kk_61 (by decide +kernel)
theorem dX9_tonesOf_2 : decode cX9_tonesOf 2 = .ok (.iconst 0, 1) := dq0 kk_3 (by decide +kernel)
theorem dX9_tonesOf_3 : decode cX9_tonesOf 3 = .ok (.istore_n 3, 1) := dq0 kk_62 (by decide +kernel)
theorem dX9_tonesOf_33 : decode cX9_tonesOf 33 = .ok (.iload_n 2, 1) := dq0 kk_28 (by decide +kernel)
theorem dX9_tonesOf_34 : decode cX9_tonesOf 34 = .ok (.ireturn, 1) := dq0 kk_172 (by decide +kernel)
set_option maxRecDepth 4000 in
theorem s_X9_tonesOf {l : Launch} {D : va_G} {B : Nat} {cy : Nat → ClassId} {M : Mem} {a n q hv ed : Nat} {K L : Nat → Nat} (hk : kd a = (9, 0, 0)) (hW : isW M a n q hv ed K L) (hwf : wf n q hv ed K L) {j : Nat} (hj : j < 12) : Ci l D B cy yX9_tonesOf cX9_tonesOf 4 (some .int) 0 0 [.ref (B + a), .int (zI (j : Int))] M (fun r M1 => r = zI ((tmk L j n : Nat) : Int) ∧ M1 = M) := by
  refine s_any (by decide) (Nat.le_of_ble_eq_true rfl) ?_
  intro p e s m below meth c ls F hr hlocks w hl
  have F : CallFix p m c cX9_tonesOf 4 s _ TB RX9 := F
  have hx := F.1
  have hb := F.2.1
  have hl : lv_has ls 4 [(0, .ref (B + a)), (1, .int (zI (j : Int)))] := hl
  have hwf0 := hwf
  obtain ⟨hn, hq, hhv, hed, hKL⟩ := hwf0
  refine lv_iconst (v := zI 0) hx hb dX9_tonesOf_0 rfl ?_
  refine lv_istore_n (lv' := [(2, .int (zI 0)), (0, .ref (B + a)), (1, .int (zI (j : Int)))]) hx hb dX9_tonesOf_1 rfl hl (by decide) rfl (fun ls hl => ?_)
  refine lv_iconst (v := zI 0) hx hb dX9_tonesOf_2 rfl ?_
  refine lv_istore_n (lv' := [(3, .int (zI 0)), (2, .int (zI 0)), (0, .ref (B + a)), (1, .int (zI (j : Int)))]) hx hb dX9_tonesOf_3 rfl hl (by decide) rfl (fun ls hl => ?_)
  refine lp_X9_tonesOf  F (Nat.le_of_ble_eq_true rfl) (Nat.le_of_ble_eq_true rfl) hk hW hwf hj (fun t H locs ls x0 w hl => ?_) n 0 (by omega) (by omega) _ _ ls w (lv_sub hl [0, 1, 2, 3] rfl)
  subst x0
  refine lv_iload_n hx hb dX9_tonesOf_33 rfl (lv_at hl 1 rfl) ?_
  exact e_i F w hr hlocks ⟨rfl, rfl⟩ dX9_tonesOf_34
theorem dJ6_bitCount_0f7a4_0 : decode cJ6_bitCount_0f7a4 0 = .ok (.iload_n 0, 1) := dq0 kk_26 (by decide +kernel)
theorem dJ6_bitCount_0f7a4_1 : decode cJ6_bitCount_0f7a4 1 = .ok (.iload_n 0, 1) := dq0 kk_26 (by decide +kernel)
theorem dJ6_bitCount_0f7a4_2 : decode cJ6_bitCount_0f7a4 2 = .ok (.iconst 1, 1) := dq0 kk_4 (by decide +kernel)
theorem dJ6_bitCount_0f7a4_3 : decode cJ6_bitCount_0f7a4 3 = .ok (.iushr, 1) := dq0 kk_124 (by decide +kernel)
theorem dJ6_bitCount_0f7a4_4 : decode cJ6_bitCount_0f7a4 4 = .ok (.ldc_w 265, 3) := dqV kk_19 (by decide +kernel)
theorem tb_19 : Cond.constant "java/lang/Integer" 265 1431655765 ∈ TB := tbm (tc4 (List.mem_of_getElem? (i := 9) rfl)) rfl
theorem dJ6_bitCount_0f7a4_7 : decode cJ6_bitCount_0f7a4 7 = .ok (.iand, 1) := dq0 kk_126 (by decide +kernel)
theorem dJ6_bitCount_0f7a4_8 : decode cJ6_bitCount_0f7a4 8 = .ok (.isub, 1) := dq0 kk_100 (by decide +kernel)
theorem dJ6_bitCount_0f7a4_9 : decode cJ6_bitCount_0f7a4 9 = .ok (.istore_n 0, 1) := dq0 kk_59 (by decide +kernel)
theorem dJ6_bitCount_0f7a4_10 : decode cJ6_bitCount_0f7a4 10 = .ok (.iload_n 0, 1) := dq0 kk_26 (by decide +kernel)
theorem dJ6_bitCount_0f7a4_11 : decode cJ6_bitCount_0f7a4 11 = .ok (.ldc_w 266, 3) := dqV kk_19 (by decide +kernel)
theorem tb_20 : Cond.constant "java/lang/Integer" 266 858993459 ∈ TB := tbm (tc4 (List.mem_of_getElem? (i := 10) rfl)) rfl
theorem dJ6_bitCount_0f7a4_14 : decode cJ6_bitCount_0f7a4 14 = .ok (.iand, 1) := dq0 kk_126 (by decide +kernel)
theorem dJ6_bitCount_0f7a4_15 : decode cJ6_bitCount_0f7a4 15 = .ok (.iload_n 0, 1) := dq0 kk_26 (by decide +kernel)
theorem dJ6_bitCount_0f7a4_16 : decode cJ6_bitCount_0f7a4 16 = .ok (.iconst 2, 1) := dq0 kk_5 (by decide +kernel)
theorem dJ6_bitCount_0f7a4_17 : decode cJ6_bitCount_0f7a4 17 = .ok (.iushr, 1) := dq0 kk_124 (by decide +kernel)
theorem dJ6_bitCount_0f7a4_18 : decode cJ6_bitCount_0f7a4 18 = .ok (.ldc_w 266, 3) := dqV kk_19 (by decide +kernel)
theorem dJ6_bitCount_0f7a4_21 : decode cJ6_bitCount_0f7a4 21 = .ok (.iand, 1) := dq0 kk_126 (by decide +kernel)
theorem dJ6_bitCount_0f7a4_22 : decode cJ6_bitCount_0f7a4 22 = .ok (.iadd, 1) := dq0 kk_96 (by decide +kernel)
theorem dJ6_bitCount_0f7a4_23 : decode cJ6_bitCount_0f7a4 23 = .ok (.istore_n 0, 1) := dq0 kk_59 (by decide +kernel)
theorem dJ6_bitCount_0f7a4_24 : decode cJ6_bitCount_0f7a4 24 = .ok (.iload_n 0, 1) := dq0 kk_26 (by decide +kernel)
theorem dJ6_bitCount_0f7a4_25 : decode cJ6_bitCount_0f7a4 25 = .ok (.iload_n 0, 1) := dq0 kk_26 (by decide +kernel)
theorem dJ6_bitCount_0f7a4_26 : decode cJ6_bitCount_0f7a4 26 = .ok (.iconst 4, 1) := dq0 kk_7 (by decide +kernel)
theorem dJ6_bitCount_0f7a4_27 : decode cJ6_bitCount_0f7a4 27 = .ok (.iushr, 1) := dq0 kk_124 (by decide +kernel)
theorem dJ6_bitCount_0f7a4_28 : decode cJ6_bitCount_0f7a4 28 = .ok (.iadd, 1) := dq0 kk_96 (by decide +kernel)
theorem dJ6_bitCount_0f7a4_29 : decode cJ6_bitCount_0f7a4 29 = .ok (.ldc_w 267, 3) := dqV kk_19 (by decide +kernel)
theorem tb_21 : Cond.constant "java/lang/Integer" 267 252645135 ∈ TB := tbm (tc4 (List.mem_of_getElem? (i := 11) rfl)) rfl
theorem dJ6_bitCount_0f7a4_32 : decode cJ6_bitCount_0f7a4 32 = .ok (.iand, 1) := dq0 kk_126 (by decide +kernel)
theorem dJ6_bitCount_0f7a4_33 : decode cJ6_bitCount_0f7a4 33 = .ok (.istore_n 0, 1) := dq0 kk_59 (by decide +kernel)
theorem dJ6_bitCount_0f7a4_34 : decode cJ6_bitCount_0f7a4 34 = .ok (.iload_n 0, 1) := dq0 kk_26 (by decide +kernel)
theorem dJ6_bitCount_0f7a4_35 : decode cJ6_bitCount_0f7a4 35 = .ok (.iload_n 0, 1) := dq0 kk_26 (by decide +kernel)
theorem dJ6_bitCount_0f7a4_36 : decode cJ6_bitCount_0f7a4 36 = .ok (.bipush 8, 2) := dqS kk_16 (by decide +kernel)
theorem dJ6_bitCount_0f7a4_38 : decode cJ6_bitCount_0f7a4 38 = .ok (.iushr, 1) := dq0 kk_124 (by decide +kernel)
theorem dJ6_bitCount_0f7a4_39 : decode cJ6_bitCount_0f7a4 39 = .ok (.iadd, 1) := dq0 kk_96 (by decide +kernel)
theorem dJ6_bitCount_0f7a4_40 : decode cJ6_bitCount_0f7a4 40 = .ok (.istore_n 0, 1) := dq0 kk_59 (by decide +kernel)
theorem dJ6_bitCount_0f7a4_41 : decode cJ6_bitCount_0f7a4 41 = .ok (.iload_n 0, 1) := dq0 kk_26 (by decide +kernel)
theorem dJ6_bitCount_0f7a4_42 : decode cJ6_bitCount_0f7a4 42 = .ok (.iload_n 0, 1) := dq0 kk_26 (by decide +kernel)
theorem dJ6_bitCount_0f7a4_43 : decode cJ6_bitCount_0f7a4 43 = .ok (.bipush 16, 2) := dqS kk_16 (by decide +kernel)
theorem dJ6_bitCount_0f7a4_45 : decode cJ6_bitCount_0f7a4 45 = .ok (.iushr, 1) := dq0 kk_124 (by decide +kernel)
theorem dJ6_bitCount_0f7a4_46 : decode cJ6_bitCount_0f7a4 46 = .ok (.iadd, 1) := dq0 kk_96 (by decide +kernel)
theorem dJ6_bitCount_0f7a4_47 : decode cJ6_bitCount_0f7a4 47 = .ok (.istore_n 0, 1) := dq0 kk_59 (by decide +kernel)
theorem dJ6_bitCount_0f7a4_48 : decode cJ6_bitCount_0f7a4 48 = .ok (.iload_n 0, 1) := dq0 kk_26 (by decide +kernel)
theorem dJ6_bitCount_0f7a4_49 : decode cJ6_bitCount_0f7a4 49 = .ok (.bipush 63, 2) := dqS kk_16 (by decide +kernel)
theorem dJ6_bitCount_0f7a4_51 : decode cJ6_bitCount_0f7a4 51 = .ok (.iand, 1) := dq0 kk_126 (by decide +kernel)
theorem dJ6_bitCount_0f7a4_52 : decode cJ6_bitCount_0f7a4 52 = .ok (.ireturn, 1) := dq0 kk_172 (by decide +kernel)
set_option maxRecDepth 4000 in
theorem s_bitCount {l : Launch} {D : va_G} {B : Nat} {cy : Nat → ClassId} {M : Mem} {x : Int32} : Ci l D B cy yJ6_bitCount_0f7a4 cJ6_bitCount_0f7a4 1 (some .int) 0 0 [.int x] M (fun r M1 => r = bcF x ∧ M1 = M) := by
  refine s_any (by decide) (Nat.le_of_ble_eq_true rfl) ?_
  intro p e s m below meth c ls F hr hlocks w hl
  have F : CallFix p m c cJ6_bitCount_0f7a4 1 s _ TB RJ6 := F
  have hx := F.1
  have hb := F.2.1
  have hl : lv_has ls 1 [(0, .int x)] := hl
  refine lv_iload_n hx hb dJ6_bitCount_0f7a4_0 rfl (lv_at hl 0 rfl) ?_
  refine lv_iload_n hx hb dJ6_bitCount_0f7a4_1 rfl (lv_at hl 0 rfl) ?_
  refine lv_iconst (v := zI 1) hx hb dJ6_bitCount_0f7a4_2 rfl ?_
  refine lv_iushr hx hb dJ6_bitCount_0f7a4_3 rfl ?_
  refine lv_ldcw hx hb F.2.2.2.1 (F.2.2.2.2 _ tb_19) dJ6_bitCount_0f7a4_4 ?_
  refine lv_iand hx hb dJ6_bitCount_0f7a4_7 ?_
  refine lv_isub hx hb dJ6_bitCount_0f7a4_8 ?_
  refine lv_istore_n (lv' := [(0, .int (x - ((((x).toUInt32 >>> (((zI 1)).toUInt32 &&& Int32.toUInt32 31)).toInt32) &&& 1431655765)))]) hx hb dJ6_bitCount_0f7a4_9 rfl hl (by decide) rfl (fun ls hl => ?_)
  refine lv_iload_n hx hb dJ6_bitCount_0f7a4_10 rfl (lv_at hl 0 rfl) ?_
  refine lv_ldcw hx hb F.2.2.2.1 (F.2.2.2.2 _ tb_20) dJ6_bitCount_0f7a4_11 ?_
  refine lv_iand hx hb dJ6_bitCount_0f7a4_14 ?_
  refine lv_iload_n hx hb dJ6_bitCount_0f7a4_15 rfl (lv_at hl 0 rfl) ?_
  refine lv_iconst (v := zI 2) hx hb dJ6_bitCount_0f7a4_16 rfl ?_
  refine lv_iushr hx hb dJ6_bitCount_0f7a4_17 rfl ?_
  refine lv_ldcw hx hb F.2.2.2.1 (F.2.2.2.2 _ tb_20) dJ6_bitCount_0f7a4_18 ?_
  refine lv_iand hx hb dJ6_bitCount_0f7a4_21 ?_
  refine lv_iadd hx hb dJ6_bitCount_0f7a4_22 ?_
  refine lv_istore_n (lv' := [(0, .int (((x - ((((x).toUInt32 >>> (((zI 1)).toUInt32 &&& Int32.toUInt32 31)).toInt32) &&& 1431655765)) &&& 858993459) + (((((x - ((((x).toUInt32 >>> (((zI 1)).toUInt32 &&& Int32.toUInt32 31)).toInt32) &&& 1431655765))).toUInt32 >>> (((zI 2)).toUInt32 &&& Int32.toUInt32 31)).toInt32) &&& 858993459)))]) hx hb dJ6_bitCount_0f7a4_23 rfl hl (by decide) rfl (fun ls hl => ?_)
  refine lv_iload_n hx hb dJ6_bitCount_0f7a4_24 rfl (lv_at hl 0 rfl) ?_
  refine lv_iload_n hx hb dJ6_bitCount_0f7a4_25 rfl (lv_at hl 0 rfl) ?_
  refine lv_iconst (v := zI 4) hx hb dJ6_bitCount_0f7a4_26 rfl ?_
  refine lv_iushr hx hb dJ6_bitCount_0f7a4_27 rfl ?_
  refine lv_iadd hx hb dJ6_bitCount_0f7a4_28 ?_
  refine lv_ldcw hx hb F.2.2.2.1 (F.2.2.2.2 _ tb_21) dJ6_bitCount_0f7a4_29 ?_
  refine lv_iand hx hb dJ6_bitCount_0f7a4_32 ?_
  refine lv_istore_n (lv' := [(0, .int (((((x - ((((x).toUInt32 >>> (((zI 1)).toUInt32 &&& Int32.toUInt32 31)).toInt32) &&& 1431655765)) &&& 858993459) + (((((x - ((((x).toUInt32 >>> (((zI 1)).toUInt32 &&& Int32.toUInt32 31)).toInt32) &&& 1431655765))).toUInt32 >>> (((zI 2)).toUInt32 &&& Int32.toUInt32 31)).toInt32) &&& 858993459)) + ((((((x - ((((x).toUInt32 >>> (((zI 1)).toUInt32 &&& Int32.toUInt32 31)).toInt32) &&& 1431655765)) &&& 858993459) + (((((x - ((((x).toUInt32 >>> (((zI 1)).toUInt32 &&& Int32.toUInt32 31)).toInt32) &&& 1431655765))).toUInt32 >>> (((zI 2)).toUInt32 &&& Int32.toUInt32 31)).toInt32) &&& 858993459))).toUInt32 >>> (((zI 4)).toUInt32 &&& Int32.toUInt32 31)).toInt32)) &&& 252645135))]) hx hb dJ6_bitCount_0f7a4_33 rfl hl (by decide) rfl (fun ls hl => ?_)
  refine lv_iload_n hx hb dJ6_bitCount_0f7a4_34 rfl (lv_at hl 0 rfl) ?_
  refine lv_iload_n hx hb dJ6_bitCount_0f7a4_35 rfl (lv_at hl 0 rfl) ?_
  refine lv_bipush (v := zI 8) hx hb dJ6_bitCount_0f7a4_36 (by decide) ?_
  refine lv_iushr hx hb dJ6_bitCount_0f7a4_38 rfl ?_
  refine lv_iadd hx hb dJ6_bitCount_0f7a4_39 ?_
  refine lv_istore_n (lv' := [(0, .int ((((((x - ((((x).toUInt32 >>> (((zI 1)).toUInt32 &&& Int32.toUInt32 31)).toInt32) &&& 1431655765)) &&& 858993459) + (((((x - ((((x).toUInt32 >>> (((zI 1)).toUInt32 &&& Int32.toUInt32 31)).toInt32) &&& 1431655765))).toUInt32 >>> (((zI 2)).toUInt32 &&& Int32.toUInt32 31)).toInt32) &&& 858993459)) + ((((((x - ((((x).toUInt32 >>> (((zI 1)).toUInt32 &&& Int32.toUInt32 31)).toInt32) &&& 1431655765)) &&& 858993459) + (((((x - ((((x).toUInt32 >>> (((zI 1)).toUInt32 &&& Int32.toUInt32 31)).toInt32) &&& 1431655765))).toUInt32 >>> (((zI 2)).toUInt32 &&& Int32.toUInt32 31)).toInt32) &&& 858993459))).toUInt32 >>> (((zI 4)).toUInt32 &&& Int32.toUInt32 31)).toInt32)) &&& 252645135) + ((((((((x - ((((x).toUInt32 >>> (((zI 1)).toUInt32 &&& Int32.toUInt32 31)).toInt32) &&& 1431655765)) &&& 858993459) + (((((x - ((((x).toUInt32 >>> (((zI 1)).toUInt32 &&& Int32.toUInt32 31)).toInt32) &&& 1431655765))).toUInt32 >>> (((zI 2)).toUInt32 &&& Int32.toUInt32 31)).toInt32) &&& 858993459)) + ((((((x - ((((x).toUInt32 >>> (((zI 1)).toUInt32 &&& Int32.toUInt32 31)).toInt32) &&& 1431655765)) &&& 858993459) + (((((x - ((((x).toUInt32 >>> (((zI 1)).toUInt32 &&& Int32.toUInt32 31)).toInt32) &&& 1431655765))).toUInt32 >>> (((zI 2)).toUInt32 &&& Int32.toUInt32 31)).toInt32) &&& 858993459))).toUInt32 >>> (((zI 4)).toUInt32 &&& Int32.toUInt32 31)).toInt32)) &&& 252645135)).toUInt32 >>> (((zI 8)).toUInt32 &&& Int32.toUInt32 31)).toInt32)))]) hx hb dJ6_bitCount_0f7a4_40 rfl hl (by decide) rfl (fun ls hl => ?_)
  refine lv_iload_n hx hb dJ6_bitCount_0f7a4_41 rfl (lv_at hl 0 rfl) ?_
  refine lv_iload_n hx hb dJ6_bitCount_0f7a4_42 rfl (lv_at hl 0 rfl) ?_
  refine lv_bipush (v := zI 16) hx hb dJ6_bitCount_0f7a4_43 (by decide) ?_
  refine lv_iushr hx hb dJ6_bitCount_0f7a4_45 rfl ?_
  refine lv_iadd hx hb dJ6_bitCount_0f7a4_46 ?_
  refine lv_istore_n (lv' := [(0, .int (((((((x - ((((x).toUInt32 >>> (((zI 1)).toUInt32 &&& Int32.toUInt32 31)).toInt32) &&& 1431655765)) &&& 858993459) + (((((x - ((((x).toUInt32 >>> (((zI 1)).toUInt32 &&& Int32.toUInt32 31)).toInt32) &&& 1431655765))).toUInt32 >>> (((zI 2)).toUInt32 &&& Int32.toUInt32 31)).toInt32) &&& 858993459)) + ((((((x - ((((x).toUInt32 >>> (((zI 1)).toUInt32 &&& Int32.toUInt32 31)).toInt32) &&& 1431655765)) &&& 858993459) + (((((x - ((((x).toUInt32 >>> (((zI 1)).toUInt32 &&& Int32.toUInt32 31)).toInt32) &&& 1431655765))).toUInt32 >>> (((zI 2)).toUInt32 &&& Int32.toUInt32 31)).toInt32) &&& 858993459))).toUInt32 >>> (((zI 4)).toUInt32 &&& Int32.toUInt32 31)).toInt32)) &&& 252645135) + ((((((((x - ((((x).toUInt32 >>> (((zI 1)).toUInt32 &&& Int32.toUInt32 31)).toInt32) &&& 1431655765)) &&& 858993459) + (((((x - ((((x).toUInt32 >>> (((zI 1)).toUInt32 &&& Int32.toUInt32 31)).toInt32) &&& 1431655765))).toUInt32 >>> (((zI 2)).toUInt32 &&& Int32.toUInt32 31)).toInt32) &&& 858993459)) + ((((((x - ((((x).toUInt32 >>> (((zI 1)).toUInt32 &&& Int32.toUInt32 31)).toInt32) &&& 1431655765)) &&& 858993459) + (((((x - ((((x).toUInt32 >>> (((zI 1)).toUInt32 &&& Int32.toUInt32 31)).toInt32) &&& 1431655765))).toUInt32 >>> (((zI 2)).toUInt32 &&& Int32.toUInt32 31)).toInt32) &&& 858993459))).toUInt32 >>> (((zI 4)).toUInt32 &&& Int32.toUInt32 31)).toInt32)) &&& 252645135)).toUInt32 >>> (((zI 8)).toUInt32 &&& Int32.toUInt32 31)).toInt32)) + (((((((((x - ((((x).toUInt32 >>> (((zI 1)).toUInt32 &&& Int32.toUInt32 31)).toInt32) &&& 1431655765)) &&& 858993459) + (((((x - ((((x).toUInt32 >>> (((zI 1)).toUInt32 &&& Int32.toUInt32 31)).toInt32) &&& 1431655765))).toUInt32 >>> (((zI 2)).toUInt32 &&& Int32.toUInt32 31)).toInt32) &&& 858993459)) + ((((((x - ((((x).toUInt32 >>> (((zI 1)).toUInt32 &&& Int32.toUInt32 31)).toInt32) &&& 1431655765)) &&& 858993459) + (((((x - ((((x).toUInt32 >>> (((zI 1)).toUInt32 &&& Int32.toUInt32 31)).toInt32) &&& 1431655765))).toUInt32 >>> (((zI 2)).toUInt32 &&& Int32.toUInt32 31)).toInt32) &&& 858993459))).toUInt32 >>> (((zI 4)).toUInt32 &&& Int32.toUInt32 31)).toInt32)) &&& 252645135) + ((((((((x - ((((x).toUInt32 >>> (((zI 1)).toUInt32 &&& Int32.toUInt32 31)).toInt32) &&& 1431655765)) &&& 858993459) + (((((x - ((((x).toUInt32 >>> (((zI 1)).toUInt32 &&& Int32.toUInt32 31)).toInt32) &&& 1431655765))).toUInt32 >>> (((zI 2)).toUInt32 &&& Int32.toUInt32 31)).toInt32) &&& 858993459)) + ((((((x - ((((x).toUInt32 >>> (((zI 1)).toUInt32 &&& Int32.toUInt32 31)).toInt32) &&& 1431655765)) &&& 858993459) + (((((x - ((((x).toUInt32 >>> (((zI 1)).toUInt32 &&& Int32.toUInt32 31)).toInt32) &&& 1431655765))).toUInt32 >>> (((zI 2)).toUInt32 &&& Int32.toUInt32 31)).toInt32) &&& 858993459))).toUInt32 >>> (((zI 4)).toUInt32 &&& Int32.toUInt32 31)).toInt32)) &&& 252645135)).toUInt32 >>> (((zI 8)).toUInt32 &&& Int32.toUInt32 31)).toInt32))).toUInt32 >>> (((zI 16)).toUInt32 &&& Int32.toUInt32 31)).toInt32)))]) hx hb dJ6_bitCount_0f7a4_47 rfl hl (by decide) rfl (fun ls hl => ?_)
  refine lv_iload_n hx hb dJ6_bitCount_0f7a4_48 rfl (lv_at hl 0 rfl) ?_
  refine lv_bipush (v := zI 63) hx hb dJ6_bitCount_0f7a4_49 (by decide) ?_
  refine lv_iand hx hb dJ6_bitCount_0f7a4_51 ?_
  exact e_i F w hr hlocks ⟨rfl, rfl⟩ dJ6_bitCount_0f7a4_52
theorem s_bitCountN {l : Launch} {D : va_G} {B : Nat} {cy : Nat → ClassId} {M : Mem} {m : Nat} (hm : m < 4096) : Ci l D B cy yJ6_bitCount_0f7a4 cJ6_bitCount_0f7a4 1 (some .int) 0 0 [.int (zI (m : Int))] M (fun r M1 => r = zI ((pop m : Nat) : Int) ∧ M1 = M) := by
  rw [← bc_pop hm]
  exact s_bitCount
theorem dX11_lowest_0 : decode cX11_lowest 0 = .ok (.iload_n 0, 1) := dq0 kk_26 (by decide +kernel)
theorem dX11_lowest_1 : decode cX11_lowest 1 = .ok (.ifCond .ne 7, 3) := dqT kk_154 (by decide +kernel)
theorem dX11_lowest_8 : decode cX11_lowest 8 = .ok (.iload_n 0, 1) := dq0 kk_26 (by decide +kernel)
theorem dX11_lowest_9 : decode cX11_lowest 9 = .ok (.iload_n 0, 1) := dq0 kk_26 (by decide +kernel)
theorem dX11_lowest_10 : decode cX11_lowest 10 = .ok (.ineg, 1) := dq0 kk_116 (by decide +kernel)
theorem dX11_lowest_11 : decode cX11_lowest 11 = .ok (.iand, 1) := dq0 kk_126 (by decide +kernel)
theorem dX11_lowest_12 : decode cX11_lowest 12 = .ok (.iconst 1, 1) := dq0 kk_4 (by decide +kernel)
theorem dX11_lowest_13 : decode cX11_lowest 13 = .ok (.isub, 1) := dq0 kk_100 (by decide +kernel)
theorem dX11_lowest_14 : decode cX11_lowest 14 = .ok (.invokestatic 234, 3) := dqV kk_184 (by decide +kernel)
theorem tk_J6_bitCount_0f7a4 : Cond.code yJ6_bitCount_0f7a4 cJ6_bitCount_0f7a4 1 (some .int) ∈ TB := tbm (tc4 (List.mem_of_getElem? (i := 8) rfl)) rfl
theorem gc_J6_bitCount_0f7a4 : GoodIn TB (cw yJ6_bitCount_0f7a4 cJ6_bitCount_0f7a4 1 (some .int)) := goodIn_c2 tk_J6_bitCount_0f7a4
theorem tb_22 : Cond.methodLink "ToneLines" 234 yJ6_bitCount_0f7a4 ∈ TB := tbm (tc4 (List.mem_of_getElem? (i := 18) rfl)) rfl
theorem tb_23 : Cond.static yJ6_bitCount_0f7a4 ∈ TB := tbm (tc4 (List.mem_of_getElem? (i := 7) rfl)) rfl
theorem tb_24 : Cond.initialized "java/lang/Integer" ∈ TB := tbm (tc1 (List.mem_of_getElem? (i := 22) rfl)) rfl
theorem gs_X11_234 : GoodIn TB (va_wsS RX11 234 yJ6_bitCount_0f7a4 (cw yJ6_bitCount_0f7a4 cJ6_bitCount_0f7a4 1 (some .int))) := goodIn_3 tb_22 tb_23 tb_24 gc_J6_bitCount_0f7a4
theorem hs_J6_bitCount_0f7a4 : yJ6_bitCount_0f7a4.cls ≠ "java/lang/invoke/MethodHandle" ∧ yJ6_bitCount_0f7a4.cls ≠ "java/lang/invoke/VarHandle" ∧ (parseMethodDescriptor yJ6_bitCount_0f7a4.desc).map (fun d => d.parameters.length) = some 1 := by decide +kernel
theorem dX11_lowest_17 : decode cX11_lowest 17 = .ok (.ireturn, 1) := dq0 kk_172 (by decide +kernel)
theorem dX11_lowest_4 : decode cX11_lowest 4 = .ok (.iconst (-1), 1) := dq0 kk_2 (by decide +kernel)
theorem dX11_lowest_5 : decode cX11_lowest 5 = .ok (.goto 12, 3) := dqT kk_167 (by decide +kernel)
set_option maxRecDepth 4000 in
theorem s_X11_lowest {l : Launch} {D : va_G} {B : Nat} {cy : Nat → ClassId} {M : Mem} {m9 : Nat} (hm : m9 < 4096) : Ci l D B cy yX11_lowest cX11_lowest 1 (some .int) 1 20 [.int (zI (m9 : Int))] M (fun r M1 => r = zI (lowI m9) ∧ M1 = M) := by
  refine s_any (by decide) (Nat.le_of_ble_eq_true rfl) ?_
  intro p e s m below meth c ls F hr hlocks w hl
  have F : CallFix p m c cX11_lowest 1 s _ TB RX11 := F
  have hx := F.1
  have hb := F.2.1
  have hl : lv_has ls 1 [(0, .int (zI (m9 : Int)))] := hl
  refine lv_iload_n hx hb dX11_lowest_0 rfl (lv_at hl 0 rfl) ?_
  refine z_if_ne (tgt := 8) hx hb (by omega) dX11_lowest_1 (by decide) (fun c1 => ?_) (fun c1 => ?_)
  · refine lv_iload_n hx hb dX11_lowest_8 rfl (lv_at hl 0 rfl) ?_
    refine lv_iload_n hx hb dX11_lowest_9 rfl (lv_at hl 0 rfl) ?_
    refine lv_ineg hx hb dX11_lowest_10 ?_
    refine lv_iand hx hb dX11_lowest_11 ?_
    refine lv_iconst (v := zI 1) hx hb dX11_lowest_12 rfl ?_
    refine lv_isub hx hb dX11_lowest_13 ?_
    refine x_Si F w (As := [.int (((zI (m9 : Int)) &&& (-(zI (m9 : Int)))) - (zI 1))]) (rest := []) (s_bitCount) gs_X11_234 hs_J6_bitCount_0f7a4 ⟨(Nat.le_of_ble_eq_true rfl), (Nat.le_of_ble_eq_true rfl)⟩ hl.1 rfl (Nat.le_of_ble_eq_true rfl) ⟨Nat.zero_le _, Nat.zero_le _⟩ dX11_lowest_14 (fun H locs w => ?_)
    exact e_i F w hr hlocks ⟨low_bc9 hm (by omega), rfl⟩ dX11_lowest_17
  · refine lv_iconst (v := zI (-1)) hx hb dX11_lowest_4 rfl ?_
    refine lv_goto (tgt := 17) hx hb dX11_lowest_5 (by decide) ?_
    exact e_i F w hr hlocks ⟨by rw [lowI_0 (by omega)], rfl⟩ dX11_lowest_17
theorem dX11_highest_3 : decode cX11_highest 3 = .ok (.iload_n 1, 1) := dq0 kk_27 (by decide +kernel)
theorem dX11_highest_4 : decode cX11_highest 4 = .ok (.ifCond .lt 19, 3) := dqT kk_155 (by decide +kernel)
theorem dX11_highest_7 : decode cX11_highest 7 = .ok (.iload_n 0, 1) := dq0 kk_26 (by decide +kernel)
theorem dX11_highest_8 : decode cX11_highest 8 = .ok (.iload_n 1, 1) := dq0 kk_27 (by decide +kernel)
theorem dX11_highest_9 : decode cX11_highest 9 = .ok (.ishr, 1) := dq0 kk_122 (by decide +kernel)
theorem dX11_highest_10 : decode cX11_highest 10 = .ok (.iconst 1, 1) := dq0 kk_4 (by decide +kernel)
theorem dX11_highest_11 : decode cX11_highest 11 = .ok (.iand, 1) := dq0 kk_126 (by decide +kernel)
theorem dX11_highest_12 : decode cX11_highest 12 = .ok (.ifCond .eq 5, 3) := dqT kk_153 (by decide +kernel)
theorem dX11_highest_17 : decode cX11_highest 17 = .ok (.iinc 1 (-1), 3) := dqI kk_132 (by decide +kernel)
theorem dX11_highest_20 : decode cX11_highest 20 = .ok (.goto (-17), 3) := dqT kk_167 (by decide +kernel)
theorem dX11_highest_15 : decode cX11_highest 15 = .ok (.iload_n 1, 1) := dq0 kk_27 (by decide +kernel)
theorem dX11_highest_16 : decode cX11_highest 16 = .ok (.ireturn, 1) := dq0 kk_172 (by decide +kernel)
set_option maxRecDepth 4000 in
theorem lp_X11_highest {p : Program} {l : Launch} {e : Env} {s : State} {m : MethodId} {args : Array Value} {below : List Frame} {meth : Method} {c : Code} {D : va_G} {B : Nat} {cy : Nat → ClassId}  {M : Mem} {R : Room} {m9 : Nat} (F : CallFix p m c cX11_highest 2 s args TB RX11) (hr : meth.sig.returnType = (some .int)) (hlocks : meth.locks = false) (hR1 : 0 ≤ R.frames) (hR2 : 0 ≤ R.locals) (hm : m9 < 4096) (kk : ∀ (H : Heap) (locs : List Loc) (ls : Array Slot), (∀ i, m9.testBit i = false) → Wd D B cy s s.heap M H locs → lv_has ls 2 [(0, .int (zI (m9 : Int)))] → W p l e R s m args below meth c H locs 0 0 (MQ below (va_Qi (fun r M1 => r = zI (higI m9) ∧ M1 = M) (fun M2 t2 => Wp D B cy M2 t2) (fun q2 => B ≤ q2)) args s 0 0 (fun q2 => B ≤ q2)) (F0 m 23 ls [])) : ∀ (k : Nat), (k ≤ 12) → (∀ i, k ≤ i → m9.testBit i = false) → ∀ (H : Heap) (locs : List Loc) (ls : Array Slot), Wd D B cy s s.heap M H locs → lv_has ls 2 [(1, .int (zI ((k : Int) - 1))), (0, .int (zI (m9 : Int)))] → W p l e R s m args below meth c H locs 0 0 (MQ below (va_Qi (fun r M1 => r = zI (higI m9) ∧ M1 = M) (fun M2 t2 => Wp D B cy M2 t2) (fun q2 => B ≤ q2)) args s 0 0 (fun q2 => B ≤ q2)) (F0 m 3 ls []) := by
  have hx := F.1
  have hb := F.2.1
  intro k
  induction k with
  | zero =>
    intro i0 i1 H locs ls w hl
    have hl : lv_has ls 2 [(1, .int (zI (-1))), (0, .int (zI (m9 : Int)))] := hl
    refine lv_iload_n hx hb dX11_highest_3 rfl (lv_at hl 0 rfl) ?_
    refine z_if_lt (tgt := 23) hx hb (by omega) dX11_highest_4 (by decide) (fun c1 => ?_) (fun c1 => False.elim (by omega))
    exact kk _ _ ls (fun i => i1 i (by omega)) w (lv_sub hl [1] rfl)
  | succ k ih =>
    intro i0 i1 H locs ls w hl
    have hl : lv_has ls 2 [(1, .int (zI (k : Int))), (0, .int (zI (m9 : Int)))] := by rw [show ((k + 1 : Nat) : Int) - 1 = (k : Int) by omega] at hl; exact hl
    refine lv_iload_n hx hb dX11_highest_3 rfl (lv_at hl 0 rfl) ?_
    refine z_if_lt (tgt := 23) hx hb (by omega) dX11_highest_4 (by decide) (fun c1 => False.elim (by omega)) (fun c1 => ?_)
    refine lv_iload_n hx hb dX11_highest_7 rfl (lv_at hl 1 rfl) ?_
    refine lv_iload_n hx hb dX11_highest_8 rfl (lv_at hl 0 rfl) ?_
    refine lv_ishr hx hb dX11_highest_9 ?_
    refine r_val (v := (zI (((m9 >>> k) : Nat) : Int))) (zb_shr (a := m9) (n := k) (by omega) (by omega)) ?_
    have q2 := shr_le m9 k
    refine lv_iconst (v := zI 1) hx hb dX11_highest_10 rfl ?_
    refine lv_iand hx hb dX11_highest_11 ?_
    refine r_val (v := (zI (((tb m9 k) : Nat) : Int))) zb_tst ?_
    have q3 := tb01 m9 k
    refine z_if_eq (tgt := 17) hx hb (by omega) dX11_highest_12 (by decide) (fun c4 => ?_) (fun c4 => ?_)
    · refine z_iinc (v := ((k : Int) - 1)) (lv' := [(1, .int (zI ((k : Int) - 1))), (0, .int (zI (m9 : Int)))]) hx hb dX11_highest_17 hl (k := 0) rfl (by omega) (by decide) rfl (fun ls hl => ?_)
      refine lv_goto (tgt := 3) hx hb dX11_highest_20 (by decide) ?_
      exact ih (by omega) (fun i hi => by by_cases h9 : i = k; (subst h9; exact tbz.mp (by omega)); exact i1 i (by omega)) _ _ ls w (lv_sub hl [0, 1] rfl)
    · refine lv_iload_n hx hb dX11_highest_15 rfl (lv_at hl 0 rfl) ?_
      exact e_i F w hr hlocks ⟨by rw [higI_1 hm (by omega) (tbo.mp (by omega)) i1], rfl⟩ dX11_highest_16
theorem dX11_highest_0 : decode cX11_highest 0 = .ok (.bipush 11, 2) := dqS kk_16 (by decide +kernel)
theorem dX11_highest_2 : decode cX11_highest 2 = .ok (.istore_n 1, 1) := dq0 kk_60 (by decide +kernel)
theorem dX11_highest_23 : decode cX11_highest 23 = .ok (.iconst (-1), 1) := dq0 kk_2 (by decide +kernel)
theorem dX11_highest_24 : decode cX11_highest 24 = .ok (.ireturn, 1) := dq0 kk_172 (by decide +kernel)
set_option maxRecDepth 4000 in
theorem s_X11_highest {l : Launch} {D : va_G} {B : Nat} {cy : Nat → ClassId} {M : Mem} {m9 : Nat} (hm : m9 < 4096) : Ci l D B cy yX11_highest cX11_highest 2 (some .int) 0 0 [.int (zI (m9 : Int))] M (fun r M1 => r = zI (higI m9) ∧ M1 = M) := by
  refine s_any (by decide) (Nat.le_of_ble_eq_true rfl) ?_
  intro p e s m below meth c ls F hr hlocks w hl
  have F : CallFix p m c cX11_highest 2 s _ TB RX11 := F
  have hx := F.1
  have hb := F.2.1
  have hl : lv_has ls 2 [(0, .int (zI (m9 : Int)))] := hl
  refine lv_bipush (v := zI 11) hx hb dX11_highest_0 (by decide) ?_
  refine lv_istore_n (lv' := [(1, .int (zI 11)), (0, .int (zI (m9 : Int)))]) hx hb dX11_highest_2 rfl hl (by decide) rfl (fun ls hl => ?_)
  refine lp_X11_highest F hr hlocks (Nat.le_of_ble_eq_true rfl) (Nat.le_of_ble_eq_true rfl) hm (fun H locs ls x0 w hl => ?_) 12 (by omega) (fun i hi => hig_out hm hi) _ _ ls w (lv_sub hl [0, 1] rfl)
  refine lv_iconst (v := zI (-1)) hx hb dX11_highest_23 rfl ?_
  exact e_i F w hr hlocks ⟨by rw [higI_0 x0], rfl⟩ dX11_highest_24
theorem dX9_lineCount_4 : decode cX9_lineCount 4 = .ok (.iload_n 2, 1) := dq0 kk_28 (by decide +kernel)
theorem dX9_lineCount_5 : decode cX9_lineCount 5 = .ok (.aload_n 0, 1) := dq0 kk_42 (by decide +kernel)
theorem dX9_lineCount_6 : decode cX9_lineCount 6 = .ok (.getfield 9, 3) := dqV kk_180 (by decide +kernel)
theorem dX9_lineCount_9 : decode cX9_lineCount 9 = .ok (.if_icmp .ge 21, 3) := dqT kk_162 (by decide +kernel)
theorem dX9_lineCount_12 : decode cX9_lineCount 12 = .ok (.iload_n 1, 1) := dq0 kk_27 (by decide +kernel)
theorem dX9_lineCount_13 : decode cX9_lineCount 13 = .ok (.aload_n 0, 1) := dq0 kk_42 (by decide +kernel)
theorem dX9_lineCount_14 : decode cX9_lineCount 14 = .ok (.getfield 28, 3) := dqV kk_180 (by decide +kernel)
theorem dX9_lineCount_17 : decode cX9_lineCount 17 = .ok (.iload_n 2, 1) := dq0 kk_28 (by decide +kernel)
theorem dX9_lineCount_18 : decode cX9_lineCount 18 = .ok (.iaload, 1) := dq0 kk_46 (by decide +kernel)
theorem dX9_lineCount_19 : decode cX9_lineCount 19 = .ok (.invokestatic 60, 3) := dqV kk_184 (by decide +kernel)
theorem tb_25 : Cond.methodLink "ToneLines$Word" 60 yJ6_bitCount_0f7a4 ∈ TB := tbm (tc4 (List.mem_of_getElem? (i := 129) rfl)) rfl
theorem gs_X9_60 : GoodIn TB (va_wsS RX9 60 yJ6_bitCount_0f7a4 (cw yJ6_bitCount_0f7a4 cJ6_bitCount_0f7a4 1 (some .int))) := goodIn_3 tb_25 tb_23 tb_24 gc_J6_bitCount_0f7a4
theorem dX9_lineCount_22 : decode cX9_lineCount 22 = .ok (.iadd, 1) := dq0 kk_96 (by decide +kernel)
theorem dX9_lineCount_23 : decode cX9_lineCount 23 = .ok (.istore_n 1, 1) := dq0 kk_60 (by decide +kernel)
theorem dX9_lineCount_24 : decode cX9_lineCount 24 = .ok (.iinc 2 1, 3) := dqI kk_132 (by decide +kernel)
theorem dX9_lineCount_27 : decode cX9_lineCount 27 = .ok (.goto (-23), 3) := dqT kk_167 (by decide +kernel)
set_option maxRecDepth 4000 in
theorem lp_X9_lineCount {p : Program} {l : Launch} {e : Env} {s : State} {m : MethodId} {args : Array Value} {below : List Frame} {meth : Method} {c : Code} {D : va_G} {B : Nat} {cy : Nat → ClassId} {H0 : Heap} {Q : State → Prop} {M : Mem} {R : Room} {a n q hv ed : Nat} {K L : Nat → Nat}  (F : CallFix p m c cX9_lineCount 3 s args TB RX9) (hR1 : 1 ≤ R.frames) (hR2 : 20 ≤ R.locals) (hk : kd a = (9, 0, 0)) (hW : isW M a n q hv ed K L) (hwf : wf n q hv ed K L) (kk : ∀ (t : Nat) (H : Heap) (locs : List Loc) (ls : Array Slot), (t = n) → Wd D B cy s H0 M H locs → lv_has ls 3 [(2, .int (zI (t : Int))), (1, .int (zI (((sumP (fun t => pop (L t)) t) : Nat) : Int))), (0, .ref (B + a))] → W p l e R s m args below meth c H locs 0 0 Q (F0 m 30 ls [])) : ∀ (f : Nat) (t : Nat), (t ≤ n) → (n ≤ t + f) → ∀ (H : Heap) (locs : List Loc) (ls : Array Slot), Wd D B cy s H0 M H locs → lv_has ls 3 [(2, .int (zI (t : Int))), (1, .int (zI (((sumP (fun t => pop (L t)) t) : Nat) : Int))), (0, .ref (B + a))] → W p l e R s m args below meth c H locs 0 0 Q (F0 m 4 ls []) := by
  have hx := F.1
  have hb := F.2.1
  have hwf0 := hwf
  obtain ⟨hn, hq, hhv, hed, hKL⟩ := hwf0
  intro f
  induction f with
  | zero =>
    intro t i0 hf H locs ls w hl
    refine lv_iload_n hx hb dX9_lineCount_4 rfl (lv_at hl 0 rfl) ?_
    refine lv_aload_n hx hb dX9_lineCount_5 rfl (lv_at hl 2 rfl) ?_
    refine f_9_0 F w (a := a) hk tb_0 dX9_lineCount_6 ?_
    refine r_val (v := (zI (n : Int))) (hW.1) ?_
    refine z_icmp_ge (tgt := 30) hx hb (by omega) (by omega) dX9_lineCount_9 (by decide) (fun c1 => ?_) (fun c1 => False.elim (by omega))
    exact kk t _ _ ls (by omega) w (lv_sub hl [0, 1, 2] rfl)
  | succ f ih =>
    intro t i0 hf H locs ls w hl
    refine lv_iload_n hx hb dX9_lineCount_4 rfl (lv_at hl 0 rfl) ?_
    refine lv_aload_n hx hb dX9_lineCount_5 rfl (lv_at hl 2 rfl) ?_
    refine f_9_0 F w (a := a) hk tb_0 dX9_lineCount_6 ?_
    refine r_val (v := (zI (n : Int))) (hW.1) ?_
    refine z_icmp_ge (tgt := 30) hx hb (by omega) (by omega) dX9_lineCount_9 (by decide) (fun c1 => ?_) (fun c1 => ?_)
    · exact kk t _ _ ls (by omega) w (lv_sub hl [0, 1, 2] rfl)
    · refine lv_iload_n hx hb dX9_lineCount_12 rfl (lv_at hl 1 rfl) ?_
      refine lv_aload_n hx hb dX9_lineCount_13 rfl (lv_at hl 2 rfl) ?_
      refine f_9_5 F w (a := a) hk tb_6 dX9_lineCount_14 ?_
      refine lv_iload_n hx hb dX9_lineCount_17 rfl (lv_at hl 0 rfl) ?_
      refine g_iald F w (a := (a + 2)) (kd_w2 hk) (j := t) (ix_n (by omega)) (by omega) dX9_lineCount_18 ?_
      have hL1 := (hKL t (by omega)).2
      refine r_val (v := (zI (((L t) : Nat) : Int))) (hW.2.2.2.2.2 t (by omega)) ?_
      refine x_Si F w (As := [.int (zI (((L t) : Nat) : Int))]) (rest := [.int (zI (((sumP (fun t => pop (L t)) t) : Nat) : Int))]) (s_bitCountN (m := (L t)) (by omega)) gs_X9_60 hs_J6_bitCount_0f7a4 ⟨(by omega), (by omega)⟩ hl.1 rfl (Nat.le_of_ble_eq_true rfl) ⟨Nat.zero_le _, Nat.zero_le _⟩ dX9_lineCount_19 (fun H locs w => ?_)
      have hp1 := (pop_le (L t) (by omega)).1
      refine z_iadd (z := ((((sumP (fun t => pop (L t)) t) + (pop (L t))) : Nat) : Int)) hx hb dX9_lineCount_22 (by omega) ?_
      refine r_val (v := (zI (((sumP (fun t => pop (L t)) (t + 1)) : Nat) : Int))) rfl ?_
      refine lv_istore_n (lv' := [(1, .int (zI (((sumP (fun t => pop (L t)) (t + 1)) : Nat) : Int))), (2, .int (zI (t : Int))), (0, .ref (B + a))]) hx hb dX9_lineCount_23 rfl hl (by decide) rfl (fun ls hl => ?_)
      refine z_iinc (v := (((t + 1) : Nat) : Int)) (lv' := [(2, .int (zI (((t + 1) : Nat) : Int))), (1, .int (zI (((sumP (fun t => pop (L t)) (t + 1)) : Nat) : Int))), (0, .ref (B + a))]) hx hb dX9_lineCount_24 hl (k := 1) rfl (by omega) (by decide) rfl (fun ls hl => ?_)
      refine lv_goto (tgt := 4) hx hb dX9_lineCount_27 (by decide) ?_
      exact ih (t + 1) (by omega) (by omega) _ _ ls w (lv_sub hl [0, 1, 2] rfl)
theorem dX9_lineCount_0 : decode cX9_lineCount 0 = .ok (.iconst 0, 1) := dq0 kk_3 (by decide +kernel)
theorem dX9_lineCount_1 : decode cX9_lineCount 1 = .ok (.istore_n 1, 1) := dq0 kk_60 (by decide +kernel)
theorem dX9_lineCount_2 : decode cX9_lineCount 2 = .ok (.iconst 0, 1) := dq0 kk_3 (by decide +kernel)
theorem dX9_lineCount_3 : decode cX9_lineCount 3 = .ok (.istore_n 2, 1) := dq0 kk_61 (by decide +kernel)
theorem dX9_lineCount_30 : decode cX9_lineCount 30 = .ok (.iload_n 1, 1) := dq0 kk_27 (by decide +kernel)
theorem dX9_lineCount_31 : decode cX9_lineCount 31 = .ok (.ireturn, 1) := dq0 kk_172 (by decide +kernel)
set_option maxRecDepth 4000 in
theorem s_X9_lineCount {l : Launch} {D : va_G} {B : Nat} {cy : Nat → ClassId} {M : Mem} {a n q hv ed : Nat} {K L : Nat → Nat} (hk : kd a = (9, 0, 0)) (hW : isW M a n q hv ed K L) (hwf : wf n q hv ed K L)  : Ci l D B cy yX9_lineCount cX9_lineCount 3 (some .int) 1 20 [.ref (B + a)] M (fun r M1 => r = zI (((sumP (fun t => pop (L t)) n) : Nat) : Int) ∧ M1 = M) := by
  refine s_any (by decide) (Nat.le_of_ble_eq_true rfl) ?_
  intro p e s m below meth c ls F hr hlocks w hl
  have F : CallFix p m c cX9_lineCount 3 s _ TB RX9 := F
  have hx := F.1
  have hb := F.2.1
  have hl : lv_has ls 3 [(0, .ref (B + a))] := hl
  have hwf0 := hwf
  obtain ⟨hn, hq, hhv, hed, hKL⟩ := hwf0
  refine lv_iconst (v := zI 0) hx hb dX9_lineCount_0 rfl ?_
  refine lv_istore_n (lv' := [(1, .int (zI 0)), (0, .ref (B + a))]) hx hb dX9_lineCount_1 rfl hl (by decide) rfl (fun ls hl => ?_)
  refine lv_iconst (v := zI 0) hx hb dX9_lineCount_2 rfl ?_
  refine lv_istore_n (lv' := [(2, .int (zI 0)), (1, .int (zI 0)), (0, .ref (B + a))]) hx hb dX9_lineCount_3 rfl hl (by decide) rfl (fun ls hl => ?_)
  refine lp_X9_lineCount  F (Nat.le_of_ble_eq_true rfl) (Nat.le_of_ble_eq_true rfl) hk hW hwf (fun t H locs ls x0 w hl => ?_) n 0 (by omega) (by omega) _ _ ls w (lv_sub hl [0, 1, 2] rfl)
  subst x0
  refine lv_iload_n hx hb dX9_lineCount_30 rfl (lv_at hl 1 rfl) ?_
  exact e_i F w hr hlocks ⟨rfl, rfl⟩ dX9_lineCount_31
theorem dX9_floating_4 : decode cX9_floating 4 = .ok (.iload_n 2, 1) := dq0 kk_28 (by decide +kernel)
theorem dX9_floating_5 : decode cX9_floating 5 = .ok (.aload_n 0, 1) := dq0 kk_42 (by decide +kernel)
theorem dX9_floating_6 : decode cX9_floating 6 = .ok (.getfield 9, 3) := dqV kk_180 (by decide +kernel)
theorem dX9_floating_9 : decode cX9_floating 9 = .ok (.if_icmp .ge 24, 3) := dqT kk_162 (by decide +kernel)
theorem dX9_floating_12 : decode cX9_floating 12 = .ok (.aload_n 0, 1) := dq0 kk_42 (by decide +kernel)
theorem dX9_floating_13 : decode cX9_floating 13 = .ok (.getfield 28, 3) := dqV kk_180 (by decide +kernel)
theorem dX9_floating_16 : decode cX9_floating 16 = .ok (.iload_n 2, 1) := dq0 kk_28 (by decide +kernel)
theorem dX9_floating_17 : decode cX9_floating 17 = .ok (.iaload, 1) := dq0 kk_46 (by decide +kernel)
theorem dX9_floating_18 : decode cX9_floating 18 = .ok (.ifCond .ne 9, 3) := dqT kk_154 (by decide +kernel)
theorem dX9_floating_27 : decode cX9_floating 27 = .ok (.iinc 2 1, 3) := dqI kk_132 (by decide +kernel)
theorem dX9_floating_30 : decode cX9_floating 30 = .ok (.goto (-26), 3) := dqT kk_167 (by decide +kernel)
theorem dX9_floating_21 : decode cX9_floating 21 = .ok (.iload_n 1, 1) := dq0 kk_27 (by decide +kernel)
theorem dX9_floating_22 : decode cX9_floating 22 = .ok (.iconst 1, 1) := dq0 kk_4 (by decide +kernel)
theorem dX9_floating_23 : decode cX9_floating 23 = .ok (.iload_n 2, 1) := dq0 kk_28 (by decide +kernel)
theorem dX9_floating_24 : decode cX9_floating 24 = .ok (.ishl, 1) := dq0 kk_120 (by decide +kernel)
theorem dX9_floating_25 : decode cX9_floating 25 = .ok (.ior, 1) := dq0 kk_128 (by decide +kernel)
theorem dX9_floating_26 : decode cX9_floating 26 = .ok (.istore_n 1, 1) := dq0 kk_60 (by decide +kernel)
set_option maxRecDepth 4000 in
theorem lp_X9_floating {p : Program} {l : Launch} {e : Env} {s : State} {m : MethodId} {args : Array Value} {below : List Frame} {meth : Method} {c : Code} {D : va_G} {B : Nat} {cy : Nat → ClassId} {H0 : Heap} {Q : State → Prop} {M : Mem} {R : Room} {a n q hv ed : Nat} {K L : Nat → Nat}  (F : CallFix p m c cX9_floating 3 s args TB RX9) (hR1 : 0 ≤ R.frames) (hR2 : 0 ≤ R.locals) (hk : kd a = (9, 0, 0)) (hW : isW M a n q hv ed K L) (hwf : wf n q hv ed K L) (kk : ∀ (t : Nat) (H : Heap) (locs : List Loc) (ls : Array Slot), (t = n) → Wd D B cy s H0 M H locs → lv_has ls 3 [(2, .int (zI (t : Int))), (1, .int (zI (((flt L t) : Nat) : Int))), (0, .ref (B + a))] → W p l e R s m args below meth c H locs 0 0 Q (F0 m 33 ls [])) : ∀ (f : Nat) (t : Nat), (t ≤ n) → (n ≤ t + f) → ∀ (H : Heap) (locs : List Loc) (ls : Array Slot), Wd D B cy s H0 M H locs → lv_has ls 3 [(2, .int (zI (t : Int))), (1, .int (zI (((flt L t) : Nat) : Int))), (0, .ref (B + a))] → W p l e R s m args below meth c H locs 0 0 Q (F0 m 4 ls []) := by
  have hx := F.1
  have hb := F.2.1
  have hwf0 := hwf
  obtain ⟨hn, hq, hhv, hed, hKL⟩ := hwf0
  intro f
  induction f with
  | zero =>
    intro t i0 hf H locs ls w hl
    refine lv_iload_n hx hb dX9_floating_4 rfl (lv_at hl 0 rfl) ?_
    refine lv_aload_n hx hb dX9_floating_5 rfl (lv_at hl 2 rfl) ?_
    refine f_9_0 F w (a := a) hk tb_0 dX9_floating_6 ?_
    refine r_val (v := (zI (n : Int))) (hW.1) ?_
    refine z_icmp_ge (tgt := 33) hx hb (by omega) (by omega) dX9_floating_9 (by decide) (fun c1 => ?_) (fun c1 => False.elim (by omega))
    exact kk t _ _ ls (by omega) w (lv_sub hl [0, 1, 2] rfl)
  | succ f ih =>
    intro t i0 hf H locs ls w hl
    refine lv_iload_n hx hb dX9_floating_4 rfl (lv_at hl 0 rfl) ?_
    refine lv_aload_n hx hb dX9_floating_5 rfl (lv_at hl 2 rfl) ?_
    refine f_9_0 F w (a := a) hk tb_0 dX9_floating_6 ?_
    refine r_val (v := (zI (n : Int))) (hW.1) ?_
    refine z_icmp_ge (tgt := 33) hx hb (by omega) (by omega) dX9_floating_9 (by decide) (fun c1 => ?_) (fun c1 => ?_)
    · exact kk t _ _ ls (by omega) w (lv_sub hl [0, 1, 2] rfl)
    · refine lv_aload_n hx hb dX9_floating_12 rfl (lv_at hl 2 rfl) ?_
      refine f_9_5 F w (a := a) hk tb_6 dX9_floating_13 ?_
      refine lv_iload_n hx hb dX9_floating_16 rfl (lv_at hl 0 rfl) ?_
      refine g_iald F w (a := (a + 2)) (kd_w2 hk) (j := t) (ix_n (by omega)) (by omega) dX9_floating_17 ?_
      have hL1 := (hKL t (by omega)).2
      refine r_val (v := (zI (((L t) : Nat) : Int))) (hW.2.2.2.2.2 t (by omega)) ?_
      refine z_if_ne (tgt := 27) hx hb (by omega) dX9_floating_18 (by decide) (fun c2 => ?_) (fun c2 => ?_)
      · refine z_iinc (v := (((t + 1) : Nat) : Int)) (lv' := [(2, .int (zI (((t + 1) : Nat) : Int))), (1, .int (zI (((flt L t) : Nat) : Int))), (0, .ref (B + a))]) hx hb dX9_floating_27 hl (k := 0) rfl (by omega) (by decide) rfl (fun ls hl => ?_)
        refine lv_goto (tgt := 4) hx hb dX9_floating_30 (by decide) ?_
        rw [flt_0 (by omega)] at hl
        exact ih (t + 1) (by omega) (by omega) _ _ ls w (lv_sub hl [0, 1, 2] rfl)
      · refine lv_iload_n hx hb dX9_floating_21 rfl (lv_at hl 1 rfl) ?_
        refine lv_iconst (v := zI 1) hx hb dX9_floating_22 rfl ?_
        refine lv_iload_n hx hb dX9_floating_23 rfl (lv_at hl 0 rfl) ?_
        refine lv_ishl hx hb dX9_floating_24 ?_
        refine r_val (v := (zI (((2 ^ t) : Nat) : Int))) (zb_shl (n := t) (by omega)) ?_
        have q3 := p2_b (n := t) (by omega)
        refine lv_ior hx hb dX9_floating_25 ?_
        refine r_val (v := (zI (((flt L t ||| 2 ^ t) : Nat) : Int))) (zb_or _ _) ?_
        refine lv_istore_n (lv' := [(1, .int (zI (((flt L t ||| 2 ^ t) : Nat) : Int))), (2, .int (zI (t : Int))), (0, .ref (B + a))]) hx hb dX9_floating_26 rfl hl (by decide) rfl (fun ls hl => ?_)
        refine z_iinc (v := (((t + 1) : Nat) : Int)) (lv' := [(2, .int (zI (((t + 1) : Nat) : Int))), (1, .int (zI (((flt L t ||| 2 ^ t) : Nat) : Int))), (0, .ref (B + a))]) hx hb dX9_floating_27 hl (k := 1) rfl (by omega) (by decide) rfl (fun ls hl => ?_)
        refine lv_goto (tgt := 4) hx hb dX9_floating_30 (by decide) ?_
        rw [flt_1 (by omega)] at hl
        exact ih (t + 1) (by omega) (by omega) _ _ ls w (lv_sub hl [0, 1, 2] rfl)
theorem dX9_floating_0 : decode cX9_floating 0 = .ok (.iconst 0, 1) := dq0 kk_3 (by decide +kernel)
theorem dX9_floating_1 : decode cX9_floating 1 = .ok (.istore_n 1, 1) := dq0 kk_60 (by decide +kernel)
theorem dX9_floating_2 : decode cX9_floating 2 = .ok (.iconst 0, 1) := dq0 kk_3 (by decide +kernel)
theorem dX9_floating_3 : decode cX9_floating 3 = .ok (.istore_n 2, 1) := dq0 kk_61 (by decide +kernel)
theorem dX9_floating_33 : decode cX9_floating 33 = .ok (.iload_n 1, 1) := dq0 kk_27 (by decide +kernel)
theorem dX9_floating_34 : decode cX9_floating 34 = .ok (.ireturn, 1) := dq0 kk_172 (by decide +kernel)
set_option maxRecDepth 4000 in
theorem s_X9_floating {l : Launch} {D : va_G} {B : Nat} {cy : Nat → ClassId} {M : Mem} {a n q hv ed : Nat} {K L : Nat → Nat} (hk : kd a = (9, 0, 0)) (hW : isW M a n q hv ed K L) (hwf : wf n q hv ed K L)  : Ci l D B cy yX9_floating cX9_floating 3 (some .int) 0 0 [.ref (B + a)] M (fun r M1 => r = zI (((flt L n) : Nat) : Int) ∧ M1 = M) := by
  refine s_any (by decide) (Nat.le_of_ble_eq_true rfl) ?_
  intro p e s m below meth c ls F hr hlocks w hl
  have F : CallFix p m c cX9_floating 3 s _ TB RX9 := F
  have hx := F.1
  have hb := F.2.1
  have hl : lv_has ls 3 [(0, .ref (B + a))] := hl
  have hwf0 := hwf
  obtain ⟨hn, hq, hhv, hed, hKL⟩ := hwf0
  refine lv_iconst (v := zI 0) hx hb dX9_floating_0 rfl ?_
  refine lv_istore_n (lv' := [(1, .int (zI 0)), (0, .ref (B + a))]) hx hb dX9_floating_1 rfl hl (by decide) rfl (fun ls hl => ?_)
  refine lv_iconst (v := zI 0) hx hb dX9_floating_2 rfl ?_
  refine lv_istore_n (lv' := [(2, .int (zI 0)), (1, .int (zI 0)), (0, .ref (B + a))]) hx hb dX9_floating_3 rfl hl (by decide) rfl (fun ls hl => ?_)
  refine lp_X9_floating  F (Nat.le_of_ble_eq_true rfl) (Nat.le_of_ble_eq_true rfl) hk hW hwf (fun t H locs ls x0 w hl => ?_) n 0 (by omega) (by omega) _ _ ls w (lv_sub hl [0, 1, 2] rfl)
  subst x0
  refine lv_iload_n hx hb dX9_floating_33 rfl (lv_at hl 1 rfl) ?_
  exact e_i F w hr hlocks ⟨rfl, rfl⟩ dX9_floating_34
