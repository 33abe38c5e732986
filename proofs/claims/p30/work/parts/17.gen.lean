theorem lowI_nz {m : Nat} (h : m ≠ 0) : lowI m = ((low m : Nat) : Int) := by simp [lowI, h]
theorem higI_nz {m : Nat} (h : m ≠ 0) : higI m = ((hig m : Nat) : Int) := by simp [higI, h]
def extJ (x m : Nat) : Nat := if x = 0 then hig m else low m
theorem upd_upd {L : Nat → Nat} {t v b : Nat} : updF (updF L t v) t (andn (updF L t v t) b) = updF L t (andn v b) := by
  funext k
  simp only [updF]
  by_cases h : k = t
  · simp [h]
  · simp [h]
theorem shift_ok {M M1 M2 : Mem} {n q hv ed t v b : Nat} {K L : Nat → Nat} {z9 : Int} (h : isR M2 148 n q hv ed K (updF (updF L t v) t (andn (updF L t v t) b))) (hc : M2.1 146 3 = zI (z9 + 1 + 1)) (h1 : FrC M1 M) (h2 : FrC M2 M1) : isR M2 148 n q hv ed K (updF L t (andn v b)) ∧ M2.1 146 3 = zI (z9 + 2) ∧ FrC M2 M := by
  rw [upd_upd] at h
  exact ⟨h, by rw [hc]; exact congrArg zI (by omega), FrC.tr h1 h2⟩
theorem dX12_shifts_0 : decode cX12_shifts 0 = .ok (.aload_n 0, 1) := dq0 kk_42 (by decide +kernel)
theorem dX12_shifts_1 : decode cX12_shifts 1 = .ok (.getfield 17, 3) := dqV kk_180 (by decide +kernel)
theorem dX12_shifts_4 : decode cX12_shifts 4 = .ok (.bipush 13, 2) := dqS kk_16 (by decide +kernel)
theorem dX12_shifts_6 : decode cX12_shifts 6 = .ok (.iload_n 1, 1) := dq0 kk_27 (by decide +kernel)
theorem dX12_shifts_7 : decode cX12_shifts 7 = .ok (.iadd, 1) := dq0 kk_96 (by decide +kernel)
theorem dX12_shifts_8 : decode cX12_shifts 8 = .ok (.iaload, 1) := dq0 kk_46 (by decide +kernel)
theorem dX12_shifts_9 : decode cX12_shifts 9 = .ok (.istore_n 3, 1) := dq0 kk_62 (by decide +kernel)
theorem dX12_shifts_10 : decode cX12_shifts 10 = .ok (.aload_n 0, 1) := dq0 kk_42 (by decide +kernel)
theorem dX12_shifts_11 : decode cX12_shifts 11 = .ok (.iload_n 1, 1) := dq0 kk_27 (by decide +kernel)
theorem dX12_shifts_12 : decode cX12_shifts 12 = .ok (.iload_n 2, 1) := dq0 kk_28 (by decide +kernel)
theorem dX12_shifts_13 : decode cX12_shifts 13 = .ok (.invokevirtual 98, 3) := dqV kk_182 (by decide +kernel)
theorem dX12_shifts_16 : decode cX12_shifts 16 = .ok (.ifCond .eq 23, 3) := dqT kk_153 (by decide +kernel)
theorem dX12_shifts_19 : decode cX12_shifts 19 = .ok (.aload_n 0, 1) := dq0 kk_42 (by decide +kernel)
theorem dX12_shifts_20 : decode cX12_shifts 20 = .ok (.iload_n 1, 1) := dq0 kk_27 (by decide +kernel)
theorem dX12_shifts_21 : decode cX12_shifts 21 = .ok (.iload_n 2, 1) := dq0 kk_28 (by decide +kernel)
theorem dX12_shifts_22 : decode cX12_shifts 22 = .ok (.ifCond .eq 10, 3) := dqT kk_153 (by decide +kernel)
theorem dX12_shifts_32 : decode cX12_shifts 32 = .ok (.iload_n 3, 1) := dq0 kk_29 (by decide +kernel)
theorem dX12_shifts_33 : decode cX12_shifts 33 = .ok (.invokestatic 59, 3) := dqV kk_184 (by decide +kernel)
theorem dX12_shifts_36 : decode cX12_shifts 36 = .ok (.invokevirtual 102, 3) := dqV kk_182 (by decide +kernel)
theorem tk_X12_goes : Cond.code yX12_goes cX12_goes 3 none ∈ TB := tbm (tc6 (List.mem_of_getElem? (i := 86) rfl)) rfl
theorem gc_X12_goes : GoodIn TB (cw yX12_goes cX12_goes 3 none) := goodIn_c2 tk_X12_goes
theorem tb_92 : Cond.methodLink "ToneLinesModel" 102 yX12_goes ∈ TB := tbm (tc6 (List.mem_of_getElem? (i := 83) rfl)) rfl
theorem tb_93 : Cond.instanceMethod yX12_goes ∈ TB := tbm (tc6 (List.mem_of_getElem? (i := 85) rfl)) rfl
theorem tb_94 : Cond.selects "ToneLinesModel" yX12_goes yX12_goes ∈ TB := tbp (List.mem_of_getElem? (i := 59) rfl) rfl
theorem gv_X12_102 : GoodIn TB (wsV RX12 102 RX12 yX12_goes (cw yX12_goes cX12_goes 3 none)) := goodIn_4 tb_92 tb_93 tb_94 tb_38 gc_X12_goes
theorem hv_X12_goes : yX12_goes.cls = RX12 ∧ yX12_goes.cls ≠ "java/lang/invoke/MethodHandle" ∧ yX12_goes.cls ≠ "java/lang/invoke/VarHandle" ∧ (parseMethodDescriptor yX12_goes.desc).map (fun d => d.parameters.length) = some 2 := by decide +kernel
theorem dX12_shifts_39 : decode cX12_shifts 39 = .ok (.return_, 1) := dq0 kk_177 (by decide +kernel)
set_option maxRecDepth 4000 in
theorem s_X12_shifts_0 {l : Launch} {D : va_G} {B : Nat} {cy : Nat → ClassId} {M : Mem} {n q hv ed : Nat} {K L : Nat → Nat} {z9 : Int} (hW : isR M 148 n q hv ed K L) (hwf : wf n q hv ed K L) (hc : M.1 146 3 = zI z9) {t x : Nat} (ht : t < n) (hxv : x = 0) (h09 : L t ≠ 0) : Cv l D B cy yX12_shifts cX12_shifts 4 4 90 [.ref (B + 146), .int (zI (t : Int)), .int (zI (x : Int))] M (fun M1 => (∃ j, stpP n q ed L t x j ∧ isR M1 148 n q hv ed K (updF L t (andn (L t ||| 2 ^ j) (2 ^ (hig (L t))))) ∧ M1.1 146 3 = zI (z9 + 2) ∧ FrC M1 M) ∨ ((∀ j, ¬ stpP n q ed L t x j) ∧ M1 = M)) := by
  refine s_any (by decide) (Nat.le_of_ble_eq_true rfl) ?_
  intro p e s m below meth c ls F hr hlocks w hl
  have F : CallFix p m c cX12_shifts 4 s _ TB RX12 := F
  have hx := F.1
  have hb := F.2.1
  have hl : lv_has ls 4 [(0, .ref (B + 146)), (1, .int (zI (t : Int))), (2, .int (zI (x : Int)))] := hl
  have hwf0 := hwf
  obtain ⟨hn, hq, hhv, hed, hKL⟩ := hwf0
  refine lv_aload_n hx hb dX12_shifts_0 rfl (lv_at hl 0 rfl) ?_
  refine f_12_2 F w (a := 146) rfl tb_45 dX12_shifts_1 ?_
  refine lv_bipush (v := zI 13) hx hb dX12_shifts_4 (by decide) ?_
  refine lv_iload_n hx hb dX12_shifts_6 rfl (lv_at hl 1 rfl) ?_
  refine z_iadd (z := (((13 + t) : Nat) : Int)) hx hb dX12_shifts_7 (by omega) ?_
  refine g_iald F w (a := 148) rfl (j := (13 + t)) (ix_n (by omega)) (by omega) dX12_shifts_8 ?_
  have hL0 := (hKL t (by omega)).2
  refine r_val (v := (zI (((L t) : Nat) : Int))) (hW.2.2.2.2.2 t (by omega)) ?_
  refine lv_istore_n (lv' := [(3, .int (zI (((L t) : Nat) : Int))), (0, .ref (B + 146)), (1, .int (zI (t : Int))), (2, .int (zI (x : Int)))]) hx hb dX12_shifts_9 rfl hl (by decide) rfl (fun ls hl => ?_)
  refine lv_aload_n hx hb dX12_shifts_10 rfl (lv_at hl 1 rfl) ?_
  refine lv_iload_n hx hb dX12_shifts_11 rfl (lv_at hl 2 rfl) ?_
  refine lv_iload_n hx hb dX12_shifts_12 rfl (lv_at hl 3 rfl) ?_
  refine k_Vi F w (As := [.int (zI (t : Int)), .int (zI (x : Int))]) (rest := []) (a := 146) (kd_lt (a := 146) (show kd 146 = (12, 0, 0) from rfl) (by decide)) (sh_12 rfl _ _) rfl (s_X12_steps_0 hW hwf hc (t := t) (x := x) ht hxv) gv_X12_98 hv_X12_steps ⟨(Nat.le_of_ble_eq_true rfl), (Nat.le_of_ble_eq_true rfl)⟩ hl.1 rfl (Nat.le_of_ble_eq_true rfl) ⟨Nat.zero_le _, Nat.zero_le _⟩ dX12_shifts_13 (fun r M1 H locs hp w => ?_)
  rcases hp with ⟨j9, hs9, rfl, hW9, hc9, hF9⟩ | ⟨hs9, rfl, hMe⟩
  · have hwf9 := wf_or hwf ht (by have := hs9.2.1; omega : j9 < 12)
    refine z_if_eq (tgt := 39) hx hb (by omega) dX12_shifts_16 (by decide) (fun c1 => False.elim (by omega)) (fun c1 => ?_)
    refine lv_aload_n hx hb dX12_shifts_19 rfl (lv_at hl 1 rfl) ?_
    refine lv_iload_n hx hb dX12_shifts_20 rfl (lv_at hl 2 rfl) ?_
    refine lv_iload_n hx hb dX12_shifts_21 rfl (lv_at hl 3 rfl) ?_
    refine z_if_eq (tgt := 32) hx hb (by omega) dX12_shifts_22 (by decide) (fun c2 => ?_) (fun c2 => False.elim (by omega))
    refine lv_iload_n hx hb dX12_shifts_32 rfl (lv_at hl 0 rfl) ?_
    refine x_Si F w (As := [.int (zI (((L t) : Nat) : Int))]) (rest := [.int (zI (t : Int)), .ref (B + 146)]) (s_X12_lastOf (m9 := (L t)) (by omega)) gs_X12_59 hs_X12_lastOf ⟨(Nat.le_of_ble_eq_true rfl), (Nat.le_of_ble_eq_true rfl)⟩ hl.1 rfl (Nat.le_of_ble_eq_true rfl) ⟨Nat.zero_le _, Nat.zero_le _⟩ dX12_shifts_33 (fun H locs w => ?_)
    have hw2 := higI_rg (L t) (by omega)
    refine r_val (v := zI ((hig (L t) : Nat) : Int)) (congrArg zI (higI_nz h09)) ?_
    have he2 := (hig_t (L t) (by omega) h09).2
    refine k_Vv F w (As := [.int (zI (t : Int)), .int (zI (((hig (L t)) : Nat) : Int))]) (rest := []) (a := 146) (kd_lt (a := 146) (show kd 146 = (12, 0, 0) from rfl) (by decide)) (sh_12 rfl _ _) rfl (s_X12_goes hW9 hwf9 hc9 (t := t) (j := (hig (L t))) ht (by omega)) gv_X12_102 hv_X12_goes ⟨(Nat.le_of_ble_eq_true rfl), (Nat.le_of_ble_eq_true rfl)⟩ hl.1 rfl (Nat.le_of_ble_eq_true rfl) ⟨Nat.zero_le _, Nat.zero_le _⟩ dX12_shifts_36 (fun M1 H locs hp w => ?_)
    rcases hp with ⟨hW8, hc8, hF8⟩
    exact e_v F w hr hlocks (Or.inl ⟨j9, hs9, shift_ok hW8 hc8 hF9 hF8⟩) dX12_shifts_39
  · rw [hMe] at w
    refine z_if_eq (tgt := 39) hx hb (by omega) dX12_shifts_16 (by decide) (fun c3 => ?_) (fun c3 => False.elim (by omega))
    exact e_v F w hr hlocks (Or.inr ⟨hs9, rfl⟩) dX12_shifts_39
theorem dX12_shifts_25 : decode cX12_shifts 25 = .ok (.iload_n 3, 1) := dq0 kk_29 (by decide +kernel)
theorem dX12_shifts_26 : decode cX12_shifts 26 = .ok (.invokestatic 63, 3) := dqV kk_184 (by decide +kernel)
theorem dX12_shifts_29 : decode cX12_shifts 29 = .ok (.goto 7, 3) := dqT kk_167 (by decide +kernel)
set_option maxRecDepth 4000 in
theorem s_X12_shifts_1 {l : Launch} {D : va_G} {B : Nat} {cy : Nat → ClassId} {M : Mem} {n q hv ed : Nat} {K L : Nat → Nat} {z9 : Int} (hW : isR M 148 n q hv ed K L) (hwf : wf n q hv ed K L) (hc : M.1 146 3 = zI z9) {t x : Nat} (ht : t < n) (hxv : x = 1) (h09 : L t ≠ 0) : Cv l D B cy yX12_shifts cX12_shifts 4 4 90 [.ref (B + 146), .int (zI (t : Int)), .int (zI (x : Int))] M (fun M1 => (∃ j, stpP n q ed L t x j ∧ isR M1 148 n q hv ed K (updF L t (andn (L t ||| 2 ^ j) (2 ^ (low (L t))))) ∧ M1.1 146 3 = zI (z9 + 2) ∧ FrC M1 M) ∨ ((∀ j, ¬ stpP n q ed L t x j) ∧ M1 = M)) := by
  refine s_any (by decide) (Nat.le_of_ble_eq_true rfl) ?_
  intro p e s m below meth c ls F hr hlocks w hl
  have F : CallFix p m c cX12_shifts 4 s _ TB RX12 := F
  have hx := F.1
  have hb := F.2.1
  have hl : lv_has ls 4 [(0, .ref (B + 146)), (1, .int (zI (t : Int))), (2, .int (zI (x : Int)))] := hl
  have hwf0 := hwf
  obtain ⟨hn, hq, hhv, hed, hKL⟩ := hwf0
  refine lv_aload_n hx hb dX12_shifts_0 rfl (lv_at hl 0 rfl) ?_
  refine f_12_2 F w (a := 146) rfl tb_45 dX12_shifts_1 ?_
  refine lv_bipush (v := zI 13) hx hb dX12_shifts_4 (by decide) ?_
  refine lv_iload_n hx hb dX12_shifts_6 rfl (lv_at hl 1 rfl) ?_
  refine z_iadd (z := (((13 + t) : Nat) : Int)) hx hb dX12_shifts_7 (by omega) ?_
  refine g_iald F w (a := 148) rfl (j := (13 + t)) (ix_n (by omega)) (by omega) dX12_shifts_8 ?_
  have hL0 := (hKL t (by omega)).2
  refine r_val (v := (zI (((L t) : Nat) : Int))) (hW.2.2.2.2.2 t (by omega)) ?_
  refine lv_istore_n (lv' := [(3, .int (zI (((L t) : Nat) : Int))), (0, .ref (B + 146)), (1, .int (zI (t : Int))), (2, .int (zI (x : Int)))]) hx hb dX12_shifts_9 rfl hl (by decide) rfl (fun ls hl => ?_)
  refine lv_aload_n hx hb dX12_shifts_10 rfl (lv_at hl 1 rfl) ?_
  refine lv_iload_n hx hb dX12_shifts_11 rfl (lv_at hl 2 rfl) ?_
  refine lv_iload_n hx hb dX12_shifts_12 rfl (lv_at hl 3 rfl) ?_
  refine k_Vi F w (As := [.int (zI (t : Int)), .int (zI (x : Int))]) (rest := []) (a := 146) (kd_lt (a := 146) (show kd 146 = (12, 0, 0) from rfl) (by decide)) (sh_12 rfl _ _) rfl (s_X12_steps_1 hW hwf hc (t := t) (x := x) ht hxv) gv_X12_98 hv_X12_steps ⟨(Nat.le_of_ble_eq_true rfl), (Nat.le_of_ble_eq_true rfl)⟩ hl.1 rfl (Nat.le_of_ble_eq_true rfl) ⟨Nat.zero_le _, Nat.zero_le _⟩ dX12_shifts_13 (fun r M1 H locs hp w => ?_)
  rcases hp with ⟨j9, hs9, rfl, hW9, hc9, hF9⟩ | ⟨hs9, rfl, hMe⟩
  · have hwf9 := wf_or hwf ht (by have := hs9.2.1; omega : j9 < 12)
    refine z_if_eq (tgt := 39) hx hb (by omega) dX12_shifts_16 (by decide) (fun c1 => False.elim (by omega)) (fun c1 => ?_)
    refine lv_aload_n hx hb dX12_shifts_19 rfl (lv_at hl 1 rfl) ?_
    refine lv_iload_n hx hb dX12_shifts_20 rfl (lv_at hl 2 rfl) ?_
    refine lv_iload_n hx hb dX12_shifts_21 rfl (lv_at hl 3 rfl) ?_
    refine z_if_eq (tgt := 32) hx hb (by omega) dX12_shifts_22 (by decide) (fun c2 => False.elim (by omega)) (fun c2 => ?_)
    refine lv_iload_n hx hb dX12_shifts_25 rfl (lv_at hl 0 rfl) ?_
    refine x_Si F w (As := [.int (zI (((L t) : Nat) : Int))]) (rest := [.int (zI (t : Int)), .ref (B + 146)]) (s_X12_firstOf (m9 := (L t)) (by omega)) gs_X12_63 hs_X12_firstOf ⟨(Nat.le_of_ble_eq_true rfl), (Nat.le_of_ble_eq_true rfl)⟩ hl.1 rfl (Nat.le_of_ble_eq_true rfl) ⟨Nat.zero_le _, Nat.zero_le _⟩ dX12_shifts_26 (fun H locs w => ?_)
    have hw2 := lowI_rg (L t) (by omega)
    refine r_val (v := zI ((low (L t) : Nat) : Int)) (congrArg zI (lowI_nz h09)) ?_
    have he2 := (low_t (L t) (by omega) h09).2
    refine lv_goto (tgt := 36) hx hb dX12_shifts_29 (by decide) ?_
    refine k_Vv F w (As := [.int (zI (t : Int)), .int (zI (((low (L t)) : Nat) : Int))]) (rest := []) (a := 146) (kd_lt (a := 146) (show kd 146 = (12, 0, 0) from rfl) (by decide)) (sh_12 rfl _ _) rfl (s_X12_goes hW9 hwf9 hc9 (t := t) (j := (low (L t))) ht (by omega)) gv_X12_102 hv_X12_goes ⟨(Nat.le_of_ble_eq_true rfl), (Nat.le_of_ble_eq_true rfl)⟩ hl.1 rfl (Nat.le_of_ble_eq_true rfl) ⟨Nat.zero_le _, Nat.zero_le _⟩ dX12_shifts_36 (fun M1 H locs hp w => ?_)
    rcases hp with ⟨hW8, hc8, hF8⟩
    exact e_v F w hr hlocks (Or.inl ⟨j9, hs9, shift_ok hW8 hc8 hF9 hF8⟩) dX12_shifts_39
  · rw [hMe] at w
    refine z_if_eq (tgt := 39) hx hb (by omega) dX12_shifts_16 (by decide) (fun c3 => ?_) (fun c3 => False.elim (by omega))
    exact e_v F w hr hlocks (Or.inr ⟨hs9, rfl⟩) dX12_shifts_39
theorem dX1_cutOff_0 : decode cX1_cutOff 0 = .ok (.aload_n 1, 1) := dq0 kk_43 (by decide +kernel)
theorem dX1_cutOff_1 : decode cX1_cutOff 1 = .ok (.iload_n 2, 1) := dq0 kk_28 (by decide +kernel)
theorem dX1_cutOff_2 : decode cX1_cutOff 2 = .ok (.invokevirtual 56, 3) := dqV kk_182 (by decide +kernel)
theorem dX1_cutOff_5 : decode cX1_cutOff 5 = .ok (.istore 4, 2) := dqU kk_54 (by decide +kernel)
theorem dX1_cutOff_7 : decode cX1_cutOff 7 = .ok (.iload 4, 2) := dqU kk_21 (by decide +kernel)
theorem dX1_cutOff_9 : decode cX1_cutOff 9 = .ok (.ifCond .ne 5, 3) := dqT kk_154 (by decide +kernel)
theorem dX1_cutOff_14 : decode cX1_cutOff 14 = .ok (.aload_n 1, 1) := dq0 kk_43 (by decide +kernel)
theorem dX1_cutOff_15 : decode cX1_cutOff 15 = .ok (.getfield 50, 3) := dqV kk_180 (by decide +kernel)
theorem dX1_cutOff_18 : decode cX1_cutOff 18 = .ok (.iload_n 2, 1) := dq0 kk_28 (by decide +kernel)
theorem dX1_cutOff_19 : decode cX1_cutOff 19 = .ok (.dup2, 1) := dq0 kk_92 (by decide +kernel)
theorem dX1_cutOff_20 : decode cX1_cutOff 20 = .ok (.iaload, 1) := dq0 kk_46 (by decide +kernel)
theorem dX1_cutOff_21 : decode cX1_cutOff 21 = .ok (.iconst 1, 1) := dq0 kk_4 (by decide +kernel)
theorem dX1_cutOff_22 : decode cX1_cutOff 22 = .ok (.iload_n 3, 1) := dq0 kk_29 (by decide +kernel)
theorem dX1_cutOff_23 : decode cX1_cutOff 23 = .ok (.ifCond .eq 11, 3) := dqT kk_153 (by decide +kernel)
theorem dX1_cutOff_34 : decode cX1_cutOff 34 = .ok (.iload 4, 2) := dqU kk_21 (by decide +kernel)
theorem dX1_cutOff_36 : decode cX1_cutOff 36 = .ok (.invokestatic 75, 3) := dqV kk_184 (by decide +kernel)
theorem tk_X11_lowest : Cond.code yX11_lowest cX11_lowest 1 (some .int) ∈ TB := tbm (tc4 (List.mem_of_getElem? (i := 17) rfl)) rfl
theorem gc_X11_lowest : GoodIn TB (cw yX11_lowest cX11_lowest 1 (some .int)) := goodIn_c2 tk_X11_lowest
theorem hs_X11_lowest : yX11_lowest.cls ≠ "java/lang/invoke/MethodHandle" ∧ yX11_lowest.cls ≠ "java/lang/invoke/VarHandle" ∧ (parseMethodDescriptor yX11_lowest.desc).map (fun d => d.parameters.length) = some 1 := by decide +kernel
theorem tb_95 : Cond.initialized "ToneLines" ∈ TB := rtb_28
theorem tb_96 : Cond.static yX11_lowest ∈ TB := tbm (tc4 (List.mem_of_getElem? (i := 16) rfl)) rfl
theorem dX1_cutOff_39 : decode cX1_cutOff 39 = .ok (.ishl, 1) := dq0 kk_120 (by decide +kernel)
theorem dX1_cutOff_40 : decode cX1_cutOff 40 = .ok (.iconst (-1), 1) := dq0 kk_2 (by decide +kernel)
theorem dX1_cutOff_41 : decode cX1_cutOff 41 = .ok (.ixor, 1) := dq0 kk_130 (by decide +kernel)
theorem dX1_cutOff_42 : decode cX1_cutOff 42 = .ok (.iand, 1) := dq0 kk_126 (by decide +kernel)
theorem dX1_cutOff_43 : decode cX1_cutOff 43 = .ok (.iastore, 1) := dq0 kk_79 (by decide +kernel)
theorem dX1_cutOff_44 : decode cX1_cutOff 44 = .ok (.iconst 1, 1) := dq0 kk_4 (by decide +kernel)
theorem dX1_cutOff_45 : decode cX1_cutOff 45 = .ok (.ireturn, 1) := dq0 kk_172 (by decide +kernel)
theorem dX1_cutOff_12 : decode cX1_cutOff 12 = .ok (.iconst 0, 1) := dq0 kk_3 (by decide +kernel)
theorem dX1_cutOff_13 : decode cX1_cutOff 13 = .ok (.ireturn, 1) := dq0 kk_172 (by decide +kernel)
set_option maxRecDepth 4000 in
theorem s_X1_cutOff_0 {l : Launch} {D : va_G} {B : Nat} {cy : Nat → ClassId} {M : Mem} {a n q hv ed : Nat} {K L : Nat → Nat} (hk : kd a = (9, 0, 0)) (hW : isW M a n q hv ed K L) (hwf : wf n q hv ed K L) {t x : Nat} (ht : t < n) (hxv : x = 0) : Ci l D B cy yX1_cutOff cX1_cutOff 5 (some .int) 2 42 [.ref (B + 23), .ref (B + a), .int (zI (t : Int)), .int (zI (x : Int))] M (fun r M1 => (L t ≠ 0 ∧ r = zI 1 ∧ isW M1 a n q hv ed K (updF L t (andn (L t) (2 ^ (low (L t))))) ∧ Fr3 M1 M a) ∨ (L t = 0 ∧ r = zI 0 ∧ M1 = M)) := by
  refine s_any (by decide) (Nat.le_of_ble_eq_true rfl) ?_
  intro p e s m below meth c ls F hr hlocks w hl
  have F : CallFix p m c cX1_cutOff 5 s _ TB RX1 := F
  have hx := F.1
  have hb := F.2.1
  have hl : lv_has ls 5 [(0, .ref (B + 23)), (1, .ref (B + a)), (2, .int (zI (t : Int))), (3, .int (zI (x : Int)))] := hl
  have hwf0 := hwf
  obtain ⟨hn, hq, hhv, hed, hKL⟩ := hwf0
  refine lv_aload_n hx hb dX1_cutOff_0 rfl (lv_at hl 1 rfl) ?_
  refine lv_iload_n hx hb dX1_cutOff_1 rfl (lv_at hl 2 rfl) ?_
  refine k_Vi F w (As := [.int (zI (t : Int))]) (rest := []) (a := a) (kd_lt (a := a) hk (by decide)) (sh_9 hk _ _) rfl (s_X9_linesFrom hk hW hwf (by omega)) gv_X1_56 hv_X9_linesFrom ⟨(Nat.le_of_ble_eq_true rfl), (Nat.le_of_ble_eq_true rfl)⟩ hl.1 rfl (Nat.le_of_ble_eq_true rfl) ⟨Nat.zero_le _, Nat.zero_le _⟩ dX1_cutOff_2 (fun r M1 H locs hp w => ?_)
  rcases hp with ⟨⟨k1, ek1, hk1, rfl⟩ | ⟨nk1, rfl⟩, hMe⟩
  · obtain rfl : t = k1 := by omega
    rw [hMe] at w
    have gk1 := (hKL t (by omega)).2
    refine lv_istore (lv' := [(4, .int (zI (((L t) : Nat) : Int))), (0, .ref (B + 23)), (1, .ref (B + a)), (2, .int (zI (t : Int))), (3, .int (zI (x : Int)))]) hx hb dX1_cutOff_5 hl (by decide) rfl (fun ls hl => ?_)
    refine lv_iload hx hb dX1_cutOff_7 (lv_at hl 0 rfl) ?_
    refine z_if_ne (tgt := 14) hx hb (by omega) dX1_cutOff_9 (by decide) (fun c2 => ?_) (fun c2 => ?_)
    · refine lv_aload_n hx hb dX1_cutOff_14 rfl (lv_at hl 2 rfl) ?_
      refine f_9_5 F w (a := a) hk tb_78 dX1_cutOff_15 ?_
      refine lv_iload_n hx hb dX1_cutOff_18 rfl (lv_at hl 3 rfl) ?_
      refine lv_dup2_11 hx hb dX1_cutOff_19 rfl rfl ?_
      refine g_iald F w (a := (a + 2)) (kd_w2 hk) (j := t) (ix_n (by omega)) (by omega) dX1_cutOff_20 ?_
      have hL2 := (hKL t (by omega)).2
      refine r_val (v := (zI (((L t) : Nat) : Int))) (hW.2.2.2.2.2 t (by omega)) ?_
      refine lv_iconst (v := zI 1) hx hb dX1_cutOff_21 rfl ?_
      refine lv_iload_n hx hb dX1_cutOff_22 rfl (lv_at hl 4 rfl) ?_
      refine z_if_eq (tgt := 34) hx hb (by omega) dX1_cutOff_23 (by decide) (fun c3 => ?_) (fun c3 => False.elim (by omega))
      refine lv_iload hx hb dX1_cutOff_34 (lv_at hl 0 rfl) ?_
      refine x_Ni F w (As := [.int (zI (((L t) : Nat) : Int))]) (rest := [.int (zI 1), .int (zI (((L t) : Nat) : Int)), .int (zI (t : Int)), .ref (B + (a + 2))]) (s_X11_lowest (m9 := (L t)) (by omega)) gc_X11_lowest tb_95 tb_96 (by decide) hs_X11_lowest ⟨(Nat.le_of_ble_eq_true rfl), (Nat.le_of_ble_eq_true rfl)⟩ hl.1 rfl (Nat.le_of_ble_eq_true rfl) ⟨Nat.zero_le _, Nat.zero_le _⟩ dX1_cutOff_36 (fun H locs w => ?_)
      have hw3 := lowI_rg (L t) (by omega)
      have h09 : L t ≠ 0 := by omega
      refine r_val (v := zI ((low (L t) : Nat) : Int)) (congrArg zI (lowI_nz h09)) ?_
      have he3 := (low_t (L t) (by omega) h09).2
      refine lv_ishl hx hb dX1_cutOff_39 ?_
      refine r_val (v := (zI (((2 ^ (low (L t))) : Nat) : Int))) (zb_shl (n := (low (L t))) (by omega)) ?_
      have q4 := p2_b (n := (low (L t))) (by omega)
      refine lv_iconst (v := zI (-1)) hx hb dX1_cutOff_40 rfl ?_
      refine lv_ixor hx hb dX1_cutOff_41 ?_
      refine lv_iand hx hb dX1_cutOff_42 ?_
      refine r_val (v := (zI (((andn (L t) (2 ^ (low (L t)))) : Nat) : Int))) (zb_andn _ _) ?_
      have q6 := andn_le (L t) (2 ^ (low (L t)))
      refine g_iast F w (a := (a + 2)) (kd_w2 hk) (j := t) (ix_n (by omega)) (by omega) dX1_cutOff_43 (fun H locs w => ?_)
      refine lv_iconst (v := zI 1) hx hb dX1_cutOff_44 rfl ?_
      exact e_i F w hr hlocks (Or.inl ⟨by omega, rfl, wlineW hW, wlineF Fr3.rf⟩) dX1_cutOff_45
    · refine lv_iconst (v := zI 0) hx hb dX1_cutOff_12 rfl ?_
      exact e_i F w hr hlocks (Or.inr ⟨by omega, rfl, rfl⟩) dX1_cutOff_13
  · exact False.elim (by omega)
theorem dX1_cutOff_26 : decode cX1_cutOff 26 = .ok (.iload 4, 2) := dqU kk_21 (by decide +kernel)
theorem dX1_cutOff_28 : decode cX1_cutOff 28 = .ok (.invokestatic 72, 3) := dqV kk_184 (by decide +kernel)
theorem tk_X11_highest : Cond.code yX11_highest cX11_highest 2 (some .int) ∈ TB := tbm (tc4 (List.mem_of_getElem? (i := 14) rfl)) rfl
theorem gc_X11_highest : GoodIn TB (cw yX11_highest cX11_highest 2 (some .int)) := goodIn_c2 tk_X11_highest
theorem hs_X11_highest : yX11_highest.cls ≠ "java/lang/invoke/MethodHandle" ∧ yX11_highest.cls ≠ "java/lang/invoke/VarHandle" ∧ (parseMethodDescriptor yX11_highest.desc).map (fun d => d.parameters.length) = some 1 := by decide +kernel
theorem tb_97 : Cond.static yX11_highest ∈ TB := tbm (tc4 (List.mem_of_getElem? (i := 13) rfl)) rfl
theorem dX1_cutOff_31 : decode cX1_cutOff 31 = .ok (.goto 8, 3) := dqT kk_167 (by decide +kernel)
set_option maxRecDepth 4000 in
theorem s_X1_cutOff_1 {l : Launch} {D : va_G} {B : Nat} {cy : Nat → ClassId} {M : Mem} {a n q hv ed : Nat} {K L : Nat → Nat} (hk : kd a = (9, 0, 0)) (hW : isW M a n q hv ed K L) (hwf : wf n q hv ed K L) {t x : Nat} (ht : t < n) (hxv : x = 1) : Ci l D B cy yX1_cutOff cX1_cutOff 5 (some .int) 2 42 [.ref (B + 23), .ref (B + a), .int (zI (t : Int)), .int (zI (x : Int))] M (fun r M1 => (L t ≠ 0 ∧ r = zI 1 ∧ isW M1 a n q hv ed K (updF L t (andn (L t) (2 ^ (hig (L t))))) ∧ Fr3 M1 M a) ∨ (L t = 0 ∧ r = zI 0 ∧ M1 = M)) := by
  refine s_any (by decide) (Nat.le_of_ble_eq_true rfl) ?_
  intro p e s m below meth c ls F hr hlocks w hl
  have F : CallFix p m c cX1_cutOff 5 s _ TB RX1 := F
  have hx := F.1
  have hb := F.2.1
  have hl : lv_has ls 5 [(0, .ref (B + 23)), (1, .ref (B + a)), (2, .int (zI (t : Int))), (3, .int (zI (x : Int)))] := hl
  have hwf0 := hwf
  obtain ⟨hn, hq, hhv, hed, hKL⟩ := hwf0
  refine lv_aload_n hx hb dX1_cutOff_0 rfl (lv_at hl 1 rfl) ?_
  refine lv_iload_n hx hb dX1_cutOff_1 rfl (lv_at hl 2 rfl) ?_
  refine k_Vi F w (As := [.int (zI (t : Int))]) (rest := []) (a := a) (kd_lt (a := a) hk (by decide)) (sh_9 hk _ _) rfl (s_X9_linesFrom hk hW hwf (by omega)) gv_X1_56 hv_X9_linesFrom ⟨(Nat.le_of_ble_eq_true rfl), (Nat.le_of_ble_eq_true rfl)⟩ hl.1 rfl (Nat.le_of_ble_eq_true rfl) ⟨Nat.zero_le _, Nat.zero_le _⟩ dX1_cutOff_2 (fun r M1 H locs hp w => ?_)
  rcases hp with ⟨⟨k1, ek1, hk1, rfl⟩ | ⟨nk1, rfl⟩, hMe⟩
  · obtain rfl : t = k1 := by omega
    rw [hMe] at w
    have gk1 := (hKL t (by omega)).2
    refine lv_istore (lv' := [(4, .int (zI (((L t) : Nat) : Int))), (0, .ref (B + 23)), (1, .ref (B + a)), (2, .int (zI (t : Int))), (3, .int (zI (x : Int)))]) hx hb dX1_cutOff_5 hl (by decide) rfl (fun ls hl => ?_)
    refine lv_iload hx hb dX1_cutOff_7 (lv_at hl 0 rfl) ?_
    refine z_if_ne (tgt := 14) hx hb (by omega) dX1_cutOff_9 (by decide) (fun c2 => ?_) (fun c2 => ?_)
    · refine lv_aload_n hx hb dX1_cutOff_14 rfl (lv_at hl 2 rfl) ?_
      refine f_9_5 F w (a := a) hk tb_78 dX1_cutOff_15 ?_
      refine lv_iload_n hx hb dX1_cutOff_18 rfl (lv_at hl 3 rfl) ?_
      refine lv_dup2_11 hx hb dX1_cutOff_19 rfl rfl ?_
      refine g_iald F w (a := (a + 2)) (kd_w2 hk) (j := t) (ix_n (by omega)) (by omega) dX1_cutOff_20 ?_
      have hL2 := (hKL t (by omega)).2
      refine r_val (v := (zI (((L t) : Nat) : Int))) (hW.2.2.2.2.2 t (by omega)) ?_
      refine lv_iconst (v := zI 1) hx hb dX1_cutOff_21 rfl ?_
      refine lv_iload_n hx hb dX1_cutOff_22 rfl (lv_at hl 4 rfl) ?_
      refine z_if_eq (tgt := 34) hx hb (by omega) dX1_cutOff_23 (by decide) (fun c3 => False.elim (by omega)) (fun c3 => ?_)
      refine lv_iload hx hb dX1_cutOff_26 (lv_at hl 0 rfl) ?_
      refine x_Ni F w (As := [.int (zI (((L t) : Nat) : Int))]) (rest := [.int (zI 1), .int (zI (((L t) : Nat) : Int)), .int (zI (t : Int)), .ref (B + (a + 2))]) (s_X11_highest (m9 := (L t)) (by omega)) gc_X11_highest tb_95 tb_97 (by decide) hs_X11_highest ⟨(Nat.le_of_ble_eq_true rfl), (Nat.le_of_ble_eq_true rfl)⟩ hl.1 rfl (Nat.le_of_ble_eq_true rfl) ⟨Nat.zero_le _, Nat.zero_le _⟩ dX1_cutOff_28 (fun H locs w => ?_)
      have hw3 := higI_rg (L t) (by omega)
      have h09 : L t ≠ 0 := by omega
      refine r_val (v := zI ((hig (L t) : Nat) : Int)) (congrArg zI (higI_nz h09)) ?_
      have he3 := (hig_t (L t) (by omega) h09).2
      refine lv_goto (tgt := 39) hx hb dX1_cutOff_31 (by decide) ?_
      refine lv_ishl hx hb dX1_cutOff_39 ?_
      refine r_val (v := (zI (((2 ^ (hig (L t))) : Nat) : Int))) (zb_shl (n := (hig (L t))) (by omega)) ?_
      have q4 := p2_b (n := (hig (L t))) (by omega)
      refine lv_iconst (v := zI (-1)) hx hb dX1_cutOff_40 rfl ?_
      refine lv_ixor hx hb dX1_cutOff_41 ?_
      refine lv_iand hx hb dX1_cutOff_42 ?_
      refine r_val (v := (zI (((andn (L t) (2 ^ (hig (L t)))) : Nat) : Int))) (zb_andn _ _) ?_
      have q6 := andn_le (L t) (2 ^ (hig (L t)))
      refine g_iast F w (a := (a + 2)) (kd_w2 hk) (j := t) (ix_n (by omega)) (by omega) dX1_cutOff_43 (fun H locs w => ?_)
      refine lv_iconst (v := zI 1) hx hb dX1_cutOff_44 rfl ?_
      exact e_i F w hr hlocks (Or.inl ⟨by omega, rfl, wlineW hW, wlineF Fr3.rf⟩) dX1_cutOff_45
    · refine lv_iconst (v := zI 0) hx hb dX1_cutOff_12 rfl ?_
      exact e_i F w hr hlocks (Or.inr ⟨by omega, rfl, rfl⟩) dX1_cutOff_13
  · exact False.elim (by omega)
