noncomputable def lf (n : Nat) (L : Nat → Nat) (x j : Nat) : Int := match (List.range n).find? (fun k => pb (lcand n L x j k)) with
  | some k => (ixd x n k : Int)
  | none => -1
theorem lf_s {n x j k t : Nat} {L : Nat → Nat} (hk : k < n) (ht : ixd x n k = t) (h0 : L t = 0) (ho : openP n L t j) (h : ∀ i, i < k → ¬ lcand n L x j i) : lf n L x j = (t : Int) := by
  unfold lf
  rw [find_s hk (pb_t (by unfold lcand; rw [ht]; exact ⟨h0, ho⟩)) (fun i hi => pb_f (h i hi))]
  show (ixd x n k : Int) = _
  rw [ht]
theorem lf_n {n x j : Nat} {L : Nat → Nat} (h : ∀ i, i < n → ¬ lcand n L x j i) : lf n L x j = -1 := by
  unfold lf
  rw [find_n (fun i hi => pb_f (h i hi))]
theorem ixd_lt {x n k : Nat} (hk : k < n) : ixd x n k < n := by
  unfold ixd
  by_cases h : x = 0
  · rw [if_pos h]; exact hk
  · rw [if_neg h]; omega
/-- what linking a bare syllable does, by the place that is found -/
theorem lf_link {n x j : Nat} {L : Nat → Nat} (hb : bareP n L j) : (∃ t : Nat, t < n ∧ lf n L x j = (t : Int) ∧ linkL n L x j = updF L t (L t ||| 2 ^ j) ∧ linkC n L x j = 1) ∨ (lf n L x j = -1 ∧ linkL n L x j = L ∧ linkC n L x j = 0) := by
  have e : lfind n L x j = (List.range n).find? (fun k => pb (lcand n L x j k)) := by
    unfold lfind
    rw [if_pos (pb_t hb)]
  unfold lf linkL linkC
  rw [e]
  cases hf : (List.range n).find? (fun k => pb (lcand n L x j k)) with
  | none => exact Or.inr ⟨rfl, rfl, rfl⟩
  | some k => exact Or.inl ⟨ixd x n k, ixd_lt (List.mem_range.mp (List.mem_of_find?_eq_some hf)), rfl, rfl, rfl⟩
theorem dX1_floatingFor_3 : decode cX1_floatingFor 3 = .ok (.iload 4, 2) := dqU kk_21 (by decide +kernel)
theorem dX1_floatingFor_5 : decode cX1_floatingFor 5 = .ok (.aload_n 1, 1) := dq0 kk_43 (by decide +kernel)
theorem dX1_floatingFor_6 : decode cX1_floatingFor 6 = .ok (.getfield 53, 3) := dqV kk_180 (by decide +kernel)
theorem tb_62 : Cond.fieldLink "ToneLines$Doer" 53 "ToneLines$Word" "tones" "I" ∈ TB := tbm (tc1 (List.mem_of_getElem? (i := 132) rfl)) rfl
theorem dX1_floatingFor_9 : decode cX1_floatingFor 9 = .ok (.if_icmp .ge 51, 3) := dqT kk_162 (by decide +kernel)
theorem dX1_floatingFor_12 : decode cX1_floatingFor 12 = .ok (.iload_n 3, 1) := dq0 kk_29 (by decide +kernel)
theorem dX1_floatingFor_13 : decode cX1_floatingFor 13 = .ok (.ifCond .eq 15, 3) := dqT kk_153 (by decide +kernel)
theorem dX1_floatingFor_28 : decode cX1_floatingFor 28 = .ok (.iload 4, 2) := dqU kk_21 (by decide +kernel)
theorem dX1_floatingFor_30 : decode cX1_floatingFor 30 = .ok (.istore 5, 2) := dqU kk_54 (by decide +kernel)
theorem dX1_floatingFor_32 : decode cX1_floatingFor 32 = .ok (.aload_n 1, 1) := dq0 kk_43 (by decide +kernel)
theorem dX1_floatingFor_33 : decode cX1_floatingFor 33 = .ok (.iload 5, 2) := dqU kk_21 (by decide +kernel)
theorem dX1_floatingFor_35 : decode cX1_floatingFor 35 = .ok (.invokevirtual 56, 3) := dqV kk_182 (by decide +kernel)
theorem tk_X9_linesFrom : Cond.code yX9_linesFrom cX9_linesFrom 2 (some .int) ∈ TB := tbm (tc3 (List.mem_of_getElem? (i := 235) rfl)) rfl
theorem gc_X9_linesFrom : GoodIn TB (cw yX9_linesFrom cX9_linesFrom 2 (some .int)) := goodIn_c2 tk_X9_linesFrom
theorem tb_63 : Cond.methodLink "ToneLines$Doer" 56 yX9_linesFrom ∈ TB := tbm (tc3 (List.mem_of_getElem? (i := 232) rfl)) rfl
theorem tb_64 : Cond.instanceMethod yX9_linesFrom ∈ TB := tbm (tc3 (List.mem_of_getElem? (i := 233) rfl)) rfl
theorem tb_65 : Cond.selects "ToneLines$Word" yX9_linesFrom yX9_linesFrom ∈ TB := tbm (tc3 (List.mem_of_getElem? (i := 234) rfl)) rfl
theorem gv_X1_56 : GoodIn TB (wsV RX1 56 RX9 yX9_linesFrom (cw yX9_linesFrom cX9_linesFrom 2 (some .int))) := goodIn_4 tb_63 tb_64 tb_65 tb_5 gc_X9_linesFrom
theorem hv_X9_linesFrom : yX9_linesFrom.cls = RX9 ∧ yX9_linesFrom.cls ≠ "java/lang/invoke/MethodHandle" ∧ yX9_linesFrom.cls ≠ "java/lang/invoke/VarHandle" ∧ (parseMethodDescriptor yX9_linesFrom.desc).map (fun d => d.parameters.length) = some 1 := by decide +kernel
theorem dX1_floatingFor_38 : decode cX1_floatingFor 38 = .ok (.ifCond .ne 16, 3) := dqT kk_154 (by decide +kernel)
theorem dX1_floatingFor_54 : decode cX1_floatingFor 54 = .ok (.iinc 4 1, 3) := dqI kk_132 (by decide +kernel)
theorem dX1_floatingFor_57 : decode cX1_floatingFor 57 = .ok (.goto (-54), 3) := dqT kk_167 (by decide +kernel)
theorem dX1_floatingFor_41 : decode cX1_floatingFor 41 = .ok (.aload_n 1, 1) := dq0 kk_43 (by decide +kernel)
theorem dX1_floatingFor_42 : decode cX1_floatingFor 42 = .ok (.iload 5, 2) := dqU kk_21 (by decide +kernel)
theorem dX1_floatingFor_44 : decode cX1_floatingFor 44 = .ok (.iload_n 2, 1) := dq0 kk_28 (by decide +kernel)
theorem dX1_floatingFor_45 : decode cX1_floatingFor 45 = .ok (.invokevirtual 60, 3) := dqV kk_182 (by decide +kernel)
theorem tk_X9_isOpen : Cond.code yX9_isOpen cX9_isOpen 3 (some .boolean) ∈ TB := tbm (tc3 (List.mem_of_getElem? (i := 5) rfl)) rfl
theorem gc_X9_isOpen : GoodIn TB (cw yX9_isOpen cX9_isOpen 3 (some .boolean)) := goodIn_c2 tk_X9_isOpen
theorem tb_66 : Cond.methodLink "ToneLines$Doer" 60 yX9_isOpen ∈ TB := tbm (tc3 (List.mem_of_getElem? (i := 236) rfl)) rfl
theorem tb_67 : Cond.instanceMethod yX9_isOpen ∈ TB := tbm (tc3 (List.mem_of_getElem? (i := 3) rfl)) rfl
theorem tb_68 : Cond.selects "ToneLines$Word" yX9_isOpen yX9_isOpen ∈ TB := tbm (tc3 (List.mem_of_getElem? (i := 4) rfl)) rfl
theorem gv_X1_60 : GoodIn TB (wsV RX1 60 RX9 yX9_isOpen (cw yX9_isOpen cX9_isOpen 3 (some .boolean))) := goodIn_4 tb_66 tb_67 tb_68 tb_5 gc_X9_isOpen
theorem hv_X9_isOpen : yX9_isOpen.cls = RX9 ∧ yX9_isOpen.cls ≠ "java/lang/invoke/MethodHandle" ∧ yX9_isOpen.cls ≠ "java/lang/invoke/VarHandle" ∧ (parseMethodDescriptor yX9_isOpen.desc).map (fun d => d.parameters.length) = some 2 := by decide +kernel
theorem dX1_floatingFor_48 : decode cX1_floatingFor 48 = .ok (.ifCond .eq 6, 3) := dqT kk_153 (by decide +kernel)
theorem dX1_floatingFor_51 : decode cX1_floatingFor 51 = .ok (.iload 5, 2) := dqU kk_21 (by decide +kernel)
theorem dX1_floatingFor_53 : decode cX1_floatingFor 53 = .ok (.ireturn, 1) := dq0 kk_172 (by decide +kernel)
theorem dX1_floatingFor_16 : decode cX1_floatingFor 16 = .ok (.aload_n 1, 1) := dq0 kk_43 (by decide +kernel)
theorem dX1_floatingFor_17 : decode cX1_floatingFor 17 = .ok (.getfield 53, 3) := dqV kk_180 (by decide +kernel)
theorem dX1_floatingFor_20 : decode cX1_floatingFor 20 = .ok (.iconst 1, 1) := dq0 kk_4 (by decide +kernel)
theorem dX1_floatingFor_21 : decode cX1_floatingFor 21 = .ok (.isub, 1) := dq0 kk_100 (by decide +kernel)
theorem dX1_floatingFor_22 : decode cX1_floatingFor 22 = .ok (.iload 4, 2) := dqU kk_21 (by decide +kernel)
theorem dX1_floatingFor_24 : decode cX1_floatingFor 24 = .ok (.isub, 1) := dq0 kk_100 (by decide +kernel)
theorem dX1_floatingFor_25 : decode cX1_floatingFor 25 = .ok (.goto 5, 3) := dqT kk_167 (by decide +kernel)
set_option maxRecDepth 4000 in
theorem lp_X1_floatingFor {p : Program} {l : Launch} {e : Env} {s : State} {m : MethodId} {args : Array Value} {below : List Frame} {meth : Method} {c : Code} {D : va_G} {B : Nat} {cy : Nat → ClassId}  {M : Mem} {R : Room} {a n q hv ed : Nat} {K L : Nat → Nat}  {j x : Nat} (F : CallFix p m c cX1_floatingFor 6 s args TB RX1) (hr : meth.sig.returnType = (some .int)) (hlocks : meth.locks = false) (hR1 : 2 ≤ R.frames) (hR2 : 48 ≤ R.locals) (hk : kd a = (9, 0, 0)) (hW : isW M a n q hv ed K L) (hwf : wf n q hv ed K L) (hj : j < q) (hx9 : x = 0 ∨ x = 1) (kk : ∀ (k : Nat) (H : Heap) (locs : List Loc) (ls : Array Slot), (k = n) → (∀ i, i < n → ¬ lcand n L x j i) → Wd D B cy s s.heap M H locs → lv_has ls 6 [(4, .int (zI (k : Int))), (0, .ref (B + 23)), (1, .ref (B + a)), (2, .int (zI (j : Int))), (3, .int (zI (x : Int)))] → W p l e R s m args below meth c H locs 0 0 (MQ below (va_Qi (fun r M1 => r = zI (lf n L x j) ∧ M1 = M) (fun M2 t2 => Wp D B cy M2 t2) (fun q2 => B ≤ q2)) args s 0 0 (fun q2 => B ≤ q2)) (F0 m 60 ls [])) : ∀ (f : Nat) (k : Nat), (k ≤ n) → (∀ i, i < k → ¬ lcand n L x j i) → (n ≤ k + f) → ∀ (H : Heap) (locs : List Loc) (ls : Array Slot), Wd D B cy s s.heap M H locs → lv_has ls 6 [(4, .int (zI (k : Int))), (0, .ref (B + 23)), (1, .ref (B + a)), (2, .int (zI (j : Int))), (3, .int (zI (x : Int)))] → W p l e R s m args below meth c H locs 0 0 (MQ below (va_Qi (fun r M1 => r = zI (lf n L x j) ∧ M1 = M) (fun M2 t2 => Wp D B cy M2 t2) (fun q2 => B ≤ q2)) args s 0 0 (fun q2 => B ≤ q2)) (F0 m 3 ls []) := by
  have hx := F.1
  have hb := F.2.1
  have hwf0 := hwf
  obtain ⟨hn, hq, hhv, hed, hKL⟩ := hwf0
  intro f
  induction f with
  | zero =>
    intro k i0 i1 hf H locs ls w hl
    refine lv_iload hx hb dX1_floatingFor_3 (lv_at hl 0 rfl) ?_
    refine lv_aload_n hx hb dX1_floatingFor_5 rfl (lv_at hl 2 rfl) ?_
    refine f_9_0 F w (a := a) hk tb_62 dX1_floatingFor_6 ?_
    refine r_val (v := (zI (n : Int))) (hW.1) ?_
    refine z_icmp_ge (tgt := 60) hx hb (by omega) (by omega) dX1_floatingFor_9 (by decide) (fun c1 => ?_) (fun c1 => False.elim (by omega))
    exact kk k _ _ ls (by omega) (fun i hi => i1 i (by omega)) w (lv_sub hl [0, 1, 2, 3, 4] rfl)
  | succ f ih =>
    intro k i0 i1 hf H locs ls w hl
    refine lv_iload hx hb dX1_floatingFor_3 (lv_at hl 0 rfl) ?_
    refine lv_aload_n hx hb dX1_floatingFor_5 rfl (lv_at hl 2 rfl) ?_
    refine f_9_0 F w (a := a) hk tb_62 dX1_floatingFor_6 ?_
    refine r_val (v := (zI (n : Int))) (hW.1) ?_
    refine z_icmp_ge (tgt := 60) hx hb (by omega) (by omega) dX1_floatingFor_9 (by decide) (fun c1 => ?_) (fun c1 => ?_)
    · exact kk k _ _ ls (by omega) (fun i hi => i1 i (by omega)) w (lv_sub hl [0, 1, 2, 3, 4] rfl)
    · refine lv_iload_n hx hb dX1_floatingFor_12 rfl (lv_at hl 4 rfl) ?_
      refine z_if_eq (tgt := 28) hx hb (by omega) dX1_floatingFor_13 (by decide) (fun c2 => ?_) (fun c2 => ?_)
      · refine lv_iload hx hb dX1_floatingFor_28 (lv_at hl 0 rfl) ?_
        refine lv_istore (lv' := [(5, .int (zI (k : Int))), (4, .int (zI (k : Int))), (0, .ref (B + 23)), (1, .ref (B + a)), (2, .int (zI (j : Int))), (3, .int (zI (x : Int)))]) hx hb dX1_floatingFor_30 hl (by decide) rfl (fun ls hl => ?_)
        refine lv_aload_n hx hb dX1_floatingFor_32 rfl (lv_at hl 3 rfl) ?_
        refine lv_iload hx hb dX1_floatingFor_33 (lv_at hl 0 rfl) ?_
        refine k_Vi F w (As := [.int (zI (k : Int))]) (rest := []) (a := a) (kd_lt (a := a) hk (by decide)) (sh_9 hk _ _) rfl (s_X9_linesFrom hk hW hwf (by omega)) gv_X1_56 hv_X9_linesFrom ⟨(by omega), (by omega)⟩ hl.1 rfl (Nat.le_of_ble_eq_true rfl) ⟨Nat.zero_le _, Nat.zero_le _⟩ dX1_floatingFor_35 (fun r M1 H locs hp w => ?_)
        rcases hp with ⟨⟨k3, ek3, hk3, rfl⟩ | ⟨nk3, rfl⟩, hMe⟩
        · obtain rfl : k = k3 := by omega
          rw [hMe] at w
          have gk3 := (hKL k (by omega)).2
          refine z_if_ne (tgt := 54) hx hb (by omega) dX1_floatingFor_38 (by decide) (fun c4 => ?_) (fun c4 => ?_)
          · refine z_iinc (v := (((k + 1) : Nat) : Int)) (lv' := [(4, .int (zI (((k + 1) : Nat) : Int))), (5, .int (zI (k : Int))), (0, .ref (B + 23)), (1, .ref (B + a)), (2, .int (zI (j : Int))), (3, .int (zI (x : Int)))]) hx hb dX1_floatingFor_54 hl (k := 1) rfl (by omega) (by decide) rfl (fun ls hl => ?_)
            refine lv_goto (tgt := 3) hx hb dX1_floatingFor_57 (by decide) ?_
            exact ih (k + 1) (by omega) (fun i hi => by by_cases h9 : i = k; (rw [h9]; unfold lcand; rw [ixd_0 (by omega)]; rintro ⟨h8, h7⟩; first | omega | exact absurd h7 (by assumption)); exact i1 i (by omega)) (by omega) _ _ ls w (lv_sub hl [0, 2, 3, 4, 5] rfl)
          · refine lv_aload_n hx hb dX1_floatingFor_41 rfl (lv_at hl 3 rfl) ?_
            refine lv_iload hx hb dX1_floatingFor_42 (lv_at hl 0 rfl) ?_
            refine lv_iload_n hx hb dX1_floatingFor_44 rfl (lv_at hl 4 rfl) ?_
            refine k_Vi F w (As := [.int (zI (k : Int)), .int (zI (j : Int))]) (rest := []) (a := a) (kd_lt (a := a) hk (by decide)) (sh_9 hk _ _) rfl (s_X9_isOpen hk hW hwf (by omega) (by omega)) gv_X1_60 hv_X9_isOpen ⟨(by omega), (by omega)⟩ hl.1 rfl (Nat.le_of_ble_eq_true rfl) ⟨Nat.zero_le _, Nat.zero_le _⟩ dX1_floatingFor_45 (fun r M1 H locs hp w => ?_)
            rcases hp with ⟨⟨⟨k9, j9, e91, e92, hk9, hj9, ho5⟩, rfl⟩ | ⟨ho5, rfl⟩, hMe⟩
            · obtain rfl : k = k9 := by omega
              obtain rfl : j = j9 := by omega
              rw [hMe] at w
              refine z_if_eq (tgt := 54) hx hb (by omega) dX1_floatingFor_48 (by decide) (fun c6 => False.elim (by omega)) (fun c6 => ?_)
              refine lv_iload hx hb dX1_floatingFor_51 (lv_at hl 0 rfl) ?_
              exact e_i F w hr hlocks ⟨congrArg zI (lf_s (by omega) (ixd_0 (by omega)) (by omega) (by assumption) i1).symm, rfl⟩ dX1_floatingFor_53
            · replace ho5 : ¬ openP n L k j := fun h9 => ho5 ⟨_, _, rfl, rfl, by omega, by omega, h9⟩
              rw [hMe] at w
              refine z_if_eq (tgt := 54) hx hb (by omega) dX1_floatingFor_48 (by decide) (fun c7 => ?_) (fun c7 => False.elim (by omega))
              refine z_iinc (v := (((k + 1) : Nat) : Int)) (lv' := [(4, .int (zI (((k + 1) : Nat) : Int))), (5, .int (zI (k : Int))), (0, .ref (B + 23)), (1, .ref (B + a)), (2, .int (zI (j : Int))), (3, .int (zI (x : Int)))]) hx hb dX1_floatingFor_54 hl (k := 1) rfl (by omega) (by decide) rfl (fun ls hl => ?_)
              refine lv_goto (tgt := 3) hx hb dX1_floatingFor_57 (by decide) ?_
              exact ih (k + 1) (by omega) (fun i hi => by by_cases h9 : i = k; (rw [h9]; unfold lcand; rw [ixd_0 (by omega)]; rintro ⟨h8, h7⟩; first | omega | exact absurd h7 (by assumption)); exact i1 i (by omega)) (by omega) _ _ ls w (lv_sub hl [0, 2, 3, 4, 5] rfl)
        · exact False.elim (by omega)
      · refine lv_aload_n hx hb dX1_floatingFor_16 rfl (lv_at hl 2 rfl) ?_
        refine f_9_0 F w (a := a) hk tb_62 dX1_floatingFor_17 ?_
        refine r_val (v := (zI (n : Int))) (hW.1) ?_
        refine lv_iconst (v := zI 1) hx hb dX1_floatingFor_20 rfl ?_
        refine z_isub (z := ((n : Int) - 1)) hx hb dX1_floatingFor_21 (by omega) ?_
        refine lv_iload hx hb dX1_floatingFor_22 (lv_at hl 0 rfl) ?_
        refine z_isub (z := (((n : Int) - 1) - (k : Int))) hx hb dX1_floatingFor_24 (by omega) ?_
        refine r_val (v := (zI (((n - 1 - k) : Nat) : Int))) (congrArg zI (by omega)) ?_
        refine lv_goto (tgt := 30) hx hb dX1_floatingFor_25 (by decide) ?_
        refine lv_istore (lv' := [(5, .int (zI (((n - 1 - k) : Nat) : Int))), (4, .int (zI (k : Int))), (0, .ref (B + 23)), (1, .ref (B + a)), (2, .int (zI (j : Int))), (3, .int (zI (x : Int)))]) hx hb dX1_floatingFor_30 hl (by decide) rfl (fun ls hl => ?_)
        refine lv_aload_n hx hb dX1_floatingFor_32 rfl (lv_at hl 3 rfl) ?_
        refine lv_iload hx hb dX1_floatingFor_33 (lv_at hl 0 rfl) ?_
        refine k_Vi F w (As := [.int (zI (((n - 1 - k) : Nat) : Int))]) (rest := []) (a := a) (kd_lt (a := a) hk (by decide)) (sh_9 hk _ _) rfl (s_X9_linesFrom hk hW hwf (by omega)) gv_X1_56 hv_X9_linesFrom ⟨(by omega), (by omega)⟩ hl.1 rfl (Nat.le_of_ble_eq_true rfl) ⟨Nat.zero_le _, Nat.zero_le _⟩ dX1_floatingFor_35 (fun r M1 H locs hp w => ?_)
        rcases hp with ⟨⟨k8, ek8, hk8, rfl⟩ | ⟨nk8, rfl⟩, hMe⟩
        · obtain rfl : (n - 1 - k) = k8 := by omega
          rw [hMe] at w
          have gk8 := (hKL (n - 1 - k) (by omega)).2
          refine z_if_ne (tgt := 54) hx hb (by omega) dX1_floatingFor_38 (by decide) (fun c9 => ?_) (fun c9 => ?_)
          · refine z_iinc (v := (((k + 1) : Nat) : Int)) (lv' := [(4, .int (zI (((k + 1) : Nat) : Int))), (5, .int (zI (((n - 1 - k) : Nat) : Int))), (0, .ref (B + 23)), (1, .ref (B + a)), (2, .int (zI (j : Int))), (3, .int (zI (x : Int)))]) hx hb dX1_floatingFor_54 hl (k := 1) rfl (by omega) (by decide) rfl (fun ls hl => ?_)
            refine lv_goto (tgt := 3) hx hb dX1_floatingFor_57 (by decide) ?_
            exact ih (k + 1) (by omega) (fun i hi => by by_cases h9 : i = k; (rw [h9]; unfold lcand; rw [ixd_1 (by omega)]; rintro ⟨h8, h7⟩; first | omega | exact absurd h7 (by assumption)); exact i1 i (by omega)) (by omega) _ _ ls w (lv_sub hl [0, 2, 3, 4, 5] rfl)
          · refine lv_aload_n hx hb dX1_floatingFor_41 rfl (lv_at hl 3 rfl) ?_
            refine lv_iload hx hb dX1_floatingFor_42 (lv_at hl 0 rfl) ?_
            refine lv_iload_n hx hb dX1_floatingFor_44 rfl (lv_at hl 4 rfl) ?_
            refine k_Vi F w (As := [.int (zI (((n - 1 - k) : Nat) : Int)), .int (zI (j : Int))]) (rest := []) (a := a) (kd_lt (a := a) hk (by decide)) (sh_9 hk _ _) rfl (s_X9_isOpen hk hW hwf (by omega) (by omega)) gv_X1_60 hv_X9_isOpen ⟨(by omega), (by omega)⟩ hl.1 rfl (Nat.le_of_ble_eq_true rfl) ⟨Nat.zero_le _, Nat.zero_le _⟩ dX1_floatingFor_45 (fun r M1 H locs hp w => ?_)
            rcases hp with ⟨⟨⟨k9, j9, e91, e92, hk9, hj9, ho10⟩, rfl⟩ | ⟨ho10, rfl⟩, hMe⟩
            · obtain rfl : (n - 1 - k) = k9 := by omega
              obtain rfl : j = j9 := by omega
              rw [hMe] at w
              refine z_if_eq (tgt := 54) hx hb (by omega) dX1_floatingFor_48 (by decide) (fun c11 => False.elim (by omega)) (fun c11 => ?_)
              refine lv_iload hx hb dX1_floatingFor_51 (lv_at hl 0 rfl) ?_
              exact e_i F w hr hlocks ⟨congrArg zI (lf_s (by omega) (ixd_1 (by omega)) (by omega) (by assumption) i1).symm, rfl⟩ dX1_floatingFor_53
            · replace ho10 : ¬ openP n L (n - 1 - k) j := fun h9 => ho10 ⟨_, _, rfl, rfl, by omega, by omega, h9⟩
              rw [hMe] at w
              refine z_if_eq (tgt := 54) hx hb (by omega) dX1_floatingFor_48 (by decide) (fun c12 => ?_) (fun c12 => False.elim (by omega))
              refine z_iinc (v := (((k + 1) : Nat) : Int)) (lv' := [(4, .int (zI (((k + 1) : Nat) : Int))), (5, .int (zI (((n - 1 - k) : Nat) : Int))), (0, .ref (B + 23)), (1, .ref (B + a)), (2, .int (zI (j : Int))), (3, .int (zI (x : Int)))]) hx hb dX1_floatingFor_54 hl (k := 1) rfl (by omega) (by decide) rfl (fun ls hl => ?_)
              refine lv_goto (tgt := 3) hx hb dX1_floatingFor_57 (by decide) ?_
              exact ih (k + 1) (by omega) (fun i hi => by by_cases h9 : i = k; (rw [h9]; unfold lcand; rw [ixd_1 (by omega)]; rintro ⟨h8, h7⟩; first | omega | exact absurd h7 (by assumption)); exact i1 i (by omega)) (by omega) _ _ ls w (lv_sub hl [0, 2, 3, 4, 5] rfl)
        · exact False.elim (by omega)
theorem dX1_floatingFor_0 : decode cX1_floatingFor 0 = .ok (.iconst 0, 1) := dq0 kk_3 (by decide +kernel)
theorem dX1_floatingFor_1 : decode cX1_floatingFor 1 = .ok (.istore 4, 2) := dqU kk_54 (by decide +kernel)
theorem dX1_floatingFor_60 : decode cX1_floatingFor 60 = .ok (.iconst (-1), 1) := dq0 kk_2 (by decide +kernel)
theorem dX1_floatingFor_61 : decode cX1_floatingFor 61 = .ok (.ireturn, 1) := dq0 kk_172 (by decide +kernel)
set_option maxRecDepth 4000 in
theorem s_X1_floatingFor {l : Launch} {D : va_G} {B : Nat} {cy : Nat → ClassId} {M : Mem} {a n q hv ed : Nat} {K L : Nat → Nat} (hk : kd a = (9, 0, 0)) (hW : isW M a n q hv ed K L) (hwf : wf n q hv ed K L) {j x : Nat} (hj : j < q) (hx9 : x = 0 ∨ x = 1) : Ci l D B cy yX1_floatingFor cX1_floatingFor 6 (some .int) 2 48 [.ref (B + 23), .ref (B + a), .int (zI (j : Int)), .int (zI (x : Int))] M (fun r M1 => r = zI (lf n L x j) ∧ M1 = M) := by
  refine s_any (by decide) (Nat.le_of_ble_eq_true rfl) ?_
  intro p e s m below meth c ls F hr hlocks w hl
  have F : CallFix p m c cX1_floatingFor 6 s _ TB RX1 := F
  have hx := F.1
  have hb := F.2.1
  have hl : lv_has ls 6 [(0, .ref (B + 23)), (1, .ref (B + a)), (2, .int (zI (j : Int))), (3, .int (zI (x : Int)))] := hl
  have hwf0 := hwf
  obtain ⟨hn, hq, hhv, hed, hKL⟩ := hwf0
  refine lv_iconst (v := zI 0) hx hb dX1_floatingFor_0 rfl ?_
  refine lv_istore (lv' := [(4, .int (zI 0)), (0, .ref (B + 23)), (1, .ref (B + a)), (2, .int (zI (j : Int))), (3, .int (zI (x : Int)))]) hx hb dX1_floatingFor_1 hl (by decide) rfl (fun ls hl => ?_)
  refine lp_X1_floatingFor  F hr hlocks (Nat.le_of_ble_eq_true rfl) (Nat.le_of_ble_eq_true rfl) hk hW hwf hj hx9 (fun k H locs ls x0 x1 w hl => ?_) n 0 (by omega) (fun i hi => absurd hi (Nat.not_lt_zero i)) (by omega) _ _ ls w (lv_sub hl [0, 1, 2, 3, 4] rfl)
  refine lv_iconst (v := zI (-1)) hx hb dX1_floatingFor_60 rfl ?_
  exact e_i F w hr hlocks ⟨congrArg zI (lf_n x1).symm, rfl⟩ dX1_floatingFor_61
