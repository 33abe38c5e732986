noncomputable def dkG (q t x : Nat) (o : Wo) : Wo × Nat := if o.2.2 t = 0 then dkF q t x o else (o, 0)
theorem dkG_0 {q t x : Nat} {o : Wo} (h : o.2.2 t = 0) : dkG q t x o = dkF q t x o := by unfold dkG; rw [if_pos h]
theorem dkG_1 {q t x : Nat} {o : Wo} (h : o.2.2 t ≠ 0) : dkG q t x o = (o, 0) := by unfold dkG; rw [if_neg h]
theorem dk_r {q t k s9 : Nat} {o : Wo} (hk : k < o.1) (h0 : o.2.2 k ≠ 0) (ht : t < k) (hz : ∀ i, t < i → i < k → o.2.2 i = 0) (hs : lowI (o.2.2 k) = (s9 : Int)) (ho : openP o.1 o.2.2 t s9) : dkC q o t 0 s9 := ⟨k, ⟨hk, h0, Or.inl ⟨rfl, ht, hz⟩⟩, by rw [if_neg (by decide)]; rw [lowI_nz h0] at hs; omega, ho⟩
theorem dk_l {q t k s9 : Nat} {o : Wo} (hk : k < o.1) (h0 : o.2.2 k ≠ 0) (ht : k < t) (hz : ∀ i, k < i → i < t → o.2.2 i = 0) (hs : higI (o.2.2 k) = (s9 : Int)) (ho : openP o.1 o.2.2 t s9) : dkC q o t 1 s9 := ⟨k, ⟨hk, h0, Or.inr ⟨rfl, ht, hz⟩⟩, by rw [if_pos rfl]; rw [higI_nz h0] at hs; omega, ho⟩
theorem dk_rn {q t k : Nat} {o : Wo} (hC : okW q o) (hz : ∀ i, t < i → i < k → o.2.2 i = 0) (ht : t < k) (h0 : k < o.1 → o.2.2 k ≠ 0) (hkn : k ≤ o.1) (h : k < o.1 → ∀ s9 : Nat, lowI (o.2.2 k) = (s9 : Int) → s9 < q → ¬ openP o.1 o.2.2 t s9) : ∀ s9, ¬ dkC q o t 0 s9 := by
  rintro s9 ⟨u, ⟨hu, hu0, hu1 | hu1⟩, hs, ho⟩
  · by_cases hk : k < o.1
    · have e := dkU_u (x := 0) ⟨hu, hu0, Or.inl hu1⟩ ⟨hk, h0 hk, Or.inl ⟨rfl, ht, hz⟩⟩
      subst e
      rw [if_neg (by decide)] at hs
      exact h hk s9 (by rw [lowI_nz hu0]; omega) (by rw [hs]; exact low_q (hC.lt hu) hu0 (hC.2.2 u hu).2) ho
    · exact absurd (hz u hu1.2.1 (by omega)) hu0
  · exact absurd hu1.1 (by decide)
theorem dk_ln {q t k : Nat} {o : Wo} (hC : okW q o) (hz : ∀ i, k ≤ i → i < t → o.2.2 i = 0) (ht : k ≤ t) (htn : t < o.1) (h0 : 0 < k → o.2.2 (k - 1) ≠ 0) (h : 0 < k → ∀ s9 : Nat, higI (o.2.2 (k - 1)) = (s9 : Int) → s9 < q → ¬ openP o.1 o.2.2 t s9) : ∀ s9, ¬ dkC q o t 1 s9 := by
  rintro s9 ⟨u, ⟨hu, hu0, hu1 | hu1⟩, hs, ho⟩
  · exact absurd hu1.1 (by decide)
  · by_cases hk : 0 < k
    · have e := dkU_u (x := 1) ⟨hu, hu0, Or.inr hu1⟩ ⟨show k - 1 < o.1 by omega, h0 hk, Or.inr ⟨rfl, by omega, fun i h1 h2 => hz i (by omega) h2⟩⟩
      subst e
      rw [if_pos rfl] at hs
      exact h hk s9 (by rw [higI_nz hu0]; omega) (by rw [hs]; exact hig_q (hC.lt hu) hu0 (hC.2.2 _ hu).2) ho
    · exact absurd (hz u (by omega) hu1.2.1) hu0
theorem wdX1_dock_36 : decode cX1_dock 36 = .ok (.aload_n 1, 1) := dq0 kk_43 (by decide +kernel)
theorem wdX1_dock_37 : decode cX1_dock 37 = .ok (.iload 5, 2) := dqU kk_21 (by decide +kernel)
theorem wdX1_dock_39 : decode cX1_dock 39 = .ok (.invokevirtual 47, 3) := dqV kk_182 (by decide +kernel)
theorem wdX1_dock_42 : decode cX1_dock 42 = .ok (.ifCond .eq 22, 3) := dqT kk_153 (by decide +kernel)
theorem wdX1_dock_45 : decode cX1_dock 45 = .ok (.aload_n 1, 1) := dq0 kk_43 (by decide +kernel)
theorem wdX1_dock_46 : decode cX1_dock 46 = .ok (.iload 5, 2) := dqU kk_21 (by decide +kernel)
theorem wdX1_dock_48 : decode cX1_dock 48 = .ok (.invokevirtual 56, 3) := dqV kk_182 (by decide +kernel)
theorem wtb_33 : Cond.methodLink "ToneLines$Doer" 56 yX9_linesFrom ∈ TB := tb_63
theorem wgv_X1_56 : GoodIn TB (wsV RX1 56 RX9 yX9_linesFrom (cw yX9_linesFrom cX9_linesFrom 2 (some .int))) := goodIn_4 wtb_33 wtb_1 wtb_2 wtb_3 wgc_X9_linesFrom
theorem wdX1_dock_51 : decode cX1_dock 51 = .ok (.ifCond .ne 13, 3) := dqT kk_154 (by decide +kernel)
theorem wdX1_dock_54 : decode cX1_dock 54 = .ok (.iload 5, 2) := dqU kk_21 (by decide +kernel)
theorem wdX1_dock_56 : decode cX1_dock 56 = .ok (.iload 4, 2) := dqU kk_21 (by decide +kernel)
theorem wdX1_dock_58 : decode cX1_dock 58 = .ok (.iadd, 1) := dq0 kk_96 (by decide +kernel)
theorem wdX1_dock_59 : decode cX1_dock 59 = .ok (.istore 5, 2) := dqU kk_54 (by decide +kernel)
theorem wdX1_dock_61 : decode cX1_dock 61 = .ok (.goto (-25), 3) := dqT kk_167 (by decide +kernel)
set_option maxRecDepth 4000 in
theorem lp_X1_dock_0 {p : Program} {l : Launch} {e : Env} {s : State} {m : MethodId} {args : Array Value} {below : List Frame} {meth : Method} {c : Code} {D : va_G} {B : Nat} {cy : Nat → ClassId} {H0 : Heap} {Q : State → Prop} {M : Mem} {R : Room} {a q hv ed t x : Nat} {o : Wo} (F : CallFix p m c cX1_dock 7 s args TB RX1) (hR1 : 2 ≤ R.frames) (hR2 : 42 ≤ R.locals) (hk : kd a = (9, 0, 0)) (hC : CW M a q hv ed o) (ht : t < o.1) (kk : ∀ (k : Nat) (H : Heap) (locs : List Loc) (ls : Array Slot), (t < k ∧ k ≤ o.1) → (∀ i, t < i → i < k → o.2.2 i = 0) → (k < o.1 → o.2.2 k ≠ 0) → Wd D B cy s H0 M H locs → lv_has ls 7 [(5, .int (zI (k : Int))), (4, .int (zI 1)), (0, .ref (B + 23)), (1, .ref (B + a)), (2, .int (zI (t : Int))), (3, .int (zI (x : Int)))] → W p l e R s m args below meth c H locs 0 0 Q (F0 m 64 ls [])) : ∀ (f : Nat) (k : Nat), (t < k ∧ k ≤ o.1) → (∀ i, t < i → i < k → o.2.2 i = 0) → (o.1 ≤ k + f) → ∀ (H : Heap) (locs : List Loc) (ls : Array Slot), Wd D B cy s H0 M H locs → lv_has ls 7 [(5, .int (zI (k : Int))), (4, .int (zI 1)), (0, .ref (B + 23)), (1, .ref (B + a)), (2, .int (zI (t : Int))), (3, .int (zI (x : Int)))] → W p l e R s m args below meth c H locs 0 0 Q (F0 m 36 ls []) := by
  have hx := F.1
  have hb := F.2.1
  have hW := hC.1
  have hwf := hC.wf
  have hKL := hwf.2.2.2.2
  have hn12 := hwf.1
  have hq12 := hwf.2.1
  intro f
  induction f with
  | zero =>
    intro k i0 i1 hf H locs ls w hl
    refine lv_aload_n hx hb wdX1_dock_36 rfl (lv_at hl 3 rfl) ?_
    refine lv_iload hx hb wdX1_dock_37 (lv_at hl 0 rfl) ?_
    refine k_Vi F w (As := [.int (zI (k : Int))]) (rest := []) (a := a) (kd_lt (a := a) hk (by decide)) (sh_9 hk _ _) rfl (s_X9_hasTone hk hW hwf (by omega)) wgv_X1_47 whv_X9_hasTone ⟨(by omega), (by omega)⟩ hl.1 rfl (Nat.le_of_ble_eq_true rfl) ⟨Nat.zero_le _, Nat.zero_le _⟩ wdX1_dock_39 (fun r Ma2 H locs hp w => ?_)
    rcases hp with ⟨⟨k1, ek1, hk1, rfl⟩ | ⟨nk1, rfl⟩, hMe⟩
    · rw [hMe] at w
      refine z_if_eq (tgt := 64) hx hb (by omega) wdX1_dock_42 (by decide) (fun c3 => False.elim (by omega)) (fun c3 => ?_)
      refine lv_aload_n hx hb wdX1_dock_45 rfl (lv_at hl 3 rfl) ?_
      refine lv_iload hx hb wdX1_dock_46 (lv_at hl 0 rfl) ?_
      refine k_Vi F w (As := [.int (zI (k : Int))]) (rest := []) (a := a) (kd_lt (a := a) hk (by decide)) (sh_9 hk _ _) rfl (s_X9_linesFrom hk hW hwf (by omega)) wgv_X1_56 whv_X9_linesFrom ⟨(by omega), (by omega)⟩ hl.1 rfl (Nat.le_of_ble_eq_true rfl) ⟨Nat.zero_le _, Nat.zero_le _⟩ wdX1_dock_48 (fun r Ma5 H locs hp w => ?_)
      rcases hp with ⟨⟨k4, ek4, hk4, rfl⟩ | ⟨nk4, rfl⟩, hMe⟩
      · obtain rfl : k = k4 := by omega
        rw [hMe] at w
        have gk4 := (hKL k (by omega)).2
        refine z_if_ne (tgt := 64) hx hb (by omega) wdX1_dock_51 (by decide) (fun c6 => ?_) (fun c6 => ?_)
        · exact kk k _ _ ls i0 i1 (fun _ => by omega) w (lv_sub hl [0, 1, 2, 3, 4, 5] rfl)
        · refine lv_iload hx hb wdX1_dock_54 (lv_at hl 0 rfl) ?_
          refine lv_iload hx hb wdX1_dock_56 (lv_at hl 1 rfl) ?_
          refine z_iadd (z := (((k + 1) : Nat) : Int)) hx hb wdX1_dock_58 (by omega) ?_
          refine lv_istore (lv' := [(5, .int (zI (((k + 1) : Nat) : Int))), (4, .int (zI 1)), (0, .ref (B + 23)), (1, .ref (B + a)), (2, .int (zI (t : Int))), (3, .int (zI (x : Int)))]) hx hb wdX1_dock_59 hl (by decide) rfl (fun ls hl => ?_)
          refine lv_goto (tgt := 36) hx hb wdX1_dock_61 (by decide) ?_
          exact False.elim (by omega)
      · exact False.elim (by omega)
    · rw [hMe] at w
      refine z_if_eq (tgt := 64) hx hb (by omega) wdX1_dock_42 (by decide) (fun c7 => ?_) (fun c7 => False.elim (by omega))
      exact kk k _ _ ls i0 i1 (fun _ => by omega) w (lv_sub hl [0, 1, 2, 3, 4, 5] rfl)
  | succ f ih =>
    intro k i0 i1 hf H locs ls w hl
    refine lv_aload_n hx hb wdX1_dock_36 rfl (lv_at hl 3 rfl) ?_
    refine lv_iload hx hb wdX1_dock_37 (lv_at hl 0 rfl) ?_
    refine k_Vi F w (As := [.int (zI (k : Int))]) (rest := []) (a := a) (kd_lt (a := a) hk (by decide)) (sh_9 hk _ _) rfl (s_X9_hasTone hk hW hwf (by omega)) wgv_X1_47 whv_X9_hasTone ⟨(by omega), (by omega)⟩ hl.1 rfl (Nat.le_of_ble_eq_true rfl) ⟨Nat.zero_le _, Nat.zero_le _⟩ wdX1_dock_39 (fun r Ma2 H locs hp w => ?_)
    rcases hp with ⟨⟨k1, ek1, hk1, rfl⟩ | ⟨nk1, rfl⟩, hMe⟩
    · rw [hMe] at w
      refine z_if_eq (tgt := 64) hx hb (by omega) wdX1_dock_42 (by decide) (fun c3 => False.elim (by omega)) (fun c3 => ?_)
      refine lv_aload_n hx hb wdX1_dock_45 rfl (lv_at hl 3 rfl) ?_
      refine lv_iload hx hb wdX1_dock_46 (lv_at hl 0 rfl) ?_
      refine k_Vi F w (As := [.int (zI (k : Int))]) (rest := []) (a := a) (kd_lt (a := a) hk (by decide)) (sh_9 hk _ _) rfl (s_X9_linesFrom hk hW hwf (by omega)) wgv_X1_56 whv_X9_linesFrom ⟨(by omega), (by omega)⟩ hl.1 rfl (Nat.le_of_ble_eq_true rfl) ⟨Nat.zero_le _, Nat.zero_le _⟩ wdX1_dock_48 (fun r Ma5 H locs hp w => ?_)
      rcases hp with ⟨⟨k4, ek4, hk4, rfl⟩ | ⟨nk4, rfl⟩, hMe⟩
      · obtain rfl : k = k4 := by omega
        rw [hMe] at w
        have gk4 := (hKL k (by omega)).2
        refine z_if_ne (tgt := 64) hx hb (by omega) wdX1_dock_51 (by decide) (fun c6 => ?_) (fun c6 => ?_)
        · exact kk k _ _ ls i0 i1 (fun _ => by omega) w (lv_sub hl [0, 1, 2, 3, 4, 5] rfl)
        · refine lv_iload hx hb wdX1_dock_54 (lv_at hl 0 rfl) ?_
          refine lv_iload hx hb wdX1_dock_56 (lv_at hl 1 rfl) ?_
          refine z_iadd (z := (((k + 1) : Nat) : Int)) hx hb wdX1_dock_58 (by omega) ?_
          refine lv_istore (lv' := [(5, .int (zI (((k + 1) : Nat) : Int))), (4, .int (zI 1)), (0, .ref (B + 23)), (1, .ref (B + a)), (2, .int (zI (t : Int))), (3, .int (zI (x : Int)))]) hx hb wdX1_dock_59 hl (by decide) rfl (fun ls hl => ?_)
          refine lv_goto (tgt := 36) hx hb wdX1_dock_61 (by decide) ?_
          exact ih (k + 1) (by omega) (fun i h1 h2 => by by_cases h9 : i = k; (subst h9; omega); exact i1 i h1 (by omega)) (by omega) _ _ ls w (lv_sub hl [0, 1, 2, 3, 4, 5] rfl)
      · exact False.elim (by omega)
    · rw [hMe] at w
      refine z_if_eq (tgt := 64) hx hb (by omega) wdX1_dock_42 (by decide) (fun c7 => ?_) (fun c7 => False.elim (by omega))
      exact kk k _ _ ls i0 i1 (fun _ => by omega) w (lv_sub hl [0, 1, 2, 3, 4, 5] rfl)
theorem wdX1_dock_0 : decode cX1_dock 0 = .ok (.aload_n 1, 1) := dq0 kk_43 (by decide +kernel)
theorem wdX1_dock_1 : decode cX1_dock 1 = .ok (.iload_n 2, 1) := dq0 kk_28 (by decide +kernel)
theorem wdX1_dock_2 : decode cX1_dock 2 = .ok (.invokevirtual 47, 3) := dqV kk_182 (by decide +kernel)
theorem wdX1_dock_5 : decode cX1_dock 5 = .ok (.ifCond .eq 12, 3) := dqT kk_153 (by decide +kernel)
theorem wdX1_dock_8 : decode cX1_dock 8 = .ok (.aload_n 1, 1) := dq0 kk_43 (by decide +kernel)
theorem wdX1_dock_9 : decode cX1_dock 9 = .ok (.getfield 50, 3) := dqV kk_180 (by decide +kernel)
theorem wdX1_dock_12 : decode cX1_dock 12 = .ok (.iload_n 2, 1) := dq0 kk_28 (by decide +kernel)
theorem wdX1_dock_13 : decode cX1_dock 13 = .ok (.iaload, 1) := dq0 kk_46 (by decide +kernel)
theorem wdX1_dock_14 : decode cX1_dock 14 = .ok (.ifCond .eq 5, 3) := dqT kk_153 (by decide +kernel)
theorem wdX1_dock_19 : decode cX1_dock 19 = .ok (.iload_n 3, 1) := dq0 kk_29 (by decide +kernel)
theorem wdX1_dock_20 : decode cX1_dock 20 = .ok (.ifCond .eq 7, 3) := dqT kk_153 (by decide +kernel)
theorem wdX1_dock_27 : decode cX1_dock 27 = .ok (.iconst 1, 1) := dq0 kk_4 (by decide +kernel)
theorem wdX1_dock_28 : decode cX1_dock 28 = .ok (.istore 4, 2) := dqU kk_54 (by decide +kernel)
theorem wdX1_dock_30 : decode cX1_dock 30 = .ok (.iload_n 2, 1) := dq0 kk_28 (by decide +kernel)
theorem wdX1_dock_31 : decode cX1_dock 31 = .ok (.iload 4, 2) := dqU kk_21 (by decide +kernel)
theorem wdX1_dock_33 : decode cX1_dock 33 = .ok (.iadd, 1) := dq0 kk_96 (by decide +kernel)
theorem wdX1_dock_34 : decode cX1_dock 34 = .ok (.istore 5, 2) := dqU kk_54 (by decide +kernel)
theorem wdX1_dock_64 : decode cX1_dock 64 = .ok (.iload_n 3, 1) := dq0 kk_29 (by decide +kernel)
theorem wdX1_dock_65 : decode cX1_dock 65 = .ok (.ifCond .eq 15, 3) := dqT kk_153 (by decide +kernel)
theorem wdX1_dock_80 : decode cX1_dock 80 = .ok (.aload_n 1, 1) := dq0 kk_43 (by decide +kernel)
theorem wdX1_dock_81 : decode cX1_dock 81 = .ok (.iload 5, 2) := dqU kk_21 (by decide +kernel)
theorem wdX1_dock_83 : decode cX1_dock 83 = .ok (.invokevirtual 56, 3) := dqV kk_182 (by decide +kernel)
theorem wdX1_dock_86 : decode cX1_dock 86 = .ok (.invokestatic 75, 3) := dqV kk_184 (by decide +kernel)
theorem wdX1_dock_89 : decode cX1_dock 89 = .ok (.istore 6, 2) := dqU kk_54 (by decide +kernel)
theorem wdX1_dock_91 : decode cX1_dock 91 = .ok (.aload_n 1, 1) := dq0 kk_43 (by decide +kernel)
theorem wdX1_dock_92 : decode cX1_dock 92 = .ok (.iload_n 2, 1) := dq0 kk_28 (by decide +kernel)
theorem wdX1_dock_93 : decode cX1_dock 93 = .ok (.iload 6, 2) := dqU kk_21 (by decide +kernel)
theorem wdX1_dock_95 : decode cX1_dock 95 = .ok (.invokevirtual 60, 3) := dqV kk_182 (by decide +kernel)
theorem wtk_X9_isOpen : Cond.code yX9_isOpen cX9_isOpen 3 (some .boolean) ∈ TB := tk_X9_isOpen
theorem wgc_X9_isOpen : GoodIn TB (cw yX9_isOpen cX9_isOpen 3 (some .boolean)) := goodIn_c2 wtk_X9_isOpen
theorem wtb_34 : Cond.methodLink "ToneLines$Doer" 60 yX9_isOpen ∈ TB := tb_66
theorem wtb_35 : Cond.instanceMethod yX9_isOpen ∈ TB := tb_67
theorem wtb_36 : Cond.selects "ToneLines$Word" yX9_isOpen yX9_isOpen ∈ TB := tb_68
theorem wgv_X1_60 : GoodIn TB (wsV RX1 60 RX9 yX9_isOpen (cw yX9_isOpen cX9_isOpen 3 (some .boolean))) := goodIn_4 wtb_34 wtb_35 wtb_36 wtb_3 wgc_X9_isOpen
theorem whv_X9_isOpen : yX9_isOpen.cls = RX9 ∧ yX9_isOpen.cls ≠ "java/lang/invoke/MethodHandle" ∧ yX9_isOpen.cls ≠ "java/lang/invoke/VarHandle" ∧ (parseMethodDescriptor yX9_isOpen.desc).map (fun d => d.parameters.length) = some 2 := hv_X9_isOpen
theorem wdX1_dock_98 : decode cX1_dock 98 = .ok (.ifCond .ne 5, 3) := dqT kk_154 (by decide +kernel)
theorem wdX1_dock_103 : decode cX1_dock 103 = .ok (.aload_n 1, 1) := dq0 kk_43 (by decide +kernel)
theorem wdX1_dock_104 : decode cX1_dock 104 = .ok (.getfield 50, 3) := dqV kk_180 (by decide +kernel)
theorem wdX1_dock_107 : decode cX1_dock 107 = .ok (.iload_n 2, 1) := dq0 kk_28 (by decide +kernel)
theorem wdX1_dock_108 : decode cX1_dock 108 = .ok (.dup2, 1) := dq0 kk_92 (by decide +kernel)
theorem wdX1_dock_109 : decode cX1_dock 109 = .ok (.iaload, 1) := dq0 kk_46 (by decide +kernel)
theorem wdX1_dock_110 : decode cX1_dock 110 = .ok (.iconst 1, 1) := dq0 kk_4 (by decide +kernel)
theorem wdX1_dock_111 : decode cX1_dock 111 = .ok (.iload 6, 2) := dqU kk_21 (by decide +kernel)
theorem wdX1_dock_113 : decode cX1_dock 113 = .ok (.ishl, 1) := dq0 kk_120 (by decide +kernel)
theorem wdX1_dock_114 : decode cX1_dock 114 = .ok (.ior, 1) := dq0 kk_128 (by decide +kernel)
theorem wdX1_dock_115 : decode cX1_dock 115 = .ok (.iastore, 1) := dq0 kk_79 (by decide +kernel)
theorem wdX1_dock_116 : decode cX1_dock 116 = .ok (.iconst 1, 1) := dq0 kk_4 (by decide +kernel)
theorem wdX1_dock_117 : decode cX1_dock 117 = .ok (.ireturn, 1) := dq0 kk_172 (by decide +kernel)
theorem wdX1_dock_101 : decode cX1_dock 101 = .ok (.iconst 0, 1) := dq0 kk_3 (by decide +kernel)
theorem wdX1_dock_102 : decode cX1_dock 102 = .ok (.ireturn, 1) := dq0 kk_172 (by decide +kernel)
theorem wdX1_dock_17 : decode cX1_dock 17 = .ok (.iconst 0, 1) := dq0 kk_3 (by decide +kernel)
theorem wdX1_dock_18 : decode cX1_dock 18 = .ok (.ireturn, 1) := dq0 kk_172 (by decide +kernel)
set_option maxRecDepth 4000 in
theorem s_X1_dock_0 {l : Launch} {D : va_G} {B : Nat} {cy : Nat → ClassId} {M : Mem} {a q hv ed : Nat} {o : Wo} (hk : kd a = (9, 0, 0)) (hC : CW M a q hv ed o) {t x : Nat} (ht : t < o.1) (hxv : x = 0) : Ci l D B cy yX1_dock cX1_dock 7 (some .int) 2 48 [.ref (B + 23), .ref (B + a), .int (zI (t : Int)), .int (zI (x : Int))] M (fun r M1 => ∃ o1 cc, dkG q t x o = (o1, cc) ∧ r = zI ((cc : Nat) : Int) ∧ CW M1 a q hv ed o1 ∧ Fr3 M1 M a ∧ cc ≤ 1) := by
  refine s_any (by decide) (Nat.le_of_ble_eq_true rfl) ?_
  intro p e s m below meth c ls F hr hlocks w hl
  have F : CallFix p m c cX1_dock 7 s _ TB RX1 := F
  have hx := F.1
  have hb := F.2.1
  have hl : lv_has ls 7 [(0, .ref (B + 23)), (1, .ref (B + a)), (2, .int (zI (t : Int))), (3, .int (zI (x : Int)))] := hl
  have hW := hC.1
  have hwf := hC.wf
  have hKL := hwf.2.2.2.2
  have hn12 := hwf.1
  have hq12 := hwf.2.1
  refine lv_aload_n hx hb wdX1_dock_0 rfl (lv_at hl 1 rfl) ?_
  refine lv_iload_n hx hb wdX1_dock_1 rfl (lv_at hl 2 rfl) ?_
  refine k_Vi F w (As := [.int (zI (t : Int))]) (rest := []) (a := a) (kd_lt (a := a) hk (by decide)) (sh_9 hk _ _) rfl (s_X9_hasTone hk hW hwf (by omega)) wgv_X1_47 whv_X9_hasTone ⟨(Nat.le_of_ble_eq_true rfl), (Nat.le_of_ble_eq_true rfl)⟩ hl.1 rfl (Nat.le_of_ble_eq_true rfl) ⟨Nat.zero_le _, Nat.zero_le _⟩ wdX1_dock_2 (fun r Ma2 H locs hp w => ?_)
  rcases hp with ⟨⟨k1, ek1, hk1, rfl⟩ | ⟨nk1, rfl⟩, hMe⟩
  · rw [hMe] at w
    refine z_if_eq (tgt := 17) hx hb (by omega) wdX1_dock_5 (by decide) (fun c3 => False.elim (by omega)) (fun c3 => ?_)
    refine lv_aload_n hx hb wdX1_dock_8 rfl (lv_at hl 1 rfl) ?_
    refine f_9_5 F w (a := a) hk wtb_27 wdX1_dock_9 ?_
    refine lv_iload_n hx hb wdX1_dock_12 rfl (lv_at hl 2 rfl) ?_
    refine g_iald F w (a := (a + 2)) (kd_w2 hk) (j := t) (ix_n (by omega)) (by omega) wdX1_dock_13 ?_
    have hL3 := (hKL t (by omega)).2
    refine r_val (v := (zI (((o.2.2 t) : Nat) : Int))) (hW.2.2.2.2.2 t (by omega)) ?_
    refine z_if_eq (tgt := 19) hx hb (by omega) wdX1_dock_14 (by decide) (fun c4 => ?_) (fun c4 => ?_)
    · refine lv_iload_n hx hb wdX1_dock_19 rfl (lv_at hl 3 rfl) ?_
      refine z_if_eq (tgt := 27) hx hb (by omega) wdX1_dock_20 (by decide) (fun c5 => ?_) (fun c5 => False.elim (by omega))
      refine lv_iconst (v := zI 1) hx hb wdX1_dock_27 rfl ?_
      refine lv_istore (lv' := [(4, .int (zI 1)), (0, .ref (B + 23)), (1, .ref (B + a)), (2, .int (zI (t : Int))), (3, .int (zI (x : Int)))]) hx hb wdX1_dock_28 hl (by decide) rfl (fun ls hl => ?_)
      refine lv_iload_n hx hb wdX1_dock_30 rfl (lv_at hl 3 rfl) ?_
      refine lv_iload hx hb wdX1_dock_31 (lv_at hl 0 rfl) ?_
      refine z_iadd (z := (((t + 1) : Nat) : Int)) hx hb wdX1_dock_33 (by omega) ?_
      refine lv_istore (lv' := [(5, .int (zI (((t + 1) : Nat) : Int))), (4, .int (zI 1)), (0, .ref (B + 23)), (1, .ref (B + a)), (2, .int (zI (t : Int))), (3, .int (zI (x : Int)))]) hx hb wdX1_dock_34 hl (by decide) rfl (fun ls hl => ?_)
      refine lp_X1_dock_0  F (Nat.le_of_ble_eq_true rfl) (Nat.le_of_ble_eq_true rfl) hk hC ht (fun k H locs ls x0 x1 x2 w hl => ?_) 12 (t + 1) (by omega) (fun i h1 h2 => by omega) (by omega) _ _ ls w (lv_sub hl [0, 1, 2, 3, 4, 5] rfl)
      refine lv_iload_n hx hb wdX1_dock_64 rfl (lv_at hl 5 rfl) ?_
      refine z_if_eq (tgt := 80) hx hb (by omega) wdX1_dock_65 (by decide) (fun c6 => ?_) (fun c6 => False.elim (by omega))
      refine lv_aload_n hx hb wdX1_dock_80 rfl (lv_at hl 3 rfl) ?_
      refine lv_iload hx hb wdX1_dock_81 (lv_at hl 0 rfl) ?_
      refine k_Vi F w (As := [.int (zI (k : Int))]) (rest := []) (a := a) (kd_lt (a := a) hk (by decide)) (sh_9 hk _ _) rfl (s_X9_linesFrom hk hW hwf (by omega)) wgv_X1_56 whv_X9_linesFrom ⟨(Nat.le_of_ble_eq_true rfl), (Nat.le_of_ble_eq_true rfl)⟩ hl.1 rfl (Nat.le_of_ble_eq_true rfl) ⟨Nat.zero_le _, Nat.zero_le _⟩ wdX1_dock_83 (fun r Ma8 H locs hp w => ?_)
      rcases hp with ⟨⟨k7, ek7, hk7, rfl⟩ | ⟨nk7, rfl⟩, hMe⟩
      · obtain rfl : k = k7 := by omega
        rw [hMe] at w
        have gk7 := (hKL k (by omega)).2
        refine x_Ni F w (As := [.int (zI (((o.2.2 k) : Nat) : Int))]) (rest := []) (s_X11_lowest (m9 := (o.2.2 k)) (by omega)) wgc_X11_lowest wtb_5 wtb_6 (by decide) whs_X11_lowest ⟨(Nat.le_of_ble_eq_true rfl), (Nat.le_of_ble_eq_true rfl)⟩ hl.1 rfl (Nat.le_of_ble_eq_true rfl) ⟨Nat.zero_le _, Nat.zero_le _⟩ wdX1_dock_86 (fun H locs w => ?_)
        have hw8 := lowI_rg (o.2.2 k) (by omega)
        refine lv_istore (lv' := [(6, .int (zI (lowI (o.2.2 k)))), (5, .int (zI (k : Int))), (4, .int (zI 1)), (0, .ref (B + 23)), (1, .ref (B + a)), (2, .int (zI (t : Int))), (3, .int (zI (x : Int)))]) hx hb wdX1_dock_89 hl (by decide) rfl (fun ls hl => ?_)
        refine lv_aload_n hx hb wdX1_dock_91 rfl (lv_at hl 4 rfl) ?_
        refine lv_iload_n hx hb wdX1_dock_92 rfl (lv_at hl 5 rfl) ?_
        refine lv_iload hx hb wdX1_dock_93 (lv_at hl 0 rfl) ?_
        refine k_Vi F w (As := [.int (zI (t : Int)), .int (zI (lowI (o.2.2 k)))]) (rest := []) (a := a) (kd_lt (a := a) hk (by decide)) (sh_9 hk _ _) rfl (s_X9_isOpen hk hW hwf (by omega) (by omega)) wgv_X1_60 whv_X9_isOpen ⟨(Nat.le_of_ble_eq_true rfl), (Nat.le_of_ble_eq_true rfl)⟩ hl.1 rfl (Nat.le_of_ble_eq_true rfl) ⟨Nat.zero_le _, Nat.zero_le _⟩ wdX1_dock_95 (fun r Ma10 H locs hp w => ?_)
        rcases hp with ⟨⟨⟨k9, j9, e91, e92, hk9, hj9, ho9⟩, rfl⟩ | ⟨ho9, rfl⟩, hMe⟩
        · obtain rfl : t = k9 := by omega
          rw [hMe] at w
          rw [e92] at hl
          refine z_if_ne (tgt := 103) hx hb (by omega) wdX1_dock_98 (by decide) (fun c11 => ?_) (fun c11 => False.elim (by omega))
          refine lv_aload_n hx hb wdX1_dock_103 rfl (lv_at hl 4 rfl) ?_
          refine f_9_5 F w (a := a) hk wtb_27 wdX1_dock_104 ?_
          refine lv_iload_n hx hb wdX1_dock_107 rfl (lv_at hl 5 rfl) ?_
          refine lv_dup2_11 hx hb wdX1_dock_108 rfl rfl ?_
          refine g_iald F w (a := (a + 2)) (kd_w2 hk) (j := t) (ix_n (by omega)) (by omega) wdX1_dock_109 ?_
          have hL11 := (hKL t (by omega)).2
          refine r_val (v := (zI (((o.2.2 t) : Nat) : Int))) (hW.2.2.2.2.2 t (by omega)) ?_
          refine lv_iconst (v := zI 1) hx hb wdX1_dock_110 rfl ?_
          refine lv_iload hx hb wdX1_dock_111 (lv_at hl 0 rfl) ?_
          refine lv_ishl hx hb wdX1_dock_113 ?_
          refine r_val (v := (zI (((2 ^ j9) : Nat) : Int))) (zb_shl (n := j9) (by omega)) ?_
          have q12 := p2_b (n := j9) (by omega)
          refine lv_ior hx hb wdX1_dock_114 ?_
          refine r_val (v := (zI ((((o.2.2 t) ||| (2 ^ j9)) : Nat) : Int))) (zb_or (o.2.2 t) (2 ^ j9)) ?_
          have q13 := or_lt12 (a := (o.2.2 t)) (b := (2 ^ j9)) (by omega) (by omega)
          refine g_iast F w (a := (a + 2)) (kd_w2 hk) (j := t) (ix_n (by omega)) (by omega) wdX1_dock_115 (fun H locs w => ?_)
          refine lv_iconst (v := zI 1) hx hb wdX1_dock_116 rfl ?_
          exact e_i F w hr hlocks ⟨_, _, by subst hxv; rw [dkG_0 (by omega)]; exact dkF_y (dk_r (k := k) (by omega) (x2 (by omega)) (by omega) x1 e92 ho9), rfl, ⟨wlineW hW, (okW_line hC.2.1 (Nat.or_lt_two_pow (hC.2.1.2.2 t ht).2 (Nat.pow_lt_pow_right (by decide) hj9))), hC.2.2⟩, wlineF Fr3.rf, Nat.le_refl _⟩ wdX1_dock_117
        · rw [hMe] at w
          refine z_if_ne (tgt := 103) hx hb (by omega) wdX1_dock_98 (by decide) (fun c14 => False.elim (by omega)) (fun c14 => ?_)
          refine lv_iconst (v := zI 0) hx hb wdX1_dock_101 rfl ?_
          exact e_i F w hr hlocks ⟨o, 0, by subst hxv; rw [dkG_0 (by omega)]; exact dkF_n (dk_rn hC.2.1 x1 (by omega) x2 (by omega) (fun hk8 s8 e8 hs8 ho8 => ho9 ⟨t, s8, rfl, e8, ht, hs8, ho8⟩)), rfl, hC, Fr3.rf, by omega⟩ wdX1_dock_102
      · rw [hMe] at w
        refine x_Ni F w (As := [.int (zI 0)]) (rest := []) (s_X11_lowest (m9 := 0) (by omega)) wgc_X11_lowest wtb_5 wtb_6 (by decide) whs_X11_lowest ⟨(Nat.le_of_ble_eq_true rfl), (Nat.le_of_ble_eq_true rfl)⟩ hl.1 rfl (Nat.le_of_ble_eq_true rfl) ⟨Nat.zero_le _, Nat.zero_le _⟩ wdX1_dock_86 (fun H locs w => ?_)
        have hw14 := lowI_rg 0 (by omega)
        refine lv_istore (lv' := [(6, .int (zI (lowI 0))), (5, .int (zI (k : Int))), (4, .int (zI 1)), (0, .ref (B + 23)), (1, .ref (B + a)), (2, .int (zI (t : Int))), (3, .int (zI (x : Int)))]) hx hb wdX1_dock_89 hl (by decide) rfl (fun ls hl => ?_)
        refine lv_aload_n hx hb wdX1_dock_91 rfl (lv_at hl 4 rfl) ?_
        refine lv_iload_n hx hb wdX1_dock_92 rfl (lv_at hl 5 rfl) ?_
        refine lv_iload hx hb wdX1_dock_93 (lv_at hl 0 rfl) ?_
        refine k_Vi F w (As := [.int (zI (t : Int)), .int (zI (lowI 0))]) (rest := []) (a := a) (kd_lt (a := a) hk (by decide)) (sh_9 hk _ _) rfl (s_X9_isOpen hk hW hwf (by omega) (by omega)) wgv_X1_60 whv_X9_isOpen ⟨(Nat.le_of_ble_eq_true rfl), (Nat.le_of_ble_eq_true rfl)⟩ hl.1 rfl (Nat.le_of_ble_eq_true rfl) ⟨Nat.zero_le _, Nat.zero_le _⟩ wdX1_dock_95 (fun r Ma16 H locs hp w => ?_)
        rcases hp with ⟨⟨⟨k9, j9, e91, e92, hk9, hj9, ho9⟩, rfl⟩ | ⟨ho9, rfl⟩, hMe⟩
        · obtain rfl : t = k9 := by omega
          rw [hMe] at w
          rw [e92] at hl
          refine z_if_ne (tgt := 103) hx hb (by omega) wdX1_dock_98 (by decide) (fun c17 => ?_) (fun c17 => False.elim (by omega))
          refine lv_aload_n hx hb wdX1_dock_103 rfl (lv_at hl 4 rfl) ?_
          refine f_9_5 F w (a := a) hk wtb_27 wdX1_dock_104 ?_
          refine lv_iload_n hx hb wdX1_dock_107 rfl (lv_at hl 5 rfl) ?_
          refine lv_dup2_11 hx hb wdX1_dock_108 rfl rfl ?_
          refine g_iald F w (a := (a + 2)) (kd_w2 hk) (j := t) (ix_n (by omega)) (by omega) wdX1_dock_109 ?_
          have hL17 := (hKL t (by omega)).2
          refine r_val (v := (zI (((o.2.2 t) : Nat) : Int))) (hW.2.2.2.2.2 t (by omega)) ?_
          refine lv_iconst (v := zI 1) hx hb wdX1_dock_110 rfl ?_
          refine lv_iload hx hb wdX1_dock_111 (lv_at hl 0 rfl) ?_
          refine lv_ishl hx hb wdX1_dock_113 ?_
          refine r_val (v := (zI (((2 ^ j9) : Nat) : Int))) (zb_shl (n := j9) (by omega)) ?_
          have q18 := p2_b (n := j9) (by omega)
          refine lv_ior hx hb wdX1_dock_114 ?_
          refine r_val (v := (zI ((((o.2.2 t) ||| (2 ^ j9)) : Nat) : Int))) (zb_or (o.2.2 t) (2 ^ j9)) ?_
          have q19 := or_lt12 (a := (o.2.2 t)) (b := (2 ^ j9)) (by omega) (by omega)
          refine g_iast F w (a := (a + 2)) (kd_w2 hk) (j := t) (ix_n (by omega)) (by omega) wdX1_dock_115 (fun H locs w => ?_)
          refine lv_iconst (v := zI 1) hx hb wdX1_dock_116 rfl ?_
          exact e_i F w hr hlocks (False.elim (by have h9 : lowI 0 = -1 := rfl; omega)) wdX1_dock_117
        · rw [hMe] at w
          refine z_if_ne (tgt := 103) hx hb (by omega) wdX1_dock_98 (by decide) (fun c20 => False.elim (by omega)) (fun c20 => ?_)
          refine lv_iconst (v := zI 0) hx hb wdX1_dock_101 rfl ?_
          exact e_i F w hr hlocks ⟨o, 0, by subst hxv; rw [dkG_0 (by omega)]; exact dkF_n (dk_rn hC.2.1 x1 (by omega) x2 (by omega) (fun hk8 => by omega)), rfl, hC, Fr3.rf, by omega⟩ wdX1_dock_102
    · refine lv_iconst (v := zI 0) hx hb wdX1_dock_17 rfl ?_
      exact e_i F w hr hlocks ⟨o, 0, dkG_1 (by omega), rfl, hC, Fr3.rf, by omega⟩ wdX1_dock_18
  · exact False.elim (by omega)
set_option maxRecDepth 4000 in
theorem lp_X1_dock_1 {p : Program} {l : Launch} {e : Env} {s : State} {m : MethodId} {args : Array Value} {below : List Frame} {meth : Method} {c : Code} {D : va_G} {B : Nat} {cy : Nat → ClassId} {H0 : Heap} {Q : State → Prop} {M : Mem} {R : Room} {a q hv ed t x : Nat} {o : Wo} (F : CallFix p m c cX1_dock 7 s args TB RX1) (hR1 : 2 ≤ R.frames) (hR2 : 42 ≤ R.locals) (hk : kd a = (9, 0, 0)) (hC : CW M a q hv ed o) (ht : t < o.1) (kk : ∀ (k : Nat) (H : Heap) (locs : List Loc) (ls : Array Slot), (k ≤ t) → (∀ i, k ≤ i → i < t → o.2.2 i = 0) → (0 < k → o.2.2 (k - 1) ≠ 0) → Wd D B cy s H0 M H locs → lv_has ls 7 [(5, .int (zI ((k : Int) - 1))), (4, .int (zI (-1))), (0, .ref (B + 23)), (1, .ref (B + a)), (2, .int (zI (t : Int))), (3, .int (zI (x : Int)))] → W p l e R s m args below meth c H locs 0 0 Q (F0 m 64 ls [])) : ∀ (f : Nat) (k : Nat), (k ≤ t) → (∀ i, k ≤ i → i < t → o.2.2 i = 0) → (k ≤ f) → ∀ (H : Heap) (locs : List Loc) (ls : Array Slot), Wd D B cy s H0 M H locs → lv_has ls 7 [(5, .int (zI ((k : Int) - 1))), (4, .int (zI (-1))), (0, .ref (B + 23)), (1, .ref (B + a)), (2, .int (zI (t : Int))), (3, .int (zI (x : Int)))] → W p l e R s m args below meth c H locs 0 0 Q (F0 m 36 ls []) := by
  have hx := F.1
  have hb := F.2.1
  have hW := hC.1
  have hwf := hC.wf
  have hKL := hwf.2.2.2.2
  have hn12 := hwf.1
  have hq12 := hwf.2.1
  intro f
  induction f with
  | zero =>
    intro k i0 i1 hf H locs ls w hl
    refine lv_aload_n hx hb wdX1_dock_36 rfl (lv_at hl 3 rfl) ?_
    refine lv_iload hx hb wdX1_dock_37 (lv_at hl 0 rfl) ?_
    refine k_Vi F w (As := [.int (zI ((k : Int) - 1))]) (rest := []) (a := a) (kd_lt (a := a) hk (by decide)) (sh_9 hk _ _) rfl (s_X9_hasTone hk hW hwf (by omega)) wgv_X1_47 whv_X9_hasTone ⟨(by omega), (by omega)⟩ hl.1 rfl (Nat.le_of_ble_eq_true rfl) ⟨Nat.zero_le _, Nat.zero_le _⟩ wdX1_dock_39 (fun r Ma2 H locs hp w => ?_)
    rcases hp with ⟨⟨k1, ek1, hk1, rfl⟩ | ⟨nk1, rfl⟩, hMe⟩
    · rw [hMe] at w
      refine z_if_eq (tgt := 64) hx hb (by omega) wdX1_dock_42 (by decide) (fun c3 => False.elim (by omega)) (fun c3 => ?_)
      refine lv_aload_n hx hb wdX1_dock_45 rfl (lv_at hl 3 rfl) ?_
      refine lv_iload hx hb wdX1_dock_46 (lv_at hl 0 rfl) ?_
      refine k_Vi F w (As := [.int (zI ((k : Int) - 1))]) (rest := []) (a := a) (kd_lt (a := a) hk (by decide)) (sh_9 hk _ _) rfl (s_X9_linesFrom hk hW hwf (by omega)) wgv_X1_56 whv_X9_linesFrom ⟨(by omega), (by omega)⟩ hl.1 rfl (Nat.le_of_ble_eq_true rfl) ⟨Nat.zero_le _, Nat.zero_le _⟩ wdX1_dock_48 (fun r Ma5 H locs hp w => ?_)
      rcases hp with ⟨⟨k4, ek4, hk4, rfl⟩ | ⟨nk4, rfl⟩, hMe⟩
      · obtain rfl : (k - 1) = k4 := by omega
        rw [hMe] at w
        have gk4 := (hKL (k - 1) (by omega)).2
        refine z_if_ne (tgt := 64) hx hb (by omega) wdX1_dock_51 (by decide) (fun c6 => ?_) (fun c6 => ?_)
        · exact kk k _ _ ls i0 i1 (fun _ => by omega) w (lv_sub hl [0, 1, 2, 3, 4, 5] rfl)
        · refine lv_iload hx hb wdX1_dock_54 (lv_at hl 0 rfl) ?_
          refine lv_iload hx hb wdX1_dock_56 (lv_at hl 1 rfl) ?_
          refine z_iadd (z := (((k : Int) - 1) + (-1))) hx hb wdX1_dock_58 (by omega) ?_
          refine r_val (v := zI (((k - 1 : Nat) : Int) - 1)) (congrArg zI (by omega)) ?_
          refine lv_istore (lv' := [(5, .int (zI (((k - 1 : Nat) : Int) - 1))), (4, .int (zI (-1))), (0, .ref (B + 23)), (1, .ref (B + a)), (2, .int (zI (t : Int))), (3, .int (zI (x : Int)))]) hx hb wdX1_dock_59 hl (by decide) rfl (fun ls hl => ?_)
          refine lv_goto (tgt := 36) hx hb wdX1_dock_61 (by decide) ?_
          exact False.elim (by omega)
      · rw [hMe] at w
        refine z_if_ne (tgt := 64) hx hb (by omega) wdX1_dock_51 (by decide) (fun c7 => False.elim (by omega)) (fun c7 => ?_)
        refine lv_iload hx hb wdX1_dock_54 (lv_at hl 0 rfl) ?_
        refine lv_iload hx hb wdX1_dock_56 (lv_at hl 1 rfl) ?_
        refine z_iadd (z := (((k : Int) - 1) + (-1))) hx hb wdX1_dock_58 (by omega) ?_
        refine r_val (v := zI (((k - 1 : Nat) : Int) - 1)) (congrArg zI (by omega)) ?_
        refine lv_istore (lv' := [(5, .int (zI (((k - 1 : Nat) : Int) - 1))), (4, .int (zI (-1))), (0, .ref (B + 23)), (1, .ref (B + a)), (2, .int (zI (t : Int))), (3, .int (zI (x : Int)))]) hx hb wdX1_dock_59 hl (by decide) rfl (fun ls hl => ?_)
        refine lv_goto (tgt := 36) hx hb wdX1_dock_61 (by decide) ?_
        exact False.elim (by omega)
    · rw [hMe] at w
      refine z_if_eq (tgt := 64) hx hb (by omega) wdX1_dock_42 (by decide) (fun c8 => ?_) (fun c8 => False.elim (by omega))
      exact kk k _ _ ls i0 i1 (fun _ => by omega) w (lv_sub hl [0, 1, 2, 3, 4, 5] rfl)
  | succ f ih =>
    intro k i0 i1 hf H locs ls w hl
    refine lv_aload_n hx hb wdX1_dock_36 rfl (lv_at hl 3 rfl) ?_
    refine lv_iload hx hb wdX1_dock_37 (lv_at hl 0 rfl) ?_
    refine k_Vi F w (As := [.int (zI ((k : Int) - 1))]) (rest := []) (a := a) (kd_lt (a := a) hk (by decide)) (sh_9 hk _ _) rfl (s_X9_hasTone hk hW hwf (by omega)) wgv_X1_47 whv_X9_hasTone ⟨(by omega), (by omega)⟩ hl.1 rfl (Nat.le_of_ble_eq_true rfl) ⟨Nat.zero_le _, Nat.zero_le _⟩ wdX1_dock_39 (fun r Ma2 H locs hp w => ?_)
    rcases hp with ⟨⟨k1, ek1, hk1, rfl⟩ | ⟨nk1, rfl⟩, hMe⟩
    · rw [hMe] at w
      refine z_if_eq (tgt := 64) hx hb (by omega) wdX1_dock_42 (by decide) (fun c3 => False.elim (by omega)) (fun c3 => ?_)
      refine lv_aload_n hx hb wdX1_dock_45 rfl (lv_at hl 3 rfl) ?_
      refine lv_iload hx hb wdX1_dock_46 (lv_at hl 0 rfl) ?_
      refine k_Vi F w (As := [.int (zI ((k : Int) - 1))]) (rest := []) (a := a) (kd_lt (a := a) hk (by decide)) (sh_9 hk _ _) rfl (s_X9_linesFrom hk hW hwf (by omega)) wgv_X1_56 whv_X9_linesFrom ⟨(by omega), (by omega)⟩ hl.1 rfl (Nat.le_of_ble_eq_true rfl) ⟨Nat.zero_le _, Nat.zero_le _⟩ wdX1_dock_48 (fun r Ma5 H locs hp w => ?_)
      rcases hp with ⟨⟨k4, ek4, hk4, rfl⟩ | ⟨nk4, rfl⟩, hMe⟩
      · obtain rfl : (k - 1) = k4 := by omega
        rw [hMe] at w
        have gk4 := (hKL (k - 1) (by omega)).2
        refine z_if_ne (tgt := 64) hx hb (by omega) wdX1_dock_51 (by decide) (fun c6 => ?_) (fun c6 => ?_)
        · exact kk k _ _ ls i0 i1 (fun _ => by omega) w (lv_sub hl [0, 1, 2, 3, 4, 5] rfl)
        · refine lv_iload hx hb wdX1_dock_54 (lv_at hl 0 rfl) ?_
          refine lv_iload hx hb wdX1_dock_56 (lv_at hl 1 rfl) ?_
          refine z_iadd (z := (((k : Int) - 1) + (-1))) hx hb wdX1_dock_58 (by omega) ?_
          refine r_val (v := zI (((k - 1 : Nat) : Int) - 1)) (congrArg zI (by omega)) ?_
          refine lv_istore (lv' := [(5, .int (zI (((k - 1 : Nat) : Int) - 1))), (4, .int (zI (-1))), (0, .ref (B + 23)), (1, .ref (B + a)), (2, .int (zI (t : Int))), (3, .int (zI (x : Int)))]) hx hb wdX1_dock_59 hl (by decide) rfl (fun ls hl => ?_)
          refine lv_goto (tgt := 36) hx hb wdX1_dock_61 (by decide) ?_
          exact ih (k - 1) (by omega) (fun i h1 h2 => by by_cases h9 : i = k - 1; (subst h9; omega); exact i1 i (by omega) h2) (by omega) _ _ ls w (lv_sub hl [0, 1, 2, 3, 4, 5] rfl)
      · rw [hMe] at w
        refine z_if_ne (tgt := 64) hx hb (by omega) wdX1_dock_51 (by decide) (fun c7 => False.elim (by omega)) (fun c7 => ?_)
        refine lv_iload hx hb wdX1_dock_54 (lv_at hl 0 rfl) ?_
        refine lv_iload hx hb wdX1_dock_56 (lv_at hl 1 rfl) ?_
        refine z_iadd (z := (((k : Int) - 1) + (-1))) hx hb wdX1_dock_58 (by omega) ?_
        refine r_val (v := zI (((k - 1 : Nat) : Int) - 1)) (congrArg zI (by omega)) ?_
        refine lv_istore (lv' := [(5, .int (zI (((k - 1 : Nat) : Int) - 1))), (4, .int (zI (-1))), (0, .ref (B + 23)), (1, .ref (B + a)), (2, .int (zI (t : Int))), (3, .int (zI (x : Int)))]) hx hb wdX1_dock_59 hl (by decide) rfl (fun ls hl => ?_)
        refine lv_goto (tgt := 36) hx hb wdX1_dock_61 (by decide) ?_
        exact ih (k - 1) (by omega) (fun i h1 h2 => by by_cases h9 : i = k - 1; (subst h9; omega); exact i1 i (by omega) h2) (by omega) _ _ ls w (lv_sub hl [0, 1, 2, 3, 4, 5] rfl)
    · rw [hMe] at w
      refine z_if_eq (tgt := 64) hx hb (by omega) wdX1_dock_42 (by decide) (fun c8 => ?_) (fun c8 => False.elim (by omega))
      exact kk k _ _ ls i0 i1 (fun _ => by omega) w (lv_sub hl [0, 1, 2, 3, 4, 5] rfl)
theorem wdX1_dock_23 : decode cX1_dock 23 = .ok (.iconst (-1), 1) := dq0 kk_2 (by decide +kernel)
theorem wdX1_dock_24 : decode cX1_dock 24 = .ok (.goto 4, 3) := dqT kk_167 (by decide +kernel)
theorem wdX1_dock_68 : decode cX1_dock 68 = .ok (.aload_n 1, 1) := dq0 kk_43 (by decide +kernel)
theorem wdX1_dock_69 : decode cX1_dock 69 = .ok (.iload 5, 2) := dqU kk_21 (by decide +kernel)
theorem wdX1_dock_71 : decode cX1_dock 71 = .ok (.invokevirtual 56, 3) := dqV kk_182 (by decide +kernel)
theorem wdX1_dock_74 : decode cX1_dock 74 = .ok (.invokestatic 72, 3) := dqV kk_184 (by decide +kernel)
theorem wdX1_dock_77 : decode cX1_dock 77 = .ok (.goto 12, 3) := dqT kk_167 (by decide +kernel)
set_option maxRecDepth 4000 in
theorem s_X1_dock_1 {l : Launch} {D : va_G} {B : Nat} {cy : Nat → ClassId} {M : Mem} {a q hv ed : Nat} {o : Wo} (hk : kd a = (9, 0, 0)) (hC : CW M a q hv ed o) {t x : Nat} (ht : t < o.1) (hxv : x = 1) : Ci l D B cy yX1_dock cX1_dock 7 (some .int) 2 48 [.ref (B + 23), .ref (B + a), .int (zI (t : Int)), .int (zI (x : Int))] M (fun r M1 => ∃ o1 cc, dkG q t x o = (o1, cc) ∧ r = zI ((cc : Nat) : Int) ∧ CW M1 a q hv ed o1 ∧ Fr3 M1 M a ∧ cc ≤ 1) := by
  refine s_any (by decide) (Nat.le_of_ble_eq_true rfl) ?_
  intro p e s m below meth c ls F hr hlocks w hl
  have F : CallFix p m c cX1_dock 7 s _ TB RX1 := F
  have hx := F.1
  have hb := F.2.1
  have hl : lv_has ls 7 [(0, .ref (B + 23)), (1, .ref (B + a)), (2, .int (zI (t : Int))), (3, .int (zI (x : Int)))] := hl
  have hW := hC.1
  have hwf := hC.wf
  have hKL := hwf.2.2.2.2
  have hn12 := hwf.1
  have hq12 := hwf.2.1
  refine lv_aload_n hx hb wdX1_dock_0 rfl (lv_at hl 1 rfl) ?_
  refine lv_iload_n hx hb wdX1_dock_1 rfl (lv_at hl 2 rfl) ?_
  refine k_Vi F w (As := [.int (zI (t : Int))]) (rest := []) (a := a) (kd_lt (a := a) hk (by decide)) (sh_9 hk _ _) rfl (s_X9_hasTone hk hW hwf (by omega)) wgv_X1_47 whv_X9_hasTone ⟨(Nat.le_of_ble_eq_true rfl), (Nat.le_of_ble_eq_true rfl)⟩ hl.1 rfl (Nat.le_of_ble_eq_true rfl) ⟨Nat.zero_le _, Nat.zero_le _⟩ wdX1_dock_2 (fun r Ma2 H locs hp w => ?_)
  rcases hp with ⟨⟨k1, ek1, hk1, rfl⟩ | ⟨nk1, rfl⟩, hMe⟩
  · rw [hMe] at w
    refine z_if_eq (tgt := 17) hx hb (by omega) wdX1_dock_5 (by decide) (fun c3 => False.elim (by omega)) (fun c3 => ?_)
    refine lv_aload_n hx hb wdX1_dock_8 rfl (lv_at hl 1 rfl) ?_
    refine f_9_5 F w (a := a) hk wtb_27 wdX1_dock_9 ?_
    refine lv_iload_n hx hb wdX1_dock_12 rfl (lv_at hl 2 rfl) ?_
    refine g_iald F w (a := (a + 2)) (kd_w2 hk) (j := t) (ix_n (by omega)) (by omega) wdX1_dock_13 ?_
    have hL3 := (hKL t (by omega)).2
    refine r_val (v := (zI (((o.2.2 t) : Nat) : Int))) (hW.2.2.2.2.2 t (by omega)) ?_
    refine z_if_eq (tgt := 19) hx hb (by omega) wdX1_dock_14 (by decide) (fun c4 => ?_) (fun c4 => ?_)
    · refine lv_iload_n hx hb wdX1_dock_19 rfl (lv_at hl 3 rfl) ?_
      refine z_if_eq (tgt := 27) hx hb (by omega) wdX1_dock_20 (by decide) (fun c5 => False.elim (by omega)) (fun c5 => ?_)
      refine lv_iconst (v := zI (-1)) hx hb wdX1_dock_23 rfl ?_
      refine lv_goto (tgt := 28) hx hb wdX1_dock_24 (by decide) ?_
      refine lv_istore (lv' := [(4, .int (zI (-1))), (0, .ref (B + 23)), (1, .ref (B + a)), (2, .int (zI (t : Int))), (3, .int (zI (x : Int)))]) hx hb wdX1_dock_28 hl (by decide) rfl (fun ls hl => ?_)
      refine lv_iload_n hx hb wdX1_dock_30 rfl (lv_at hl 3 rfl) ?_
      refine lv_iload hx hb wdX1_dock_31 (lv_at hl 0 rfl) ?_
      refine z_iadd (z := ((t : Int) + (-1))) hx hb wdX1_dock_33 (by omega) ?_
      refine r_val (v := zI ((t : Int) - 1)) (congrArg zI (by omega)) ?_
      refine lv_istore (lv' := [(5, .int (zI ((t : Int) - 1))), (4, .int (zI (-1))), (0, .ref (B + 23)), (1, .ref (B + a)), (2, .int (zI (t : Int))), (3, .int (zI (x : Int)))]) hx hb wdX1_dock_34 hl (by decide) rfl (fun ls hl => ?_)
      refine lp_X1_dock_1  F (Nat.le_of_ble_eq_true rfl) (Nat.le_of_ble_eq_true rfl) hk hC ht (fun k H locs ls x0 x1 x2 w hl => ?_) 12 t (by omega) (fun i h1 h2 => by omega) (by omega) _ _ ls w (lv_sub hl [0, 1, 2, 3, 4, 5] rfl)
      refine lv_iload_n hx hb wdX1_dock_64 rfl (lv_at hl 5 rfl) ?_
      refine z_if_eq (tgt := 80) hx hb (by omega) wdX1_dock_65 (by decide) (fun c6 => False.elim (by omega)) (fun c6 => ?_)
      refine lv_aload_n hx hb wdX1_dock_68 rfl (lv_at hl 3 rfl) ?_
      refine lv_iload hx hb wdX1_dock_69 (lv_at hl 0 rfl) ?_
      refine k_Vi F w (As := [.int (zI ((k : Int) - 1))]) (rest := []) (a := a) (kd_lt (a := a) hk (by decide)) (sh_9 hk _ _) rfl (s_X9_linesFrom hk hW hwf (by omega)) wgv_X1_56 whv_X9_linesFrom ⟨(Nat.le_of_ble_eq_true rfl), (Nat.le_of_ble_eq_true rfl)⟩ hl.1 rfl (Nat.le_of_ble_eq_true rfl) ⟨Nat.zero_le _, Nat.zero_le _⟩ wdX1_dock_71 (fun r Ma8 H locs hp w => ?_)
      rcases hp with ⟨⟨k7, ek7, hk7, rfl⟩ | ⟨nk7, rfl⟩, hMe⟩
      · obtain rfl : (k - 1) = k7 := by omega
        rw [hMe] at w
        have gk7 := (hKL (k - 1) (by omega)).2
        refine x_Ni F w (As := [.int (zI (((o.2.2 (k - 1)) : Nat) : Int))]) (rest := []) (s_X11_highest (m9 := (o.2.2 (k - 1))) (by omega)) wgc_X11_highest wtb_5 wtb_7 (by decide) whs_X11_highest ⟨(Nat.le_of_ble_eq_true rfl), (Nat.le_of_ble_eq_true rfl)⟩ hl.1 rfl (Nat.le_of_ble_eq_true rfl) ⟨Nat.zero_le _, Nat.zero_le _⟩ wdX1_dock_74 (fun H locs w => ?_)
        have hw8 := higI_rg (o.2.2 (k - 1)) (by omega)
        refine lv_goto (tgt := 89) hx hb wdX1_dock_77 (by decide) ?_
        refine lv_istore (lv' := [(6, .int (zI (higI (o.2.2 (k - 1))))), (5, .int (zI ((k : Int) - 1))), (4, .int (zI (-1))), (0, .ref (B + 23)), (1, .ref (B + a)), (2, .int (zI (t : Int))), (3, .int (zI (x : Int)))]) hx hb wdX1_dock_89 hl (by decide) rfl (fun ls hl => ?_)
        refine lv_aload_n hx hb wdX1_dock_91 rfl (lv_at hl 4 rfl) ?_
        refine lv_iload_n hx hb wdX1_dock_92 rfl (lv_at hl 5 rfl) ?_
        refine lv_iload hx hb wdX1_dock_93 (lv_at hl 0 rfl) ?_
        refine k_Vi F w (As := [.int (zI (t : Int)), .int (zI (higI (o.2.2 (k - 1))))]) (rest := []) (a := a) (kd_lt (a := a) hk (by decide)) (sh_9 hk _ _) rfl (s_X9_isOpen hk hW hwf (by omega) (by omega)) wgv_X1_60 whv_X9_isOpen ⟨(Nat.le_of_ble_eq_true rfl), (Nat.le_of_ble_eq_true rfl)⟩ hl.1 rfl (Nat.le_of_ble_eq_true rfl) ⟨Nat.zero_le _, Nat.zero_le _⟩ wdX1_dock_95 (fun r Ma10 H locs hp w => ?_)
        rcases hp with ⟨⟨⟨k9, j9, e91, e92, hk9, hj9, ho9⟩, rfl⟩ | ⟨ho9, rfl⟩, hMe⟩
        · obtain rfl : t = k9 := by omega
          rw [hMe] at w
          rw [e92] at hl
          refine z_if_ne (tgt := 103) hx hb (by omega) wdX1_dock_98 (by decide) (fun c11 => ?_) (fun c11 => False.elim (by omega))
          refine lv_aload_n hx hb wdX1_dock_103 rfl (lv_at hl 4 rfl) ?_
          refine f_9_5 F w (a := a) hk wtb_27 wdX1_dock_104 ?_
          refine lv_iload_n hx hb wdX1_dock_107 rfl (lv_at hl 5 rfl) ?_
          refine lv_dup2_11 hx hb wdX1_dock_108 rfl rfl ?_
          refine g_iald F w (a := (a + 2)) (kd_w2 hk) (j := t) (ix_n (by omega)) (by omega) wdX1_dock_109 ?_
          have hL11 := (hKL t (by omega)).2
          refine r_val (v := (zI (((o.2.2 t) : Nat) : Int))) (hW.2.2.2.2.2 t (by omega)) ?_
          refine lv_iconst (v := zI 1) hx hb wdX1_dock_110 rfl ?_
          refine lv_iload hx hb wdX1_dock_111 (lv_at hl 0 rfl) ?_
          refine lv_ishl hx hb wdX1_dock_113 ?_
          refine r_val (v := (zI (((2 ^ j9) : Nat) : Int))) (zb_shl (n := j9) (by omega)) ?_
          have q12 := p2_b (n := j9) (by omega)
          refine lv_ior hx hb wdX1_dock_114 ?_
          refine r_val (v := (zI ((((o.2.2 t) ||| (2 ^ j9)) : Nat) : Int))) (zb_or (o.2.2 t) (2 ^ j9)) ?_
          have q13 := or_lt12 (a := (o.2.2 t)) (b := (2 ^ j9)) (by omega) (by omega)
          refine g_iast F w (a := (a + 2)) (kd_w2 hk) (j := t) (ix_n (by omega)) (by omega) wdX1_dock_115 (fun H locs w => ?_)
          refine lv_iconst (v := zI 1) hx hb wdX1_dock_116 rfl ?_
          exact e_i F w hr hlocks ⟨_, _, by subst hxv; rw [dkG_0 (by omega)]; exact dkF_y (dk_l (k := k - 1) (by omega) (x2 (by omega)) (by omega) (fun i h1 h2 => x1 i (by omega) h2) e92 ho9), rfl, ⟨wlineW hW, (okW_line hC.2.1 (Nat.or_lt_two_pow (hC.2.1.2.2 t ht).2 (Nat.pow_lt_pow_right (by decide) hj9))), hC.2.2⟩, wlineF Fr3.rf, Nat.le_refl _⟩ wdX1_dock_117
        · rw [hMe] at w
          refine z_if_ne (tgt := 103) hx hb (by omega) wdX1_dock_98 (by decide) (fun c14 => False.elim (by omega)) (fun c14 => ?_)
          refine lv_iconst (v := zI 0) hx hb wdX1_dock_101 rfl ?_
          exact e_i F w hr hlocks ⟨o, 0, by subst hxv; rw [dkG_0 (by omega)]; exact dkF_n (dk_ln hC.2.1 x1 (by omega) ht x2 (fun hk8 s8 e8 hs8 ho8 => ho9 ⟨t, s8, rfl, e8, ht, hs8, ho8⟩)), rfl, hC, Fr3.rf, by omega⟩ wdX1_dock_102
      · rw [hMe] at w
        refine x_Ni F w (As := [.int (zI 0)]) (rest := []) (s_X11_highest (m9 := 0) (by omega)) wgc_X11_highest wtb_5 wtb_7 (by decide) whs_X11_highest ⟨(Nat.le_of_ble_eq_true rfl), (Nat.le_of_ble_eq_true rfl)⟩ hl.1 rfl (Nat.le_of_ble_eq_true rfl) ⟨Nat.zero_le _, Nat.zero_le _⟩ wdX1_dock_74 (fun H locs w => ?_)
        have hw14 := higI_rg 0 (by omega)
        refine lv_goto (tgt := 89) hx hb wdX1_dock_77 (by decide) ?_
        refine lv_istore (lv' := [(6, .int (zI (higI 0))), (5, .int (zI ((k : Int) - 1))), (4, .int (zI (-1))), (0, .ref (B + 23)), (1, .ref (B + a)), (2, .int (zI (t : Int))), (3, .int (zI (x : Int)))]) hx hb wdX1_dock_89 hl (by decide) rfl (fun ls hl => ?_)
        refine lv_aload_n hx hb wdX1_dock_91 rfl (lv_at hl 4 rfl) ?_
        refine lv_iload_n hx hb wdX1_dock_92 rfl (lv_at hl 5 rfl) ?_
        refine lv_iload hx hb wdX1_dock_93 (lv_at hl 0 rfl) ?_
        refine k_Vi F w (As := [.int (zI (t : Int)), .int (zI (higI 0))]) (rest := []) (a := a) (kd_lt (a := a) hk (by decide)) (sh_9 hk _ _) rfl (s_X9_isOpen hk hW hwf (by omega) (by omega)) wgv_X1_60 whv_X9_isOpen ⟨(Nat.le_of_ble_eq_true rfl), (Nat.le_of_ble_eq_true rfl)⟩ hl.1 rfl (Nat.le_of_ble_eq_true rfl) ⟨Nat.zero_le _, Nat.zero_le _⟩ wdX1_dock_95 (fun r Ma16 H locs hp w => ?_)
        rcases hp with ⟨⟨⟨k9, j9, e91, e92, hk9, hj9, ho9⟩, rfl⟩ | ⟨ho9, rfl⟩, hMe⟩
        · obtain rfl : t = k9 := by omega
          rw [hMe] at w
          rw [e92] at hl
          refine z_if_ne (tgt := 103) hx hb (by omega) wdX1_dock_98 (by decide) (fun c17 => ?_) (fun c17 => False.elim (by omega))
          refine lv_aload_n hx hb wdX1_dock_103 rfl (lv_at hl 4 rfl) ?_
          refine f_9_5 F w (a := a) hk wtb_27 wdX1_dock_104 ?_
          refine lv_iload_n hx hb wdX1_dock_107 rfl (lv_at hl 5 rfl) ?_
          refine lv_dup2_11 hx hb wdX1_dock_108 rfl rfl ?_
          refine g_iald F w (a := (a + 2)) (kd_w2 hk) (j := t) (ix_n (by omega)) (by omega) wdX1_dock_109 ?_
          have hL17 := (hKL t (by omega)).2
          refine r_val (v := (zI (((o.2.2 t) : Nat) : Int))) (hW.2.2.2.2.2 t (by omega)) ?_
          refine lv_iconst (v := zI 1) hx hb wdX1_dock_110 rfl ?_
          refine lv_iload hx hb wdX1_dock_111 (lv_at hl 0 rfl) ?_
          refine lv_ishl hx hb wdX1_dock_113 ?_
          refine r_val (v := (zI (((2 ^ j9) : Nat) : Int))) (zb_shl (n := j9) (by omega)) ?_
          have q18 := p2_b (n := j9) (by omega)
          refine lv_ior hx hb wdX1_dock_114 ?_
          refine r_val (v := (zI ((((o.2.2 t) ||| (2 ^ j9)) : Nat) : Int))) (zb_or (o.2.2 t) (2 ^ j9)) ?_
          have q19 := or_lt12 (a := (o.2.2 t)) (b := (2 ^ j9)) (by omega) (by omega)
          refine g_iast F w (a := (a + 2)) (kd_w2 hk) (j := t) (ix_n (by omega)) (by omega) wdX1_dock_115 (fun H locs w => ?_)
          refine lv_iconst (v := zI 1) hx hb wdX1_dock_116 rfl ?_
          exact e_i F w hr hlocks (False.elim (by have h9 : higI 0 = -1 := rfl; omega)) wdX1_dock_117
        · rw [hMe] at w
          refine z_if_ne (tgt := 103) hx hb (by omega) wdX1_dock_98 (by decide) (fun c20 => False.elim (by omega)) (fun c20 => ?_)
          refine lv_iconst (v := zI 0) hx hb wdX1_dock_101 rfl ?_
          exact e_i F w hr hlocks ⟨o, 0, by subst hxv; rw [dkG_0 (by omega)]; exact dkF_n (dk_ln hC.2.1 x1 (by omega) ht x2 (fun hk8 => by omega)), rfl, hC, Fr3.rf, by omega⟩ wdX1_dock_102
    · refine lv_iconst (v := zI 0) hx hb wdX1_dock_17 rfl ?_
      exact e_i F w hr hlocks ⟨o, 0, dkG_1 (by omega), rfl, hC, Fr3.rf, by omega⟩ wdX1_dock_18
  · exact False.elim (by omega)
