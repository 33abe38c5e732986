def sprJ (n q ed t x T : Nat) (L L1 : Nat → Nat) (i : Nat) : Prop := spr n q ed t x T L = ((spr n q ed t x (T - i) L1).1, i + (spr n q ed t x (T - i) L1).2)
theorem sprJ_0 {n q ed t x T : Nat} {L : Nat → Nat} : sprJ n q ed t x T L L 0 := by unfold sprJ; simp
theorem sprJ_y {n q ed t x T i j : Nat} {L L1 : Nat → Nat} (h : sprJ n q ed t x T L L1 i) (hi : i < T) (hs : stpP n q ed L1 t x j) : sprJ n q ed t x T L (updF L1 t (L1 t ||| 2 ^ j)) (i + 1) := by
  unfold sprJ at *
  rw [h, show T - i = (T - (i + 1)) + 1 by omega, spr_y hs]
  refine Prod.ext rfl ?_
  show i + (_ + 1) = i + 1 + _
  omega
theorem sprJ_n {n q ed t x T i : Nat} {L L1 : Nat → Nat} (h : sprJ n q ed t x T L L1 i) (hs : ∀ j, ¬ stpP n q ed L1 t x j) : spr n q ed t x T L = (L1, i) := by
  unfold sprJ at h
  rw [h, spr_n hs]
  rfl
theorem sprJ_e {n q ed t x T i : Nat} {L L1 : Nat → Nat} (h : sprJ n q ed t x T L L1 i) (hi : T ≤ i) : spr n q ed t x T L = (L1, i) := by
  unfold sprJ at h
  rw [h, show T - i = 0 by omega]
  rfl
theorem updF_t {L : Nat → Nat} {t v : Nat} : updF L t v t = v := by simp [updF]
theorem or_nz {m j : Nat} (h : m ≠ 0) : m ||| 2 ^ j ≠ 0 := fun q => h (Nat.or_eq_zero_iff.mp q).1
theorem or_ltq {m j q : Nat} (h : m < 2 ^ q) (hj : j < q) : m ||| 2 ^ j < 2 ^ q := Nat.or_lt_two_pow h (Nat.pow_lt_pow_right (by omega) hj)
theorem low_q {m q : Nat} (hm : m < 4096) (h0 : m ≠ 0) (h : m < 2 ^ q) : low m < q := bit_lt h (low_t m hm h0).1
theorem hig_q {m q : Nat} (hm : m < 4096) (h0 : m ≠ 0) (h : m < 2 ^ q) : hig m < q := bit_lt h (hig_t m hm h0).1
theorem stp_1 {n q ed t j : Nat} {L : Nat → Nat} (h0 : L t ≠ 0) (hj : (j : Int) = (low (L t) : Int) - 1) (hq : j < q) (hb : bareP n L j) (ho : openP n L t j) (he : ed.testBit (low (L t)) = false) : stpP n q ed L t 1 j := ⟨by rw [if_neg (by decide), lowI_nz h0]; exact hj, hq, hb, ho, by rw [if_neg (by decide), show j + 1 = low (L t) by omega]; exact he⟩
theorem stp_1n {n q ed t : Nat} {L : Nat → Nat} (h0 : L t ≠ 0) (h : ed.testBit (low (L t)) = true ∨ ∀ j : Nat, (j : Int) = (low (L t) : Int) - 1 → j < q → bareP n L j → ¬ openP n L t j) : ∀ j, ¬ stpP n q ed L t 1 j := fun j hj => by
  have h1 := hj.1
  rw [if_neg (by decide), lowI_nz h0] at h1
  rcases h with h | h
  · have h2 := hj.2.2.2.2
    rw [if_neg (by decide), show j + 1 = low (L t) by omega, h] at h2
    cases h2
  · exact h j h1 hj.2.1 hj.2.2.1 hj.2.2.2.1
theorem stp_0 {n q ed t j : Nat} {L : Nat → Nat} (h0 : L t ≠ 0) (hj : j = hig (L t) + 1) (hq : j < q) (hb : bareP n L j) (ho : openP n L t j) (he : ¬ ∃ k : Nat, (j : Int) = (k : Int) ∧ k < q ∧ ed.testBit k = true) : stpP n q ed L t 0 j := ⟨by rw [if_pos rfl, higI_nz h0]; omega, hq, hb, ho, by rw [if_pos rfl]; exact nb (fun h9 => he ⟨j, rfl, hq, h9⟩)⟩
theorem stp_0n {n q ed t : Nat} {L : Nat → Nat} (h0 : L t ≠ 0) (h : (∃ k : Nat, ((hig (L t) + 1 : Nat) : Int) = (k : Int) ∧ k < q ∧ ed.testBit k = true) ∨ ∀ j : Nat, j = hig (L t) + 1 → j < q → bareP n L j → ¬ openP n L t j) : ∀ j, ¬ stpP n q ed L t 0 j := fun j hj => by
  have h1 := hj.1
  rw [if_pos rfl, higI_nz h0] at h1
  rcases h with ⟨k, e1, e2, e3⟩ | h
  · have h2 := hj.2.2.2.2
    rw [if_pos rfl, show j = k by omega, e3] at h2
    cases h2
  · exact h j (by omega) hj.2.1 hj.2.2.1 hj.2.2.2.1
theorem dX1_spread_6 : decode cX1_spread 6 = .ok (.iload 6, 2) := dqU kk_21 (by decide +kernel)
theorem dX1_spread_8 : decode cX1_spread 8 = .ok (.iload 4, 2) := dqU kk_21 (by decide +kernel)
theorem dX1_spread_10 : decode cX1_spread 10 = .ok (.if_icmp .ge 121, 3) := dqT kk_162 (by decide +kernel)
theorem dX1_spread_13 : decode cX1_spread 13 = .ok (.aload_n 1, 1) := dq0 kk_43 (by decide +kernel)
theorem dX1_spread_14 : decode cX1_spread 14 = .ok (.iload_n 2, 1) := dq0 kk_28 (by decide +kernel)
theorem dX1_spread_15 : decode cX1_spread 15 = .ok (.invokevirtual 56, 3) := dqV kk_182 (by decide +kernel)
theorem dX1_spread_18 : decode cX1_spread 18 = .ok (.ifCond .eq 113, 3) := dqT kk_153 (by decide +kernel)
theorem dX1_spread_21 : decode cX1_spread 21 = .ok (.iload_n 3, 1) := dq0 kk_29 (by decide +kernel)
theorem dX1_spread_22 : decode cX1_spread 22 = .ok (.ifCond .eq 15, 3) := dqT kk_153 (by decide +kernel)
theorem dX1_spread_37 : decode cX1_spread 37 = .ok (.aload_n 1, 1) := dq0 kk_43 (by decide +kernel)
theorem dX1_spread_38 : decode cX1_spread 38 = .ok (.getfield 50, 3) := dqV kk_180 (by decide +kernel)
theorem dX1_spread_41 : decode cX1_spread 41 = .ok (.iload_n 2, 1) := dq0 kk_28 (by decide +kernel)
theorem dX1_spread_42 : decode cX1_spread 42 = .ok (.iaload, 1) := dq0 kk_46 (by decide +kernel)
theorem dX1_spread_43 : decode cX1_spread 43 = .ok (.invokestatic 72, 3) := dqV kk_184 (by decide +kernel)
theorem dX1_spread_46 : decode cX1_spread 46 = .ok (.istore 7, 2) := dqU kk_54 (by decide +kernel)
theorem dX1_spread_48 : decode cX1_spread 48 = .ok (.iload_n 3, 1) := dq0 kk_29 (by decide +kernel)
theorem dX1_spread_49 : decode cX1_spread 49 = .ok (.ifCond .eq 10, 3) := dqT kk_153 (by decide +kernel)
theorem dX1_spread_59 : decode cX1_spread 59 = .ok (.iload 7, 2) := dqU kk_21 (by decide +kernel)
theorem dX1_spread_61 : decode cX1_spread 61 = .ok (.iconst 1, 1) := dq0 kk_4 (by decide +kernel)
theorem dX1_spread_62 : decode cX1_spread 62 = .ok (.iadd, 1) := dq0 kk_96 (by decide +kernel)
theorem dX1_spread_63 : decode cX1_spread 63 = .ok (.istore 8, 2) := dqU kk_54 (by decide +kernel)
theorem dX1_spread_65 : decode cX1_spread 65 = .ok (.aload_n 1, 1) := dq0 kk_43 (by decide +kernel)
theorem dX1_spread_66 : decode cX1_spread 66 = .ok (.iload_n 3, 1) := dq0 kk_29 (by decide +kernel)
theorem dX1_spread_67 : decode cX1_spread 67 = .ok (.ifCond .eq 8, 3) := dqT kk_153 (by decide +kernel)
theorem dX1_spread_75 : decode cX1_spread 75 = .ok (.iload 8, 2) := dqU kk_21 (by decide +kernel)
theorem dX1_spread_77 : decode cX1_spread 77 = .ok (.invokevirtual 127, 3) := dqV kk_182 (by decide +kernel)
theorem tk_X9_hasEdge : Cond.code yX9_hasEdge cX9_hasEdge 2 (some .boolean) ∈ TB := tbm (tc3 (List.mem_of_getElem? (i := 202) rfl)) rfl
theorem gc_X9_hasEdge : GoodIn TB (cw yX9_hasEdge cX9_hasEdge 2 (some .boolean)) := goodIn_c2 tk_X9_hasEdge
theorem tb_98 : Cond.methodLink "ToneLines$Doer" 127 yX9_hasEdge ∈ TB := tbm (tc4 (List.mem_of_getElem? (i := 63) rfl)) rfl
theorem tb_99 : Cond.instanceMethod yX9_hasEdge ∈ TB := tbm (tc3 (List.mem_of_getElem? (i := 200) rfl)) rfl
theorem tb_100 : Cond.selects "ToneLines$Word" yX9_hasEdge yX9_hasEdge ∈ TB := tbm (tc3 (List.mem_of_getElem? (i := 201) rfl)) rfl
theorem gv_X1_127 : GoodIn TB (wsV RX1 127 RX9 yX9_hasEdge (cw yX9_hasEdge cX9_hasEdge 2 (some .boolean))) := goodIn_4 tb_98 tb_99 tb_100 tb_5 gc_X9_hasEdge
theorem hv_X9_hasEdge : yX9_hasEdge.cls = RX9 ∧ yX9_hasEdge.cls ≠ "java/lang/invoke/MethodHandle" ∧ yX9_hasEdge.cls ≠ "java/lang/invoke/VarHandle" ∧ (parseMethodDescriptor yX9_hasEdge.desc).map (fun d => d.parameters.length) = some 1 := by decide +kernel
theorem dX1_spread_80 : decode cX1_spread 80 = .ok (.istore 9, 2) := dqU kk_54 (by decide +kernel)
theorem dX1_spread_82 : decode cX1_spread 82 = .ok (.iload 9, 2) := dqU kk_21 (by decide +kernel)
theorem dX1_spread_84 : decode cX1_spread 84 = .ok (.ifCond .ne 47, 3) := dqT kk_154 (by decide +kernel)
theorem dX1_spread_87 : decode cX1_spread 87 = .ok (.aload_n 1, 1) := dq0 kk_43 (by decide +kernel)
theorem dX1_spread_88 : decode cX1_spread 88 = .ok (.iload 8, 2) := dqU kk_21 (by decide +kernel)
theorem dX1_spread_90 : decode cX1_spread 90 = .ok (.invokevirtual 39, 3) := dqV kk_182 (by decide +kernel)
theorem dX1_spread_93 : decode cX1_spread 93 = .ok (.ifCond .eq 38, 3) := dqT kk_153 (by decide +kernel)
theorem dX1_spread_96 : decode cX1_spread 96 = .ok (.aload_n 1, 1) := dq0 kk_43 (by decide +kernel)
theorem dX1_spread_97 : decode cX1_spread 97 = .ok (.iload_n 2, 1) := dq0 kk_28 (by decide +kernel)
theorem dX1_spread_98 : decode cX1_spread 98 = .ok (.iload 8, 2) := dqU kk_21 (by decide +kernel)
theorem dX1_spread_100 : decode cX1_spread 100 = .ok (.invokevirtual 60, 3) := dqV kk_182 (by decide +kernel)
theorem dX1_spread_103 : decode cX1_spread 103 = .ok (.ifCond .ne 6, 3) := dqT kk_154 (by decide +kernel)
theorem dX1_spread_109 : decode cX1_spread 109 = .ok (.aload_n 1, 1) := dq0 kk_43 (by decide +kernel)
theorem dX1_spread_110 : decode cX1_spread 110 = .ok (.getfield 50, 3) := dqV kk_180 (by decide +kernel)
theorem dX1_spread_113 : decode cX1_spread 113 = .ok (.iload_n 2, 1) := dq0 kk_28 (by decide +kernel)
theorem dX1_spread_114 : decode cX1_spread 114 = .ok (.dup2, 1) := dq0 kk_92 (by decide +kernel)
theorem dX1_spread_115 : decode cX1_spread 115 = .ok (.iaload, 1) := dq0 kk_46 (by decide +kernel)
theorem dX1_spread_116 : decode cX1_spread 116 = .ok (.iconst 1, 1) := dq0 kk_4 (by decide +kernel)
theorem dX1_spread_117 : decode cX1_spread 117 = .ok (.iload 8, 2) := dqU kk_21 (by decide +kernel)
theorem dX1_spread_119 : decode cX1_spread 119 = .ok (.ishl, 1) := dq0 kk_120 (by decide +kernel)
theorem dX1_spread_120 : decode cX1_spread 120 = .ok (.ior, 1) := dq0 kk_128 (by decide +kernel)
theorem dX1_spread_121 : decode cX1_spread 121 = .ok (.iastore, 1) := dq0 kk_79 (by decide +kernel)
theorem dX1_spread_122 : decode cX1_spread 122 = .ok (.iinc 5 1, 3) := dqI kk_132 (by decide +kernel)
theorem dX1_spread_125 : decode cX1_spread 125 = .ok (.iinc 6 1, 3) := dqI kk_132 (by decide +kernel)
theorem dX1_spread_128 : decode cX1_spread 128 = .ok (.goto (-122), 3) := dqT kk_167 (by decide +kernel)
theorem dX1_spread_106 : decode cX1_spread 106 = .ok (.goto 25, 3) := dqT kk_167 (by decide +kernel)
set_option maxRecDepth 4000 in
theorem lp_X1_spread_0 {p : Program} {l : Launch} {e : Env} {s : State} {m : MethodId} {args : Array Value} {below : List Frame} {meth : Method} {c : Code} {D : va_G} {B : Nat} {cy : Nat → ClassId} {H0 : Heap} {Q : State → Prop} {M : Mem} {R : Room} {a n q hv ed : Nat} {K L : Nat → Nat}  {t x T : Nat} (F : CallFix p m c cX1_spread 10 s args TB RX1) (hR1 : 2 ≤ R.frames) (hR2 : 48 ≤ R.locals) (hk : kd a = (9, 0, 0)) (hW : isW M a n q hv ed K L) (hwf : wf n q hv ed K L) (ht : t < n) (hxv : x = 0) (hT : T ≤ 9) (kk : ∀ (i : Nat) (N : Mem) (L1 : Nat → Nat) (H : Heap) (locs : List Loc) (ls : Array Slot), (isW N a n q hv ed K L1) → (wf n q hv ed K L1) → (Fr3 N M a) → (spr n q ed t x T L = (L1, i)) → Wd D B cy s H0 N H locs → lv_has ls 10 [(5, .int (zI (i : Int)))] → W p l e R s m args below meth c H locs 0 0 Q (F0 m 131 ls [])) : ∀ (f : Nat) (i : Nat) (N : Mem) (L1 : Nat → Nat), (i ≤ T) → (isW N a n q hv ed K L1) → (wf n q hv ed K L1) → (Fr3 N M a) → (L1 t ≠ 0 ∧ L1 t < 2 ^ q) → (sprJ n q ed t x T L L1 i) → (T ≤ i + f) → ∀ (H : Heap) (locs : List Loc) (ls : Array Slot), Wd D B cy s H0 N H locs → lv_has ls 10 [(6, .int (zI (i : Int))), (5, .int (zI (i : Int))), (0, .ref (B + 23)), (1, .ref (B + a)), (2, .int (zI (t : Int))), (3, .int (zI (x : Int))), (4, .int (zI (T : Int)))] → W p l e R s m args below meth c H locs 0 0 Q (F0 m 6 ls []) := by
  have hx := F.1
  have hb := F.2.1
  have hwf0 := hwf
  obtain ⟨hn, hq, hhv, hed, hKL⟩ := hwf0
  intro f
  induction f with
  | zero =>
    intro i N L1 i0 i1 i2 i3 i4 i5 hf H locs ls w hl
    have hKL := i2.2.2.2.2
    have hLt := (hKL t (by omega)).2
    refine lv_iload hx hb dX1_spread_6 (lv_at hl 0 rfl) ?_
    refine lv_iload hx hb dX1_spread_8 (lv_at hl 6 rfl) ?_
    refine z_icmp_ge (tgt := 131) hx hb (by omega) (by omega) dX1_spread_10 (by decide) (fun c1 => ?_) (fun c1 => False.elim (by omega))
    exact kk i N L1 _ _ ls i1 i2 i3 (sprJ_e i5 (by omega)) w (lv_sub hl [1] rfl)
  | succ f ih =>
    intro i N L1 i0 i1 i2 i3 i4 i5 hf H locs ls w hl
    have hKL := i2.2.2.2.2
    have hLt := (hKL t (by omega)).2
    refine lv_iload hx hb dX1_spread_6 (lv_at hl 0 rfl) ?_
    refine lv_iload hx hb dX1_spread_8 (lv_at hl 6 rfl) ?_
    refine z_icmp_ge (tgt := 131) hx hb (by omega) (by omega) dX1_spread_10 (by decide) (fun c1 => ?_) (fun c1 => ?_)
    · exact kk i N L1 _ _ ls i1 i2 i3 (sprJ_e i5 (by omega)) w (lv_sub hl [1] rfl)
    · refine lv_aload_n hx hb dX1_spread_13 rfl (lv_at hl 3 rfl) ?_
      refine lv_iload_n hx hb dX1_spread_14 rfl (lv_at hl 4 rfl) ?_
      refine k_Vi F w (As := [.int (zI (t : Int))]) (rest := []) (a := a) (kd_lt (a := a) hk (by decide)) (sh_9 hk _ _) rfl (s_X9_linesFrom hk i1 i2 (by omega)) gv_X1_56 hv_X9_linesFrom ⟨(by omega), (by omega)⟩ hl.1 rfl (Nat.le_of_ble_eq_true rfl) ⟨Nat.zero_le _, Nat.zero_le _⟩ dX1_spread_15 (fun r M1 H locs hp w => ?_)
      rcases hp with ⟨⟨k2, ek2, hk2, rfl⟩ | ⟨nk2, rfl⟩, hMe⟩
      · obtain rfl : t = k2 := by omega
        rw [hMe] at w
        have gk2 := (hKL t (by omega)).2
        refine z_if_eq (tgt := 131) hx hb (by omega) dX1_spread_18 (by decide) (fun c3 => ?_) (fun c3 => ?_)
        · exact kk i N L1 _ _ ls i1 i2 i3 (sprJ_e i5 (by omega)) w (lv_sub hl [1] rfl)
        · refine lv_iload_n hx hb dX1_spread_21 rfl (lv_at hl 5 rfl) ?_
          refine z_if_eq (tgt := 37) hx hb (by omega) dX1_spread_22 (by decide) (fun c4 => ?_) (fun c4 => False.elim (by omega))
          refine lv_aload_n hx hb dX1_spread_37 rfl (lv_at hl 3 rfl) ?_
          refine f_9_5 F w (a := a) hk tb_78 dX1_spread_38 ?_
          refine lv_iload_n hx hb dX1_spread_41 rfl (lv_at hl 4 rfl) ?_
          refine g_iald F w (a := (a + 2)) (kd_w2 hk) (j := t) (ix_n (by omega)) (by omega) dX1_spread_42 ?_
          have hL4 := (hKL t (by omega)).2
          refine r_val (v := (zI (((L1 t) : Nat) : Int))) (i1.2.2.2.2.2 t (by omega)) ?_
          refine x_Ni F w (As := [.int (zI (((L1 t) : Nat) : Int))]) (rest := []) (s_X11_highest (m9 := (L1 t)) (by omega)) gc_X11_highest tb_95 tb_97 (by decide) hs_X11_highest ⟨(by omega), (by omega)⟩ hl.1 rfl (Nat.le_of_ble_eq_true rfl) ⟨Nat.zero_le _, Nat.zero_le _⟩ dX1_spread_43 (fun H locs w => ?_)
          have hw4 := higI_rg (L1 t) (by omega)
          refine r_val (v := zI ((hig (L1 t) : Nat) : Int)) (congrArg zI (higI_nz i4.1)) ?_
          have he4 := (hig_t (L1 t) (by omega) i4.1).2
          have hq4 := hig_q (by omega) i4.1 i4.2
          refine lv_istore (lv' := [(7, .int (zI (((hig (L1 t)) : Nat) : Int))), (6, .int (zI (i : Int))), (5, .int (zI (i : Int))), (0, .ref (B + 23)), (1, .ref (B + a)), (2, .int (zI (t : Int))), (3, .int (zI (x : Int))), (4, .int (zI (T : Int)))]) hx hb dX1_spread_46 hl (by decide) rfl (fun ls hl => ?_)
          refine lv_iload_n hx hb dX1_spread_48 rfl (lv_at hl 6 rfl) ?_
          refine z_if_eq (tgt := 59) hx hb (by omega) dX1_spread_49 (by decide) (fun c5 => ?_) (fun c5 => False.elim (by omega))
          refine lv_iload hx hb dX1_spread_59 (lv_at hl 0 rfl) ?_
          refine lv_iconst (v := zI 1) hx hb dX1_spread_61 rfl ?_
          refine z_iadd (z := ((((hig (L1 t)) + 1) : Nat) : Int)) hx hb dX1_spread_62 (by omega) ?_
          refine lv_istore (lv' := [(8, .int (zI ((((hig (L1 t)) + 1) : Nat) : Int))), (7, .int (zI (((hig (L1 t)) : Nat) : Int))), (6, .int (zI (i : Int))), (5, .int (zI (i : Int))), (0, .ref (B + 23)), (1, .ref (B + a)), (2, .int (zI (t : Int))), (3, .int (zI (x : Int))), (4, .int (zI (T : Int)))]) hx hb dX1_spread_63 hl (by decide) rfl (fun ls hl => ?_)
          refine lv_aload_n hx hb dX1_spread_65 rfl (lv_at hl 5 rfl) ?_
          refine lv_iload_n hx hb dX1_spread_66 rfl (lv_at hl 7 rfl) ?_
          refine z_if_eq (tgt := 75) hx hb (by omega) dX1_spread_67 (by decide) (fun c6 => ?_) (fun c6 => False.elim (by omega))
          refine lv_iload hx hb dX1_spread_75 (lv_at hl 0 rfl) ?_
          refine k_Vi F w (As := [.int (zI ((((hig (L1 t)) + 1) : Nat) : Int))]) (rest := []) (a := a) (kd_lt (a := a) hk (by decide)) (sh_9 hk _ _) rfl (s_X9_hasEdge hk i1 i2 (by omega)) gv_X1_127 hv_X9_hasEdge ⟨(by omega), (by omega)⟩ hl.1 rfl (Nat.le_of_ble_eq_true rfl) ⟨Nat.zero_le _, Nat.zero_le _⟩ dX1_spread_77 (fun r M1 H locs hp w => ?_)
          rcases hp with ⟨⟨k7, e7, h7, b7, rfl⟩ | ⟨hed9, rfl⟩, hMe⟩
          · rw [hMe] at w
            refine lv_istore (lv' := [(9, .int (zI 1)), (8, .int (zI ((((hig (L1 t)) + 1) : Nat) : Int))), (7, .int (zI (((hig (L1 t)) : Nat) : Int))), (6, .int (zI (i : Int))), (5, .int (zI (i : Int))), (0, .ref (B + 23)), (1, .ref (B + a)), (2, .int (zI (t : Int))), (3, .int (zI (x : Int))), (4, .int (zI (T : Int)))]) hx hb dX1_spread_80 hl (by decide) rfl (fun ls hl => ?_)
            refine lv_iload hx hb dX1_spread_82 (lv_at hl 0 rfl) ?_
            refine z_if_ne (tgt := 131) hx hb (by omega) dX1_spread_84 (by decide) (fun c7 => ?_) (fun c7 => False.elim (by omega))
            exact kk i N L1 _ _ ls i1 i2 i3 (by subst hxv; exact sprJ_n i5 (stp_0n i4.1 (Or.inl ⟨k7, e7, h7, b7⟩))) w (lv_sub hl [4] rfl)
          · rw [hMe] at w
            refine lv_istore (lv' := [(9, .int (zI 0)), (8, .int (zI ((((hig (L1 t)) + 1) : Nat) : Int))), (7, .int (zI (((hig (L1 t)) : Nat) : Int))), (6, .int (zI (i : Int))), (5, .int (zI (i : Int))), (0, .ref (B + 23)), (1, .ref (B + a)), (2, .int (zI (t : Int))), (3, .int (zI (x : Int))), (4, .int (zI (T : Int)))]) hx hb dX1_spread_80 hl (by decide) rfl (fun ls hl => ?_)
            refine lv_iload hx hb dX1_spread_82 (lv_at hl 0 rfl) ?_
            refine z_if_ne (tgt := 131) hx hb (by omega) dX1_spread_84 (by decide) (fun c8 => False.elim (by omega)) (fun c8 => ?_)
            refine lv_aload_n hx hb dX1_spread_87 rfl (lv_at hl 6 rfl) ?_
            refine lv_iload hx hb dX1_spread_88 (lv_at hl 1 rfl) ?_
            refine k_Vi F w (As := [.int (zI ((((hig (L1 t)) + 1) : Nat) : Int))]) (rest := []) (a := a) (kd_lt (a := a) hk (by decide)) (sh_9 hk _ _) rfl (s_X9_isBare hk i1 i2 (by omega)) gv_X1_39 hv_X9_isBare ⟨(by omega), (by omega)⟩ hl.1 rfl (Nat.le_of_ble_eq_true rfl) ⟨Nat.zero_le _, Nat.zero_le _⟩ dX1_spread_90 (fun r M1 H locs hp w => ?_)
            rcases hp with ⟨⟨⟨k6, e6, h6, b6⟩, rfl⟩ | ⟨nb6, rfl⟩, hMe⟩
            · rw [hMe] at w
              obtain rfl : ((hig (L1 t)) + 1) = k6 := by omega
              refine z_if_eq (tgt := 131) hx hb (by omega) dX1_spread_93 (by decide) (fun c9 => False.elim (by omega)) (fun c9 => ?_)
              refine lv_aload_n hx hb dX1_spread_96 rfl (lv_at hl 6 rfl) ?_
              refine lv_iload_n hx hb dX1_spread_97 rfl (lv_at hl 7 rfl) ?_
              refine lv_iload hx hb dX1_spread_98 (lv_at hl 1 rfl) ?_
              refine k_Vi F w (As := [.int (zI (t : Int)), .int (zI ((((hig (L1 t)) + 1) : Nat) : Int))]) (rest := []) (a := a) (kd_lt (a := a) hk (by decide)) (sh_9 hk _ _) rfl (s_X9_isOpen hk i1 i2 (by omega) (by omega)) gv_X1_60 hv_X9_isOpen ⟨(by omega), (by omega)⟩ hl.1 rfl (Nat.le_of_ble_eq_true rfl) ⟨Nat.zero_le _, Nat.zero_le _⟩ dX1_spread_100 (fun r M1 H locs hp w => ?_)
              rcases hp with ⟨⟨⟨k9, j9, e91, e92, hk9, hj9, ho9⟩, rfl⟩ | ⟨ho9, rfl⟩, hMe⟩
              · obtain rfl : t = k9 := by omega
                obtain rfl : ((hig (L1 t)) + 1) = j9 := by omega
                rw [hMe] at w
                refine z_if_ne (tgt := 109) hx hb (by omega) dX1_spread_103 (by decide) (fun c10 => ?_) (fun c10 => False.elim (by omega))
                refine lv_aload_n hx hb dX1_spread_109 rfl (lv_at hl 6 rfl) ?_
                refine f_9_5 F w (a := a) hk tb_78 dX1_spread_110 ?_
                refine lv_iload_n hx hb dX1_spread_113 rfl (lv_at hl 7 rfl) ?_
                refine lv_dup2_11 hx hb dX1_spread_114 rfl rfl ?_
                refine g_iald F w (a := (a + 2)) (kd_w2 hk) (j := t) (ix_n (by omega)) (by omega) dX1_spread_115 ?_
                have hL10 := (hKL t (by omega)).2
                refine r_val (v := (zI (((L1 t) : Nat) : Int))) (i1.2.2.2.2.2 t (by omega)) ?_
                refine lv_iconst (v := zI 1) hx hb dX1_spread_116 rfl ?_
                refine lv_iload hx hb dX1_spread_117 (lv_at hl 1 rfl) ?_
                refine lv_ishl hx hb dX1_spread_119 ?_
                refine r_val (v := (zI (((2 ^ ((hig (L1 t)) + 1)) : Nat) : Int))) (zb_shl (n := ((hig (L1 t)) + 1)) (by omega)) ?_
                have q11 := p2_b (n := ((hig (L1 t)) + 1)) (by omega)
                refine lv_ior hx hb dX1_spread_120 ?_
                refine r_val (v := (zI ((((L1 t) ||| (2 ^ ((hig (L1 t)) + 1))) : Nat) : Int))) (zb_or (L1 t) (2 ^ ((hig (L1 t)) + 1))) ?_
                have q12 := or_lt12 (a := (L1 t)) (b := (2 ^ ((hig (L1 t)) + 1))) (by omega) (by omega)
                refine g_iast F w (a := (a + 2)) (kd_w2 hk) (j := t) (ix_n (by omega)) (by omega) dX1_spread_121 (fun H locs w => ?_)
                refine z_iinc (v := (((i + 1) : Nat) : Int)) (lv' := [(5, .int (zI (((i + 1) : Nat) : Int))), (9, .int (zI 0)), (8, .int (zI ((((hig (L1 t)) + 1) : Nat) : Int))), (7, .int (zI (((hig (L1 t)) : Nat) : Int))), (6, .int (zI (i : Int))), (0, .ref (B + 23)), (1, .ref (B + a)), (2, .int (zI (t : Int))), (3, .int (zI (x : Int))), (4, .int (zI (T : Int)))]) hx hb dX1_spread_122 hl (k := 4) rfl (by omega) (by decide) rfl (fun ls hl => ?_)
                refine z_iinc (v := (((i + 1) : Nat) : Int)) (lv' := [(6, .int (zI (((i + 1) : Nat) : Int))), (5, .int (zI (((i + 1) : Nat) : Int))), (9, .int (zI 0)), (8, .int (zI ((((hig (L1 t)) + 1) : Nat) : Int))), (7, .int (zI (((hig (L1 t)) : Nat) : Int))), (0, .ref (B + 23)), (1, .ref (B + a)), (2, .int (zI (t : Int))), (3, .int (zI (x : Int))), (4, .int (zI (T : Int)))]) hx hb dX1_spread_125 hl (k := 4) rfl (by omega) (by decide) rfl (fun ls hl => ?_)
                refine lv_goto (tgt := 6) hx hb dX1_spread_128 (by decide) ?_
                exact ih (i + 1) (st N (a + 2) t (zI ((((L1 t) ||| (2 ^ ((hig (L1 t)) + 1))) : Nat) : Int))) (updF L1 t (L1 t ||| 2 ^ ((hig (L1 t)) + 1))) (by omega) (wlineW i1) (wf_or i2 ht (by omega)) (wlineF i3) ⟨by rw [updF_t]; exact or_nz i4.1, by rw [updF_t]; exact or_ltq i4.2 (by omega)⟩ (by subst hxv; exact sprJ_y i5 (by omega) (stp_0 i4.1 rfl (by omega) b6 ho9 hed9)) (by omega) _ _ ls w (lv_sub hl [0, 1, 5, 6, 7, 8, 9] rfl)
              · replace ho9 : ¬ openP n L1 t ((hig (L1 t)) + 1) := fun h9 => ho9 ⟨_, _, rfl, rfl, by omega, by omega, h9⟩
                rw [hMe] at w
                refine z_if_ne (tgt := 109) hx hb (by omega) dX1_spread_103 (by decide) (fun c13 => False.elim (by omega)) (fun c13 => ?_)
                refine lv_goto (tgt := 131) hx hb dX1_spread_106 (by decide) ?_
                exact kk i N L1 _ _ ls i1 i2 i3 (by subst hxv; exact sprJ_n i5 (stp_0n i4.1 (Or.inr (fun j8 e8 h8 b8 o8 => ho9 (by rw [← e8]; exact o8))))) w (lv_sub hl [4] rfl)
            · rw [hMe] at w
              refine z_if_eq (tgt := 131) hx hb (by omega) dX1_spread_93 (by decide) (fun c14 => ?_) (fun c14 => False.elim (by omega))
              exact kk i N L1 _ _ ls i1 i2 i3 (by subst hxv; exact sprJ_n i5 (stp_0n i4.1 (Or.inr (fun j8 e8 h8 b8 _ => nb6 ⟨j8, by omega, h8, b8⟩)))) w (lv_sub hl [4] rfl)
      · exact False.elim (by omega)
theorem dX1_spread_0 : decode cX1_spread 0 = .ok (.iconst 0, 1) := dq0 kk_3 (by decide +kernel)
theorem dX1_spread_1 : decode cX1_spread 1 = .ok (.istore 5, 2) := dqU kk_54 (by decide +kernel)
theorem dX1_spread_3 : decode cX1_spread 3 = .ok (.iconst 0, 1) := dq0 kk_3 (by decide +kernel)
theorem dX1_spread_4 : decode cX1_spread 4 = .ok (.istore 6, 2) := dqU kk_54 (by decide +kernel)
theorem dX1_spread_131 : decode cX1_spread 131 = .ok (.iload 5, 2) := dqU kk_21 (by decide +kernel)
theorem dX1_spread_133 : decode cX1_spread 133 = .ok (.ireturn, 1) := dq0 kk_172 (by decide +kernel)
set_option maxRecDepth 4000 in
theorem s_X1_spread_0 {l : Launch} {D : va_G} {B : Nat} {cy : Nat → ClassId} {M : Mem} {a n q hv ed : Nat} {K L : Nat → Nat} (hk : kd a = (9, 0, 0)) (hW : isW M a n q hv ed K L) (hwf : wf n q hv ed K L) {t x T : Nat} (ht : t < n) (hxv : x = 0) (hT : T ≤ 9) (h09 : L t ≠ 0) (hLq : L t < 2 ^ q) : Ci l D B cy yX1_spread cX1_spread 10 (some .int) 2 48 [.ref (B + 23), .ref (B + a), .int (zI (t : Int)), .int (zI (x : Int)), .int (zI (T : Int))] M (fun r M1 => r = zI (((spr n q ed t x T L).2 : Nat) : Int) ∧ isW M1 a n q hv ed K (spr n q ed t x T L).1 ∧ wf n q hv ed K (spr n q ed t x T L).1 ∧ Fr3 M1 M a) := by
  refine s_any (by decide) (Nat.le_of_ble_eq_true rfl) ?_
  intro p e s m below meth c ls F hr hlocks w hl
  have F : CallFix p m c cX1_spread 10 s _ TB RX1 := F
  have hx := F.1
  have hb := F.2.1
  have hl : lv_has ls 10 [(0, .ref (B + 23)), (1, .ref (B + a)), (2, .int (zI (t : Int))), (3, .int (zI (x : Int))), (4, .int (zI (T : Int)))] := hl
  have hwf0 := hwf
  obtain ⟨hn, hq, hhv, hed, hKL⟩ := hwf0
  refine lv_iconst (v := zI 0) hx hb dX1_spread_0 rfl ?_
  refine lv_istore (lv' := [(5, .int (zI 0)), (0, .ref (B + 23)), (1, .ref (B + a)), (2, .int (zI (t : Int))), (3, .int (zI (x : Int))), (4, .int (zI (T : Int)))]) hx hb dX1_spread_1 hl (by decide) rfl (fun ls hl => ?_)
  refine lv_iconst (v := zI 0) hx hb dX1_spread_3 rfl ?_
  refine lv_istore (lv' := [(6, .int (zI 0)), (5, .int (zI 0)), (0, .ref (B + 23)), (1, .ref (B + a)), (2, .int (zI (t : Int))), (3, .int (zI (x : Int))), (4, .int (zI (T : Int)))]) hx hb dX1_spread_4 hl (by decide) rfl (fun ls hl => ?_)
  refine lp_X1_spread_0  F (Nat.le_of_ble_eq_true rfl) (Nat.le_of_ble_eq_true rfl) hk hW hwf ht hxv hT (fun i N L1 H locs ls x0 x1 x2 x3 w hl => ?_) T 0 M L (by omega) hW hwf Fr3.rf ⟨h09, hLq⟩ sprJ_0 (by omega) _ _ ls w (lv_sub hl [0, 1, 2, 3, 4, 5, 6] rfl)
  refine lv_iload hx hb dX1_spread_131 (lv_at hl 0 rfl) ?_
  exact e_i F w hr hlocks ⟨by rw [x3], by rw [x3]; exact x0, by rw [x3]; exact x1, x2⟩ dX1_spread_133
theorem dX1_spread_25 : decode cX1_spread 25 = .ok (.aload_n 1, 1) := dq0 kk_43 (by decide +kernel)
theorem dX1_spread_26 : decode cX1_spread 26 = .ok (.getfield 50, 3) := dqV kk_180 (by decide +kernel)
theorem dX1_spread_29 : decode cX1_spread 29 = .ok (.iload_n 2, 1) := dq0 kk_28 (by decide +kernel)
theorem dX1_spread_30 : decode cX1_spread 30 = .ok (.iaload, 1) := dq0 kk_46 (by decide +kernel)
theorem dX1_spread_31 : decode cX1_spread 31 = .ok (.invokestatic 75, 3) := dqV kk_184 (by decide +kernel)
theorem dX1_spread_34 : decode cX1_spread 34 = .ok (.goto 12, 3) := dqT kk_167 (by decide +kernel)
theorem dX1_spread_52 : decode cX1_spread 52 = .ok (.iload 7, 2) := dqU kk_21 (by decide +kernel)
theorem dX1_spread_54 : decode cX1_spread 54 = .ok (.iconst 1, 1) := dq0 kk_4 (by decide +kernel)
theorem dX1_spread_55 : decode cX1_spread 55 = .ok (.isub, 1) := dq0 kk_100 (by decide +kernel)
theorem dX1_spread_56 : decode cX1_spread 56 = .ok (.goto 7, 3) := dqT kk_167 (by decide +kernel)
theorem dX1_spread_70 : decode cX1_spread 70 = .ok (.iload 7, 2) := dqU kk_21 (by decide +kernel)
theorem dX1_spread_72 : decode cX1_spread 72 = .ok (.goto 5, 3) := dqT kk_167 (by decide +kernel)
set_option maxRecDepth 4000 in
theorem lp_X1_spread_1 {p : Program} {l : Launch} {e : Env} {s : State} {m : MethodId} {args : Array Value} {below : List Frame} {meth : Method} {c : Code} {D : va_G} {B : Nat} {cy : Nat → ClassId} {H0 : Heap} {Q : State → Prop} {M : Mem} {R : Room} {a n q hv ed : Nat} {K L : Nat → Nat}  {t x T : Nat} (F : CallFix p m c cX1_spread 10 s args TB RX1) (hR1 : 2 ≤ R.frames) (hR2 : 48 ≤ R.locals) (hk : kd a = (9, 0, 0)) (hW : isW M a n q hv ed K L) (hwf : wf n q hv ed K L) (ht : t < n) (hxv : x = 1) (hT : T ≤ 9) (kk : ∀ (i : Nat) (N : Mem) (L1 : Nat → Nat) (H : Heap) (locs : List Loc) (ls : Array Slot), (isW N a n q hv ed K L1) → (wf n q hv ed K L1) → (Fr3 N M a) → (spr n q ed t x T L = (L1, i)) → Wd D B cy s H0 N H locs → lv_has ls 10 [(5, .int (zI (i : Int)))] → W p l e R s m args below meth c H locs 0 0 Q (F0 m 131 ls [])) : ∀ (f : Nat) (i : Nat) (N : Mem) (L1 : Nat → Nat), (i ≤ T) → (isW N a n q hv ed K L1) → (wf n q hv ed K L1) → (Fr3 N M a) → (L1 t ≠ 0 ∧ L1 t < 2 ^ q) → (sprJ n q ed t x T L L1 i) → (T ≤ i + f) → ∀ (H : Heap) (locs : List Loc) (ls : Array Slot), Wd D B cy s H0 N H locs → lv_has ls 10 [(6, .int (zI (i : Int))), (5, .int (zI (i : Int))), (0, .ref (B + 23)), (1, .ref (B + a)), (2, .int (zI (t : Int))), (3, .int (zI (x : Int))), (4, .int (zI (T : Int)))] → W p l e R s m args below meth c H locs 0 0 Q (F0 m 6 ls []) := by
  have hx := F.1
  have hb := F.2.1
  have hwf0 := hwf
  obtain ⟨hn, hq, hhv, hed, hKL⟩ := hwf0
  intro f
  induction f with
  | zero =>
    intro i N L1 i0 i1 i2 i3 i4 i5 hf H locs ls w hl
    have hKL := i2.2.2.2.2
    have hLt := (hKL t (by omega)).2
    refine lv_iload hx hb dX1_spread_6 (lv_at hl 0 rfl) ?_
    refine lv_iload hx hb dX1_spread_8 (lv_at hl 6 rfl) ?_
    refine z_icmp_ge (tgt := 131) hx hb (by omega) (by omega) dX1_spread_10 (by decide) (fun c1 => ?_) (fun c1 => False.elim (by omega))
    exact kk i N L1 _ _ ls i1 i2 i3 (sprJ_e i5 (by omega)) w (lv_sub hl [1] rfl)
  | succ f ih =>
    intro i N L1 i0 i1 i2 i3 i4 i5 hf H locs ls w hl
    have hKL := i2.2.2.2.2
    have hLt := (hKL t (by omega)).2
    refine lv_iload hx hb dX1_spread_6 (lv_at hl 0 rfl) ?_
    refine lv_iload hx hb dX1_spread_8 (lv_at hl 6 rfl) ?_
    refine z_icmp_ge (tgt := 131) hx hb (by omega) (by omega) dX1_spread_10 (by decide) (fun c1 => ?_) (fun c1 => ?_)
    · exact kk i N L1 _ _ ls i1 i2 i3 (sprJ_e i5 (by omega)) w (lv_sub hl [1] rfl)
    · refine lv_aload_n hx hb dX1_spread_13 rfl (lv_at hl 3 rfl) ?_
      refine lv_iload_n hx hb dX1_spread_14 rfl (lv_at hl 4 rfl) ?_
      refine k_Vi F w (As := [.int (zI (t : Int))]) (rest := []) (a := a) (kd_lt (a := a) hk (by decide)) (sh_9 hk _ _) rfl (s_X9_linesFrom hk i1 i2 (by omega)) gv_X1_56 hv_X9_linesFrom ⟨(by omega), (by omega)⟩ hl.1 rfl (Nat.le_of_ble_eq_true rfl) ⟨Nat.zero_le _, Nat.zero_le _⟩ dX1_spread_15 (fun r M1 H locs hp w => ?_)
      rcases hp with ⟨⟨k2, ek2, hk2, rfl⟩ | ⟨nk2, rfl⟩, hMe⟩
      · obtain rfl : t = k2 := by omega
        rw [hMe] at w
        have gk2 := (hKL t (by omega)).2
        refine z_if_eq (tgt := 131) hx hb (by omega) dX1_spread_18 (by decide) (fun c3 => ?_) (fun c3 => ?_)
        · exact kk i N L1 _ _ ls i1 i2 i3 (sprJ_e i5 (by omega)) w (lv_sub hl [1] rfl)
        · refine lv_iload_n hx hb dX1_spread_21 rfl (lv_at hl 5 rfl) ?_
          refine z_if_eq (tgt := 37) hx hb (by omega) dX1_spread_22 (by decide) (fun c4 => False.elim (by omega)) (fun c4 => ?_)
          refine lv_aload_n hx hb dX1_spread_25 rfl (lv_at hl 3 rfl) ?_
          refine f_9_5 F w (a := a) hk tb_78 dX1_spread_26 ?_
          refine lv_iload_n hx hb dX1_spread_29 rfl (lv_at hl 4 rfl) ?_
          refine g_iald F w (a := (a + 2)) (kd_w2 hk) (j := t) (ix_n (by omega)) (by omega) dX1_spread_30 ?_
          have hL4 := (hKL t (by omega)).2
          refine r_val (v := (zI (((L1 t) : Nat) : Int))) (i1.2.2.2.2.2 t (by omega)) ?_
          refine x_Ni F w (As := [.int (zI (((L1 t) : Nat) : Int))]) (rest := []) (s_X11_lowest (m9 := (L1 t)) (by omega)) gc_X11_lowest tb_95 tb_96 (by decide) hs_X11_lowest ⟨(by omega), (by omega)⟩ hl.1 rfl (Nat.le_of_ble_eq_true rfl) ⟨Nat.zero_le _, Nat.zero_le _⟩ dX1_spread_31 (fun H locs w => ?_)
          have hw4 := lowI_rg (L1 t) (by omega)
          refine r_val (v := zI ((low (L1 t) : Nat) : Int)) (congrArg zI (lowI_nz i4.1)) ?_
          have he4 := (low_t (L1 t) (by omega) i4.1).2
          have hq4 := low_q (by omega) i4.1 i4.2
          refine lv_goto (tgt := 46) hx hb dX1_spread_34 (by decide) ?_
          refine lv_istore (lv' := [(7, .int (zI (((low (L1 t)) : Nat) : Int))), (6, .int (zI (i : Int))), (5, .int (zI (i : Int))), (0, .ref (B + 23)), (1, .ref (B + a)), (2, .int (zI (t : Int))), (3, .int (zI (x : Int))), (4, .int (zI (T : Int)))]) hx hb dX1_spread_46 hl (by decide) rfl (fun ls hl => ?_)
          refine lv_iload_n hx hb dX1_spread_48 rfl (lv_at hl 6 rfl) ?_
          refine z_if_eq (tgt := 59) hx hb (by omega) dX1_spread_49 (by decide) (fun c5 => False.elim (by omega)) (fun c5 => ?_)
          refine lv_iload hx hb dX1_spread_52 (lv_at hl 0 rfl) ?_
          refine lv_iconst (v := zI 1) hx hb dX1_spread_54 rfl ?_
          refine z_isub (z := ((((low (L1 t)) : Nat) : Int) - 1)) hx hb dX1_spread_55 (by omega) ?_
          refine lv_goto (tgt := 63) hx hb dX1_spread_56 (by decide) ?_
          refine lv_istore (lv' := [(8, .int (zI ((((low (L1 t)) : Nat) : Int) - 1))), (7, .int (zI (((low (L1 t)) : Nat) : Int))), (6, .int (zI (i : Int))), (5, .int (zI (i : Int))), (0, .ref (B + 23)), (1, .ref (B + a)), (2, .int (zI (t : Int))), (3, .int (zI (x : Int))), (4, .int (zI (T : Int)))]) hx hb dX1_spread_63 hl (by decide) rfl (fun ls hl => ?_)
          refine lv_aload_n hx hb dX1_spread_65 rfl (lv_at hl 5 rfl) ?_
          refine lv_iload_n hx hb dX1_spread_66 rfl (lv_at hl 7 rfl) ?_
          refine z_if_eq (tgt := 75) hx hb (by omega) dX1_spread_67 (by decide) (fun c6 => False.elim (by omega)) (fun c6 => ?_)
          refine lv_iload hx hb dX1_spread_70 (lv_at hl 1 rfl) ?_
          refine lv_goto (tgt := 77) hx hb dX1_spread_72 (by decide) ?_
          refine k_Vi F w (As := [.int (zI (((low (L1 t)) : Nat) : Int))]) (rest := []) (a := a) (kd_lt (a := a) hk (by decide)) (sh_9 hk _ _) rfl (s_X9_hasEdge hk i1 i2 (by omega)) gv_X1_127 hv_X9_hasEdge ⟨(by omega), (by omega)⟩ hl.1 rfl (Nat.le_of_ble_eq_true rfl) ⟨Nat.zero_le _, Nat.zero_le _⟩ dX1_spread_77 (fun r M1 H locs hp w => ?_)
          rcases hp with ⟨⟨k7, e7, h7, b7, rfl⟩ | ⟨hed9, rfl⟩, hMe⟩
          · rw [hMe] at w
            refine lv_istore (lv' := [(9, .int (zI 1)), (8, .int (zI ((((low (L1 t)) : Nat) : Int) - 1))), (7, .int (zI (((low (L1 t)) : Nat) : Int))), (6, .int (zI (i : Int))), (5, .int (zI (i : Int))), (0, .ref (B + 23)), (1, .ref (B + a)), (2, .int (zI (t : Int))), (3, .int (zI (x : Int))), (4, .int (zI (T : Int)))]) hx hb dX1_spread_80 hl (by decide) rfl (fun ls hl => ?_)
            refine lv_iload hx hb dX1_spread_82 (lv_at hl 0 rfl) ?_
            refine z_if_ne (tgt := 131) hx hb (by omega) dX1_spread_84 (by decide) (fun c7 => ?_) (fun c7 => False.elim (by omega))
            exact kk i N L1 _ _ ls i1 i2 i3 (by subst hxv; exact sprJ_n i5 (stp_1n i4.1 (Or.inl (by rw [show low (L1 t) = k7 by omega]; exact b7)))) w (lv_sub hl [4] rfl)
          · rw [hMe] at w
            refine lv_istore (lv' := [(9, .int (zI 0)), (8, .int (zI ((((low (L1 t)) : Nat) : Int) - 1))), (7, .int (zI (((low (L1 t)) : Nat) : Int))), (6, .int (zI (i : Int))), (5, .int (zI (i : Int))), (0, .ref (B + 23)), (1, .ref (B + a)), (2, .int (zI (t : Int))), (3, .int (zI (x : Int))), (4, .int (zI (T : Int)))]) hx hb dX1_spread_80 hl (by decide) rfl (fun ls hl => ?_)
            refine lv_iload hx hb dX1_spread_82 (lv_at hl 0 rfl) ?_
            refine z_if_ne (tgt := 131) hx hb (by omega) dX1_spread_84 (by decide) (fun c8 => False.elim (by omega)) (fun c8 => ?_)
            refine lv_aload_n hx hb dX1_spread_87 rfl (lv_at hl 6 rfl) ?_
            refine lv_iload hx hb dX1_spread_88 (lv_at hl 1 rfl) ?_
            refine k_Vi F w (As := [.int (zI ((((low (L1 t)) : Nat) : Int) - 1))]) (rest := []) (a := a) (kd_lt (a := a) hk (by decide)) (sh_9 hk _ _) rfl (s_X9_isBare hk i1 i2 (by omega)) gv_X1_39 hv_X9_isBare ⟨(by omega), (by omega)⟩ hl.1 rfl (Nat.le_of_ble_eq_true rfl) ⟨Nat.zero_le _, Nat.zero_le _⟩ dX1_spread_90 (fun r M1 H locs hp w => ?_)
            rcases hp with ⟨⟨⟨k6, e6, h6, b6⟩, rfl⟩ | ⟨nb6, rfl⟩, hMe⟩
            · rw [hMe] at w
              rw [e6] at hl
              refine z_if_eq (tgt := 131) hx hb (by omega) dX1_spread_93 (by decide) (fun c9 => False.elim (by omega)) (fun c9 => ?_)
              refine lv_aload_n hx hb dX1_spread_96 rfl (lv_at hl 6 rfl) ?_
              refine lv_iload_n hx hb dX1_spread_97 rfl (lv_at hl 7 rfl) ?_
              refine lv_iload hx hb dX1_spread_98 (lv_at hl 1 rfl) ?_
              refine k_Vi F w (As := [.int (zI (t : Int)), .int (zI (k6 : Int))]) (rest := []) (a := a) (kd_lt (a := a) hk (by decide)) (sh_9 hk _ _) rfl (s_X9_isOpen hk i1 i2 (by omega) (by omega)) gv_X1_60 hv_X9_isOpen ⟨(by omega), (by omega)⟩ hl.1 rfl (Nat.le_of_ble_eq_true rfl) ⟨Nat.zero_le _, Nat.zero_le _⟩ dX1_spread_100 (fun r M1 H locs hp w => ?_)
              rcases hp with ⟨⟨⟨k9, j9, e91, e92, hk9, hj9, ho9⟩, rfl⟩ | ⟨ho9, rfl⟩, hMe⟩
              · obtain rfl : t = k9 := by omega
                obtain rfl : k6 = j9 := by omega
                rw [hMe] at w
                refine z_if_ne (tgt := 109) hx hb (by omega) dX1_spread_103 (by decide) (fun c10 => ?_) (fun c10 => False.elim (by omega))
                refine lv_aload_n hx hb dX1_spread_109 rfl (lv_at hl 6 rfl) ?_
                refine f_9_5 F w (a := a) hk tb_78 dX1_spread_110 ?_
                refine lv_iload_n hx hb dX1_spread_113 rfl (lv_at hl 7 rfl) ?_
                refine lv_dup2_11 hx hb dX1_spread_114 rfl rfl ?_
                refine g_iald F w (a := (a + 2)) (kd_w2 hk) (j := t) (ix_n (by omega)) (by omega) dX1_spread_115 ?_
                have hL10 := (hKL t (by omega)).2
                refine r_val (v := (zI (((L1 t) : Nat) : Int))) (i1.2.2.2.2.2 t (by omega)) ?_
                refine lv_iconst (v := zI 1) hx hb dX1_spread_116 rfl ?_
                refine lv_iload hx hb dX1_spread_117 (lv_at hl 1 rfl) ?_
                refine lv_ishl hx hb dX1_spread_119 ?_
                refine r_val (v := (zI (((2 ^ k6) : Nat) : Int))) (zb_shl (n := k6) (by omega)) ?_
                have q11 := p2_b (n := k6) (by omega)
                refine lv_ior hx hb dX1_spread_120 ?_
                refine r_val (v := (zI ((((L1 t) ||| (2 ^ k6)) : Nat) : Int))) (zb_or (L1 t) (2 ^ k6)) ?_
                have q12 := or_lt12 (a := (L1 t)) (b := (2 ^ k6)) (by omega) (by omega)
                refine g_iast F w (a := (a + 2)) (kd_w2 hk) (j := t) (ix_n (by omega)) (by omega) dX1_spread_121 (fun H locs w => ?_)
                refine z_iinc (v := (((i + 1) : Nat) : Int)) (lv' := [(5, .int (zI (((i + 1) : Nat) : Int))), (9, .int (zI 0)), (8, .int (zI (k6 : Int))), (7, .int (zI (((low (L1 t)) : Nat) : Int))), (6, .int (zI (i : Int))), (0, .ref (B + 23)), (1, .ref (B + a)), (2, .int (zI (t : Int))), (3, .int (zI (x : Int))), (4, .int (zI (T : Int)))]) hx hb dX1_spread_122 hl (k := 4) rfl (by omega) (by decide) rfl (fun ls hl => ?_)
                refine z_iinc (v := (((i + 1) : Nat) : Int)) (lv' := [(6, .int (zI (((i + 1) : Nat) : Int))), (5, .int (zI (((i + 1) : Nat) : Int))), (9, .int (zI 0)), (8, .int (zI (k6 : Int))), (7, .int (zI (((low (L1 t)) : Nat) : Int))), (0, .ref (B + 23)), (1, .ref (B + a)), (2, .int (zI (t : Int))), (3, .int (zI (x : Int))), (4, .int (zI (T : Int)))]) hx hb dX1_spread_125 hl (k := 4) rfl (by omega) (by decide) rfl (fun ls hl => ?_)
                refine lv_goto (tgt := 6) hx hb dX1_spread_128 (by decide) ?_
                exact ih (i + 1) (st N (a + 2) t (zI ((((L1 t) ||| (2 ^ k6)) : Nat) : Int))) (updF L1 t (L1 t ||| 2 ^ k6)) (by omega) (wlineW i1) (wf_or i2 ht (by omega)) (wlineF i3) ⟨by rw [updF_t]; exact or_nz i4.1, by rw [updF_t]; exact or_ltq i4.2 (by omega)⟩ (by subst hxv; exact sprJ_y i5 (by omega) (stp_1 i4.1 e6.symm (by omega) b6 ho9 (nb (fun h9 => hed9 ⟨_, rfl, by omega, h9⟩)))) (by omega) _ _ ls w (lv_sub hl [0, 1, 5, 6, 7, 8, 9] rfl)
              · replace ho9 : ¬ openP n L1 t k6 := fun h9 => ho9 ⟨_, _, rfl, rfl, by omega, by omega, h9⟩
                rw [hMe] at w
                refine z_if_ne (tgt := 109) hx hb (by omega) dX1_spread_103 (by decide) (fun c13 => False.elim (by omega)) (fun c13 => ?_)
                refine lv_goto (tgt := 131) hx hb dX1_spread_106 (by decide) ?_
                exact kk i N L1 _ _ ls i1 i2 i3 (by subst hxv; exact sprJ_n i5 (stp_1n i4.1 (Or.inr (fun j8 e8 h8 b8 o8 => ho9 (by (obtain rfl : j8 = k6 := by omega); exact o8))))) w (lv_sub hl [4] rfl)
            · rw [hMe] at w
              refine z_if_eq (tgt := 131) hx hb (by omega) dX1_spread_93 (by decide) (fun c14 => ?_) (fun c14 => False.elim (by omega))
              exact kk i N L1 _ _ ls i1 i2 i3 (by subst hxv; exact sprJ_n i5 (stp_1n i4.1 (Or.inr (fun j8 e8 h8 b8 _ => nb6 ⟨j8, by omega, h8, b8⟩)))) w (lv_sub hl [4] rfl)
      · exact False.elim (by omega)
set_option maxRecDepth 4000 in
theorem s_X1_spread_1 {l : Launch} {D : va_G} {B : Nat} {cy : Nat → ClassId} {M : Mem} {a n q hv ed : Nat} {K L : Nat → Nat} (hk : kd a = (9, 0, 0)) (hW : isW M a n q hv ed K L) (hwf : wf n q hv ed K L) {t x T : Nat} (ht : t < n) (hxv : x = 1) (hT : T ≤ 9) (h09 : L t ≠ 0) (hLq : L t < 2 ^ q) : Ci l D B cy yX1_spread cX1_spread 10 (some .int) 2 48 [.ref (B + 23), .ref (B + a), .int (zI (t : Int)), .int (zI (x : Int)), .int (zI (T : Int))] M (fun r M1 => r = zI (((spr n q ed t x T L).2 : Nat) : Int) ∧ isW M1 a n q hv ed K (spr n q ed t x T L).1 ∧ wf n q hv ed K (spr n q ed t x T L).1 ∧ Fr3 M1 M a) := by
  refine s_any (by decide) (Nat.le_of_ble_eq_true rfl) ?_
  intro p e s m below meth c ls F hr hlocks w hl
  have F : CallFix p m c cX1_spread 10 s _ TB RX1 := F
  have hx := F.1
  have hb := F.2.1
  have hl : lv_has ls 10 [(0, .ref (B + 23)), (1, .ref (B + a)), (2, .int (zI (t : Int))), (3, .int (zI (x : Int))), (4, .int (zI (T : Int)))] := hl
  have hwf0 := hwf
  obtain ⟨hn, hq, hhv, hed, hKL⟩ := hwf0
  refine lv_iconst (v := zI 0) hx hb dX1_spread_0 rfl ?_
  refine lv_istore (lv' := [(5, .int (zI 0)), (0, .ref (B + 23)), (1, .ref (B + a)), (2, .int (zI (t : Int))), (3, .int (zI (x : Int))), (4, .int (zI (T : Int)))]) hx hb dX1_spread_1 hl (by decide) rfl (fun ls hl => ?_)
  refine lv_iconst (v := zI 0) hx hb dX1_spread_3 rfl ?_
  refine lv_istore (lv' := [(6, .int (zI 0)), (5, .int (zI 0)), (0, .ref (B + 23)), (1, .ref (B + a)), (2, .int (zI (t : Int))), (3, .int (zI (x : Int))), (4, .int (zI (T : Int)))]) hx hb dX1_spread_4 hl (by decide) rfl (fun ls hl => ?_)
  refine lp_X1_spread_1  F (Nat.le_of_ble_eq_true rfl) (Nat.le_of_ble_eq_true rfl) hk hW hwf ht hxv hT (fun i N L1 H locs ls x0 x1 x2 x3 w hl => ?_) T 0 M L (by omega) hW hwf Fr3.rf ⟨h09, hLq⟩ sprJ_0 (by omega) _ _ ls w (lv_sub hl [0, 1, 2, 3, 4, 5, 6] rfl)
  refine lv_iload hx hb dX1_spread_131 (lv_at hl 0 rfl) ?_
  exact e_i F w hr hlocks ⟨by rw [x3], by rw [x3]; exact x0, by rw [x3]; exact x1, x2⟩ dX1_spread_133
