/-- a pass of link: what it makes of the lines, how many came -/
noncomputable def lkP (n q x : Nat) (L : Nat → Nat) : Nat → (Nat → Nat) × Int
  | 0 => (L, 0)
  | i + 1 => (linkL n (lkP n q x L i).1 x (ixd x q i), (lkP n q x L i).2 + linkC n (lkP n q x L i).1 x (ixd x q i))
theorem lkP_s {n q x i j : Nat} {L L1 L2 : Nat → Nat} {c1 d : Int} (h : lkP n q x L i = (L1, c1)) (hj : ixd x q i = j) (hL : linkL n L1 x j = L2) (hC : linkC n L1 x j = d) : lkP n q x L (i + 1) = (L2, c1 + d) := by
  rw [lkP, h, hj, hL, hC]
theorem wf_upd {n q hv ed t v : Nat} {K L : Nat → Nat} (h : wf n q hv ed K L) (hv9 : v < 4096) : wf n q hv ed K (updF L t v) := by
  refine ⟨h.1, h.2.1, h.2.2.1, h.2.2.2.1, fun k hk => ⟨(h.2.2.2.2 k hk).1, ?_⟩⟩
  unfold updF
  by_cases h1 : k = t
  · rw [if_pos h1]; exact hv9
  · rw [if_neg h1]; exact (h.2.2.2.2 k hk).2
theorem wlineW {M : Mem} {a n q hv ed t v : Nat} {K L : Nat → Nat} (h : isW M a n q hv ed K L) : isW (st M (a + 2) t (zI (v : Int))) a n q hv ed K (updF L t v) := by
  obtain ⟨w0, w1, w2, w3, w4, w5⟩ := h
  refine ⟨by simp [st, sA, w0], by simp [st, sA, w1], by simp [st, sA, w2], by simp [st, sA, w3], fun k hk => by simp [st, sA, w4 k hk], fun k hk => ?_⟩
  simp only [st, sA, updF]; simp; simp only [upd]
  by_cases h1 : k = t
  · rw [if_pos h1, if_pos h1]
  · rw [if_neg h1, if_neg h1]; exact w5 k hk
theorem wlineF {M M0 : Mem} {a t : Nat} {v : Int32} (h : Fr3 M M0 a) : Fr3 (st M (a + 2) t v) M0 a := Fr3.tr h ⟨fun b h1 h2 h3 => by simp [st, sA, h3], rfl⟩
theorem dX1_passOfLink_22 : decode cX1_passOfLink 22 = .ok (.iload 5, 2) := dqU kk_21 (by decide +kernel)
theorem dX1_passOfLink_24 : decode cX1_passOfLink 24 = .ok (.aload_n 2, 1) := dq0 kk_44 (by decide +kernel)
theorem dX1_passOfLink_25 : decode cX1_passOfLink 25 = .ok (.getfield 34, 3) := dqV kk_180 (by decide +kernel)
theorem tb_69 : Cond.fieldLink "ToneLines$Doer" 34 "ToneLines$Word" "syllables" "I" ∈ TB := tbm (tc1 (List.mem_of_getElem? (i := 136) rfl)) rfl
theorem dX1_passOfLink_28 : decode cX1_passOfLink 28 = .ok (.if_icmp .ge 78, 3) := dqT kk_162 (by decide +kernel)
theorem dX1_passOfLink_31 : decode cX1_passOfLink 31 = .ok (.iload_n 3, 1) := dq0 kk_29 (by decide +kernel)
theorem dX1_passOfLink_32 : decode cX1_passOfLink 32 = .ok (.ifCond .eq 15, 3) := dqT kk_153 (by decide +kernel)
theorem dX1_passOfLink_47 : decode cX1_passOfLink 47 = .ok (.iload 5, 2) := dqU kk_21 (by decide +kernel)
theorem dX1_passOfLink_49 : decode cX1_passOfLink 49 = .ok (.istore 6, 2) := dqU kk_54 (by decide +kernel)
theorem dX1_passOfLink_51 : decode cX1_passOfLink 51 = .ok (.aload_n 2, 1) := dq0 kk_44 (by decide +kernel)
theorem dX1_passOfLink_52 : decode cX1_passOfLink 52 = .ok (.iload 6, 2) := dqU kk_21 (by decide +kernel)
theorem dX1_passOfLink_54 : decode cX1_passOfLink 54 = .ok (.invokevirtual 39, 3) := dqV kk_182 (by decide +kernel)
theorem tk_X9_isBare : Cond.code yX9_isBare cX9_isBare 2 (some .boolean) ∈ TB := tbm (tc3 (List.mem_of_getElem? (i := 223) rfl)) rfl
theorem gc_X9_isBare : GoodIn TB (cw yX9_isBare cX9_isBare 2 (some .boolean)) := goodIn_c2 tk_X9_isBare
theorem tb_70 : Cond.methodLink "ToneLines$Doer" 39 yX9_isBare ∈ TB := tbm (tc3 (List.mem_of_getElem? (i := 220) rfl)) rfl
theorem tb_71 : Cond.instanceMethod yX9_isBare ∈ TB := tbm (tc3 (List.mem_of_getElem? (i := 221) rfl)) rfl
theorem tb_72 : Cond.selects "ToneLines$Word" yX9_isBare yX9_isBare ∈ TB := tbm (tc3 (List.mem_of_getElem? (i := 222) rfl)) rfl
theorem gv_X1_39 : GoodIn TB (wsV RX1 39 RX9 yX9_isBare (cw yX9_isBare cX9_isBare 2 (some .boolean))) := goodIn_4 tb_70 tb_71 tb_72 tb_5 gc_X9_isBare
theorem hv_X9_isBare : yX9_isBare.cls = RX9 ∧ yX9_isBare.cls ≠ "java/lang/invoke/MethodHandle" ∧ yX9_isBare.cls ≠ "java/lang/invoke/VarHandle" ∧ (parseMethodDescriptor yX9_isBare.desc).map (fun d => d.parameters.length) = some 1 := by decide +kernel
theorem dX1_passOfLink_57 : decode cX1_passOfLink 57 = .ok (.ifCond .eq 14, 3) := dqT kk_153 (by decide +kernel)
theorem dX1_passOfLink_60 : decode cX1_passOfLink 60 = .ok (.aload_n 0, 1) := dq0 kk_42 (by decide +kernel)
theorem dX1_passOfLink_61 : decode cX1_passOfLink 61 = .ok (.aload_n 2, 1) := dq0 kk_44 (by decide +kernel)
theorem dX1_passOfLink_62 : decode cX1_passOfLink 62 = .ok (.iload 6, 2) := dqU kk_21 (by decide +kernel)
theorem dX1_passOfLink_64 : decode cX1_passOfLink 64 = .ok (.iload_n 3, 1) := dq0 kk_29 (by decide +kernel)
theorem dX1_passOfLink_65 : decode cX1_passOfLink 65 = .ok (.invokevirtual 43, 3) := dqV kk_182 (by decide +kernel)
theorem tk_X1_floatingFor : Cond.code yX1_floatingFor cX1_floatingFor 6 (some .int) ∈ TB := tbm (tc3 (List.mem_of_getElem? (i := 231) rfl)) rfl
theorem gc_X1_floatingFor : GoodIn TB (cw yX1_floatingFor cX1_floatingFor 6 (some .int)) := goodIn_c2 tk_X1_floatingFor
theorem tb_73 : Cond.methodLink "ToneLines$Doer" 43 yX1_floatingFor ∈ TB := tbm (tc3 (List.mem_of_getElem? (i := 228) rfl)) rfl
theorem tb_74 : Cond.instanceMethod yX1_floatingFor ∈ TB := tbm (tc3 (List.mem_of_getElem? (i := 230) rfl)) rfl
theorem tb_75 : Cond.selects "ToneLines$Doer" yX1_floatingFor yX1_floatingFor ∈ TB := tbp (List.mem_of_getElem? (i := 16) rfl) rfl
theorem tb_76 : Cond.initialized "ToneLines$Doer" ∈ TB := tbm (tc1 (List.mem_of_getElem? (i := 7) rfl)) rfl
theorem gv_X1_43 : GoodIn TB (wsV RX1 43 RX1 yX1_floatingFor (cw yX1_floatingFor cX1_floatingFor 6 (some .int))) := goodIn_4 tb_73 tb_74 tb_75 tb_76 gc_X1_floatingFor
theorem hv_X1_floatingFor : yX1_floatingFor.cls = RX1 ∧ yX1_floatingFor.cls ≠ "java/lang/invoke/MethodHandle" ∧ yX1_floatingFor.cls ≠ "java/lang/invoke/VarHandle" ∧ (parseMethodDescriptor yX1_floatingFor.desc).map (fun d => d.parameters.length) = some 3 := by decide +kernel
theorem dX1_passOfLink_68 : decode cX1_passOfLink 68 = .ok (.goto 4, 3) := dqT kk_167 (by decide +kernel)
theorem dX1_passOfLink_72 : decode cX1_passOfLink 72 = .ok (.istore 7, 2) := dqU kk_54 (by decide +kernel)
theorem dX1_passOfLink_74 : decode cX1_passOfLink 74 = .ok (.aload_n 2, 1) := dq0 kk_44 (by decide +kernel)
theorem dX1_passOfLink_75 : decode cX1_passOfLink 75 = .ok (.iload 7, 2) := dqU kk_21 (by decide +kernel)
theorem dX1_passOfLink_77 : decode cX1_passOfLink 77 = .ok (.invokevirtual 47, 3) := dqV kk_182 (by decide +kernel)
theorem tb_77 : Cond.methodLink "ToneLines$Doer" 47 yX9_hasTone ∈ TB := tbm (tc3 (List.mem_of_getElem? (i := 237) rfl)) rfl
theorem gv_X1_47 : GoodIn TB (wsV RX1 47 RX9 yX9_hasTone (cw yX9_hasTone cX9_hasTone 2 (some .boolean))) := goodIn_4 tb_77 tb_3 tb_4 tb_5 gc_X9_hasTone
theorem dX1_passOfLink_80 : decode cX1_passOfLink 80 = .ok (.ifCond .eq 20, 3) := dqT kk_153 (by decide +kernel)
theorem dX1_passOfLink_83 : decode cX1_passOfLink 83 = .ok (.aload_n 2, 1) := dq0 kk_44 (by decide +kernel)
theorem dX1_passOfLink_84 : decode cX1_passOfLink 84 = .ok (.getfield 50, 3) := dqV kk_180 (by decide +kernel)
theorem tb_78 : Cond.fieldLink "ToneLines$Doer" 50 "ToneLines$Word" "lines" "[I" ∈ TB := tbm (tc1 (List.mem_of_getElem? (i := 146) rfl)) rfl
theorem dX1_passOfLink_87 : decode cX1_passOfLink 87 = .ok (.iload 7, 2) := dqU kk_21 (by decide +kernel)
theorem dX1_passOfLink_89 : decode cX1_passOfLink 89 = .ok (.dup2, 1) := dq0 kk_92 (by decide +kernel)
theorem dX1_passOfLink_90 : decode cX1_passOfLink 90 = .ok (.iaload, 1) := dq0 kk_46 (by decide +kernel)
theorem dX1_passOfLink_91 : decode cX1_passOfLink 91 = .ok (.iconst 1, 1) := dq0 kk_4 (by decide +kernel)
theorem dX1_passOfLink_92 : decode cX1_passOfLink 92 = .ok (.iload 6, 2) := dqU kk_21 (by decide +kernel)
theorem dX1_passOfLink_94 : decode cX1_passOfLink 94 = .ok (.ishl, 1) := dq0 kk_120 (by decide +kernel)
theorem dX1_passOfLink_95 : decode cX1_passOfLink 95 = .ok (.ior, 1) := dq0 kk_128 (by decide +kernel)
theorem dX1_passOfLink_96 : decode cX1_passOfLink 96 = .ok (.iastore, 1) := dq0 kk_79 (by decide +kernel)
theorem dX1_passOfLink_97 : decode cX1_passOfLink 97 = .ok (.iinc 4 1, 3) := dqI kk_132 (by decide +kernel)
theorem dX1_passOfLink_100 : decode cX1_passOfLink 100 = .ok (.iinc 5 1, 3) := dqI kk_132 (by decide +kernel)
theorem dX1_passOfLink_103 : decode cX1_passOfLink 103 = .ok (.goto (-81), 3) := dqT kk_167 (by decide +kernel)
theorem dX1_passOfLink_71 : decode cX1_passOfLink 71 = .ok (.iconst (-1), 1) := dq0 kk_2 (by decide +kernel)
theorem dX1_passOfLink_35 : decode cX1_passOfLink 35 = .ok (.aload_n 2, 1) := dq0 kk_44 (by decide +kernel)
theorem dX1_passOfLink_36 : decode cX1_passOfLink 36 = .ok (.getfield 34, 3) := dqV kk_180 (by decide +kernel)
theorem dX1_passOfLink_39 : decode cX1_passOfLink 39 = .ok (.iconst 1, 1) := dq0 kk_4 (by decide +kernel)
theorem dX1_passOfLink_40 : decode cX1_passOfLink 40 = .ok (.isub, 1) := dq0 kk_100 (by decide +kernel)
theorem dX1_passOfLink_41 : decode cX1_passOfLink 41 = .ok (.iload 5, 2) := dqU kk_21 (by decide +kernel)
theorem dX1_passOfLink_43 : decode cX1_passOfLink 43 = .ok (.isub, 1) := dq0 kk_100 (by decide +kernel)
theorem dX1_passOfLink_44 : decode cX1_passOfLink 44 = .ok (.goto 5, 3) := dqT kk_167 (by decide +kernel)
set_option maxRecDepth 4000 in
theorem lp_X1_passOfLink {p : Program} {l : Launch} {e : Env} {s : State} {m : MethodId} {args : Array Value} {below : List Frame} {meth : Method} {c : Code} {D : va_G} {B : Nat} {cy : Nat → ClassId} {H0 : Heap} {Q : State → Prop} {M : Mem} {R : Room} {a n q hv ed : Nat} {K L : Nat → Nat}  {x ru : Nat} (F : CallFix p m c cX1_passOfLink 8 s args TB RX1) (hR1 : 3 ≤ R.frames) (hR2 : 73 ≤ R.locals) (hk : kd a = (9, 0, 0)) (hW : isW M a n q hv ed K L) (hwf : wf n q hv ed K L) (hx9 : x = 0 ∨ x = 1) (kk : ∀ (i : Nat) (N : Mem) (L1 : Nat → Nat) (cz : Int) (H : Heap) (locs : List Loc) (ls : Array Slot), (isW N a n q hv ed K L1) → (wf n q hv ed K L1) → (Fr3 N M a) → (lkP n q x L q = (L1, cz)) → (0 ≤ cz ∧ cz ≤ (q : Int)) → Wd D B cy s H0 N H locs → lv_has ls 8 [(5, .int (zI (i : Int))), (4, .int (zI cz)), (0, .ref (B + 23)), (1, .ref (B + ru)), (2, .ref (B + a)), (3, .int (zI (x : Int)))] → W p l e R s m args below meth c H locs 0 0 Q (F0 m 106 ls [])) : ∀ (f : Nat) (i : Nat) (N : Mem) (L1 : Nat → Nat) (cz : Int), (i ≤ q) → (isW N a n q hv ed K L1) → (wf n q hv ed K L1) → (Fr3 N M a) → (lkP n q x L i = (L1, cz)) → (0 ≤ cz ∧ cz ≤ (i : Int)) → (q ≤ i + f) → ∀ (H : Heap) (locs : List Loc) (ls : Array Slot), Wd D B cy s H0 N H locs → lv_has ls 8 [(5, .int (zI (i : Int))), (4, .int (zI cz)), (0, .ref (B + 23)), (1, .ref (B + ru)), (2, .ref (B + a)), (3, .int (zI (x : Int)))] → W p l e R s m args below meth c H locs 0 0 Q (F0 m 22 ls []) := by
  have hx := F.1
  have hb := F.2.1
  have hwf0 := hwf
  obtain ⟨hn, hq, hhv, hed, hKL⟩ := hwf0
  intro f
  induction f with
  | zero =>
    intro i N L1 cz i0 i1 i2 i3 i4 i5 hf H locs ls w hl
    have hKL := i2.2.2.2.2
    refine lv_iload hx hb dX1_passOfLink_22 (lv_at hl 0 rfl) ?_
    refine lv_aload_n hx hb dX1_passOfLink_24 rfl (lv_at hl 4 rfl) ?_
    refine f_9_1 F w (a := a) hk tb_69 dX1_passOfLink_25 ?_
    refine r_val (v := (zI (q : Int))) (i1.2.1) ?_
    refine z_icmp_ge (tgt := 106) hx hb (by omega) (by omega) dX1_passOfLink_28 (by decide) (fun c1 => ?_) (fun c1 => False.elim (by omega))
    obtain rfl : i = q := by omega
    exact kk i N L1 cz _ _ ls i1 i2 i3 i4 i5 w (lv_sub hl [0, 1, 2, 3, 4, 5] rfl)
  | succ f ih =>
    intro i N L1 cz i0 i1 i2 i3 i4 i5 hf H locs ls w hl
    have hKL := i2.2.2.2.2
    refine lv_iload hx hb dX1_passOfLink_22 (lv_at hl 0 rfl) ?_
    refine lv_aload_n hx hb dX1_passOfLink_24 rfl (lv_at hl 4 rfl) ?_
    refine f_9_1 F w (a := a) hk tb_69 dX1_passOfLink_25 ?_
    refine r_val (v := (zI (q : Int))) (i1.2.1) ?_
    refine z_icmp_ge (tgt := 106) hx hb (by omega) (by omega) dX1_passOfLink_28 (by decide) (fun c1 => ?_) (fun c1 => ?_)
    · obtain rfl : i = q := by omega
      exact kk i N L1 cz _ _ ls i1 i2 i3 i4 i5 w (lv_sub hl [0, 1, 2, 3, 4, 5] rfl)
    · refine lv_iload_n hx hb dX1_passOfLink_31 rfl (lv_at hl 5 rfl) ?_
      refine z_if_eq (tgt := 47) hx hb (by omega) dX1_passOfLink_32 (by decide) (fun c2 => ?_) (fun c2 => ?_)
      · refine lv_iload hx hb dX1_passOfLink_47 (lv_at hl 0 rfl) ?_
        refine lv_istore (lv' := [(6, .int (zI (i : Int))), (5, .int (zI (i : Int))), (4, .int (zI cz)), (0, .ref (B + 23)), (1, .ref (B + ru)), (2, .ref (B + a)), (3, .int (zI (x : Int)))]) hx hb dX1_passOfLink_49 hl (by decide) rfl (fun ls hl => ?_)
        refine lv_aload_n hx hb dX1_passOfLink_51 rfl (lv_at hl 5 rfl) ?_
        refine lv_iload hx hb dX1_passOfLink_52 (lv_at hl 0 rfl) ?_
        refine k_Vi F w (As := [.int (zI (i : Int))]) (rest := []) (a := a) (kd_lt (a := a) hk (by decide)) (sh_9 hk _ _) rfl (s_X9_isBare hk i1 i2 (by omega)) gv_X1_39 hv_X9_isBare ⟨(by omega), (by omega)⟩ hl.1 rfl (Nat.le_of_ble_eq_true rfl) ⟨Nat.zero_le _, Nat.zero_le _⟩ dX1_passOfLink_54 (fun r M1 H locs hp w => ?_)
        rcases hp with ⟨⟨⟨k9, e91, hk9, hb3⟩, rfl⟩ | ⟨hb3, rfl⟩, hMe⟩
        · obtain rfl : i = k9 := by omega
          rw [hMe] at w
          refine z_if_eq (tgt := 71) hx hb (by omega) dX1_passOfLink_57 (by decide) (fun c4 => False.elim (by omega)) (fun c4 => ?_)
          refine lv_aload_n hx hb dX1_passOfLink_60 rfl (lv_at hl 3 rfl) ?_
          refine lv_aload_n hx hb dX1_passOfLink_61 rfl (lv_at hl 5 rfl) ?_
          refine lv_iload hx hb dX1_passOfLink_62 (lv_at hl 0 rfl) ?_
          refine lv_iload_n hx hb dX1_passOfLink_64 rfl (lv_at hl 6 rfl) ?_
          refine k_Vi F w (As := [.ref (B + a), .int (zI (i : Int)), .int (zI (x : Int))]) (rest := []) (a := 23) (kd_lt (a := 23) (show kd 23 = (1, 0, 0) from rfl) (by decide)) (sh_1 rfl _ _) rfl (s_X1_floatingFor hk i1 i2 (j := i) (x := x) (by omega) hx9) gv_X1_43 hv_X1_floatingFor ⟨(by omega), (by omega)⟩ hl.1 rfl (Nat.le_of_ble_eq_true rfl) ⟨Nat.zero_le _, Nat.zero_le _⟩ dX1_passOfLink_65 (fun r M1 H locs hp w => ?_)
          rcases hp with ⟨rfl, hMe⟩
          rcases lf_link (x := x) (by assumption : bareP n L1 i) with ⟨t9, ht9, e9, eL, eC⟩ | ⟨e9, eL, eC⟩
          · rw [e9]
            rw [hMe] at w
            refine lv_goto (tgt := 72) hx hb dX1_passOfLink_68 (by decide) ?_
            refine lv_istore (lv' := [(7, .int (zI (t9 : Int))), (6, .int (zI (i : Int))), (5, .int (zI (i : Int))), (4, .int (zI cz)), (0, .ref (B + 23)), (1, .ref (B + ru)), (2, .ref (B + a)), (3, .int (zI (x : Int)))]) hx hb dX1_passOfLink_72 hl (by decide) rfl (fun ls hl => ?_)
            refine lv_aload_n hx hb dX1_passOfLink_74 rfl (lv_at hl 6 rfl) ?_
            refine lv_iload hx hb dX1_passOfLink_75 (lv_at hl 0 rfl) ?_
            refine k_Vi F w (As := [.int (zI (t9 : Int))]) (rest := []) (a := a) (kd_lt (a := a) hk (by decide)) (sh_9 hk _ _) rfl (s_X9_hasTone hk i1 i2 (by omega)) gv_X1_47 hv_X9_hasTone ⟨(by omega), (by omega)⟩ hl.1 rfl (Nat.le_of_ble_eq_true rfl) ⟨Nat.zero_le _, Nat.zero_le _⟩ dX1_passOfLink_77 (fun r M1 H locs hp w => ?_)
            rcases hp with ⟨⟨k8, e81, hk8, rfl⟩ | ⟨n81, rfl⟩, hMe⟩
            · rw [hMe] at w
              refine z_if_eq (tgt := 100) hx hb (by omega) dX1_passOfLink_80 (by decide) (fun c5 => False.elim (by omega)) (fun c5 => ?_)
              refine lv_aload_n hx hb dX1_passOfLink_83 rfl (lv_at hl 6 rfl) ?_
              refine f_9_5 F w (a := a) hk tb_78 dX1_passOfLink_84 ?_
              refine lv_iload hx hb dX1_passOfLink_87 (lv_at hl 0 rfl) ?_
              refine lv_dup2_11 hx hb dX1_passOfLink_89 rfl rfl ?_
              refine g_iald F w (a := (a + 2)) (kd_w2 hk) (j := t9) (ix_n (by omega)) (by omega) dX1_passOfLink_90 ?_
              have hL5 := (hKL t9 (by omega)).2
              refine r_val (v := (zI (((L1 t9) : Nat) : Int))) (i1.2.2.2.2.2 t9 (by omega)) ?_
              refine lv_iconst (v := zI 1) hx hb dX1_passOfLink_91 rfl ?_
              refine lv_iload hx hb dX1_passOfLink_92 (lv_at hl 1 rfl) ?_
              refine lv_ishl hx hb dX1_passOfLink_94 ?_
              refine r_val (v := (zI (((2 ^ i) : Nat) : Int))) (zb_shl (n := i) (by omega)) ?_
              have q6 := p2_b (n := i) (by omega)
              refine lv_ior hx hb dX1_passOfLink_95 ?_
              refine r_val (v := (zI ((((L1 t9) ||| (2 ^ i)) : Nat) : Int))) (zb_or (L1 t9) (2 ^ i)) ?_
              have q7 := or_lt12 (a := (L1 t9)) (b := (2 ^ i)) (by omega) (by omega)
              refine g_iast F w (a := (a + 2)) (kd_w2 hk) (j := t9) (ix_n (by omega)) (by omega) dX1_passOfLink_96 (fun H locs w => ?_)
              refine z_iinc (v := (cz + 1)) (lv' := [(4, .int (zI (cz + 1))), (7, .int (zI (t9 : Int))), (6, .int (zI (i : Int))), (5, .int (zI (i : Int))), (0, .ref (B + 23)), (1, .ref (B + ru)), (2, .ref (B + a)), (3, .int (zI (x : Int)))]) hx hb dX1_passOfLink_97 hl (k := 3) rfl (by omega) (by decide) rfl (fun ls hl => ?_)
              refine z_iinc (v := (((i + 1) : Nat) : Int)) (lv' := [(5, .int (zI (((i + 1) : Nat) : Int))), (4, .int (zI (cz + 1))), (7, .int (zI (t9 : Int))), (6, .int (zI (i : Int))), (0, .ref (B + 23)), (1, .ref (B + ru)), (2, .ref (B + a)), (3, .int (zI (x : Int)))]) hx hb dX1_passOfLink_100 hl (k := 3) rfl (by omega) (by decide) rfl (fun ls hl => ?_)
              refine lv_goto (tgt := 22) hx hb dX1_passOfLink_103 (by decide) ?_
              exact ih (i + 1) (st N (a + 2) t9 (zI ((((L1 t9) ||| (2 ^ i)) : Nat) : Int))) (updF L1 t9 (L1 t9 ||| 2 ^ i)) (cz + 1) (by omega) (wlineW i1) (wf_upd i2 (by omega)) (wlineF i3) (lkP_s i4 (ixd_0 (by omega)) eL eC) (by omega) (by omega) _ _ ls w (lv_sub hl [0, 1, 4, 5, 6, 7] rfl)
            · exact False.elim (by omega)
          · rw [e9]
            rw [hMe] at w
            refine lv_goto (tgt := 72) hx hb dX1_passOfLink_68 (by decide) ?_
            refine lv_istore (lv' := [(7, .int (zI (-1))), (6, .int (zI (i : Int))), (5, .int (zI (i : Int))), (4, .int (zI cz)), (0, .ref (B + 23)), (1, .ref (B + ru)), (2, .ref (B + a)), (3, .int (zI (x : Int)))]) hx hb dX1_passOfLink_72 hl (by decide) rfl (fun ls hl => ?_)
            refine lv_aload_n hx hb dX1_passOfLink_74 rfl (lv_at hl 6 rfl) ?_
            refine lv_iload hx hb dX1_passOfLink_75 (lv_at hl 0 rfl) ?_
            refine k_Vi F w (As := [.int (zI (-1))]) (rest := []) (a := a) (kd_lt (a := a) hk (by decide)) (sh_9 hk _ _) rfl (s_X9_hasTone hk i1 i2 (by omega)) gv_X1_47 hv_X9_hasTone ⟨(by omega), (by omega)⟩ hl.1 rfl (Nat.le_of_ble_eq_true rfl) ⟨Nat.zero_le _, Nat.zero_le _⟩ dX1_passOfLink_77 (fun r M1 H locs hp w => ?_)
            rcases hp with ⟨⟨k8, e81, hk8, rfl⟩ | ⟨n81, rfl⟩, hMe⟩
            · exact False.elim (by omega)
            · rw [hMe] at w
              refine z_if_eq (tgt := 100) hx hb (by omega) dX1_passOfLink_80 (by decide) (fun c8 => ?_) (fun c8 => False.elim (by omega))
              refine z_iinc (v := (((i + 1) : Nat) : Int)) (lv' := [(5, .int (zI (((i + 1) : Nat) : Int))), (7, .int (zI (-1))), (6, .int (zI (i : Int))), (4, .int (zI cz)), (0, .ref (B + 23)), (1, .ref (B + ru)), (2, .ref (B + a)), (3, .int (zI (x : Int)))]) hx hb dX1_passOfLink_100 hl (k := 2) rfl (by omega) (by decide) rfl (fun ls hl => ?_)
              refine lv_goto (tgt := 22) hx hb dX1_passOfLink_103 (by decide) ?_
              rw [show cz = cz + 0 by omega] at hl
              exact ih (i + 1) N L1 (cz + 0) (by omega) i1 i2 i3 (lkP_s i4 (ixd_0 (by omega)) eL eC) (by omega) (by omega) _ _ ls w (lv_sub hl [0, 3, 4, 5, 6, 7] rfl)
        · replace hb3 : ¬ bareP n L1 i := fun h9 => hb3 ⟨_, rfl, by omega, h9⟩
          rw [hMe] at w
          refine z_if_eq (tgt := 71) hx hb (by omega) dX1_passOfLink_57 (by decide) (fun c9 => ?_) (fun c9 => False.elim (by omega))
          refine lv_iconst (v := zI (-1)) hx hb dX1_passOfLink_71 rfl ?_
          refine lv_istore (lv' := [(7, .int (zI (-1))), (6, .int (zI (i : Int))), (5, .int (zI (i : Int))), (4, .int (zI cz)), (0, .ref (B + 23)), (1, .ref (B + ru)), (2, .ref (B + a)), (3, .int (zI (x : Int)))]) hx hb dX1_passOfLink_72 hl (by decide) rfl (fun ls hl => ?_)
          refine lv_aload_n hx hb dX1_passOfLink_74 rfl (lv_at hl 6 rfl) ?_
          refine lv_iload hx hb dX1_passOfLink_75 (lv_at hl 0 rfl) ?_
          refine k_Vi F w (As := [.int (zI (-1))]) (rest := []) (a := a) (kd_lt (a := a) hk (by decide)) (sh_9 hk _ _) rfl (s_X9_hasTone hk i1 i2 (by omega)) gv_X1_47 hv_X9_hasTone ⟨(by omega), (by omega)⟩ hl.1 rfl (Nat.le_of_ble_eq_true rfl) ⟨Nat.zero_le _, Nat.zero_le _⟩ dX1_passOfLink_77 (fun r M1 H locs hp w => ?_)
          rcases hp with ⟨⟨k8, e81, hk8, rfl⟩ | ⟨n81, rfl⟩, hMe⟩
          · exact False.elim (by omega)
          · rw [hMe] at w
            refine z_if_eq (tgt := 100) hx hb (by omega) dX1_passOfLink_80 (by decide) (fun c10 => ?_) (fun c10 => False.elim (by omega))
            refine z_iinc (v := (((i + 1) : Nat) : Int)) (lv' := [(5, .int (zI (((i + 1) : Nat) : Int))), (7, .int (zI (-1))), (6, .int (zI (i : Int))), (4, .int (zI cz)), (0, .ref (B + 23)), (1, .ref (B + ru)), (2, .ref (B + a)), (3, .int (zI (x : Int)))]) hx hb dX1_passOfLink_100 hl (k := 2) rfl (by omega) (by decide) rfl (fun ls hl => ?_)
            refine lv_goto (tgt := 22) hx hb dX1_passOfLink_103 (by decide) ?_
            rw [show cz = cz + 0 by omega] at hl
            exact ih (i + 1) N L1 (cz + 0) (by omega) i1 i2 i3 (lkP_s i4 (ixd_0 (by omega)) (link_n1 (by assumption)).1 (link_n1 (by assumption)).2) (by omega) (by omega) _ _ ls w (lv_sub hl [0, 3, 4, 5, 6, 7] rfl)
      · refine lv_aload_n hx hb dX1_passOfLink_35 rfl (lv_at hl 4 rfl) ?_
        refine f_9_1 F w (a := a) hk tb_69 dX1_passOfLink_36 ?_
        refine r_val (v := (zI (q : Int))) (i1.2.1) ?_
        refine lv_iconst (v := zI 1) hx hb dX1_passOfLink_39 rfl ?_
        refine z_isub (z := ((q : Int) - 1)) hx hb dX1_passOfLink_40 (by omega) ?_
        refine lv_iload hx hb dX1_passOfLink_41 (lv_at hl 0 rfl) ?_
        refine z_isub (z := (((q : Int) - 1) - (i : Int))) hx hb dX1_passOfLink_43 (by omega) ?_
        refine r_val (v := (zI (((q - 1 - i) : Nat) : Int))) (congrArg zI (by omega)) ?_
        refine lv_goto (tgt := 49) hx hb dX1_passOfLink_44 (by decide) ?_
        refine lv_istore (lv' := [(6, .int (zI (((q - 1 - i) : Nat) : Int))), (5, .int (zI (i : Int))), (4, .int (zI cz)), (0, .ref (B + 23)), (1, .ref (B + ru)), (2, .ref (B + a)), (3, .int (zI (x : Int)))]) hx hb dX1_passOfLink_49 hl (by decide) rfl (fun ls hl => ?_)
        refine lv_aload_n hx hb dX1_passOfLink_51 rfl (lv_at hl 5 rfl) ?_
        refine lv_iload hx hb dX1_passOfLink_52 (lv_at hl 0 rfl) ?_
        refine k_Vi F w (As := [.int (zI (((q - 1 - i) : Nat) : Int))]) (rest := []) (a := a) (kd_lt (a := a) hk (by decide)) (sh_9 hk _ _) rfl (s_X9_isBare hk i1 i2 (by omega)) gv_X1_39 hv_X9_isBare ⟨(by omega), (by omega)⟩ hl.1 rfl (Nat.le_of_ble_eq_true rfl) ⟨Nat.zero_le _, Nat.zero_le _⟩ dX1_passOfLink_54 (fun r M1 H locs hp w => ?_)
        rcases hp with ⟨⟨⟨k9, e91, hk9, hb11⟩, rfl⟩ | ⟨hb11, rfl⟩, hMe⟩
        · obtain rfl : (q - 1 - i) = k9 := by omega
          rw [hMe] at w
          refine z_if_eq (tgt := 71) hx hb (by omega) dX1_passOfLink_57 (by decide) (fun c12 => False.elim (by omega)) (fun c12 => ?_)
          refine lv_aload_n hx hb dX1_passOfLink_60 rfl (lv_at hl 3 rfl) ?_
          refine lv_aload_n hx hb dX1_passOfLink_61 rfl (lv_at hl 5 rfl) ?_
          refine lv_iload hx hb dX1_passOfLink_62 (lv_at hl 0 rfl) ?_
          refine lv_iload_n hx hb dX1_passOfLink_64 rfl (lv_at hl 6 rfl) ?_
          refine k_Vi F w (As := [.ref (B + a), .int (zI (((q - 1 - i) : Nat) : Int)), .int (zI (x : Int))]) (rest := []) (a := 23) (kd_lt (a := 23) (show kd 23 = (1, 0, 0) from rfl) (by decide)) (sh_1 rfl _ _) rfl (s_X1_floatingFor hk i1 i2 (j := (q - 1 - i)) (x := x) (by omega) hx9) gv_X1_43 hv_X1_floatingFor ⟨(by omega), (by omega)⟩ hl.1 rfl (Nat.le_of_ble_eq_true rfl) ⟨Nat.zero_le _, Nat.zero_le _⟩ dX1_passOfLink_65 (fun r M1 H locs hp w => ?_)
          rcases hp with ⟨rfl, hMe⟩
          rcases lf_link (x := x) (by assumption : bareP n L1 (q - 1 - i)) with ⟨t9, ht9, e9, eL, eC⟩ | ⟨e9, eL, eC⟩
          · rw [e9]
            rw [hMe] at w
            refine lv_goto (tgt := 72) hx hb dX1_passOfLink_68 (by decide) ?_
            refine lv_istore (lv' := [(7, .int (zI (t9 : Int))), (6, .int (zI (((q - 1 - i) : Nat) : Int))), (5, .int (zI (i : Int))), (4, .int (zI cz)), (0, .ref (B + 23)), (1, .ref (B + ru)), (2, .ref (B + a)), (3, .int (zI (x : Int)))]) hx hb dX1_passOfLink_72 hl (by decide) rfl (fun ls hl => ?_)
            refine lv_aload_n hx hb dX1_passOfLink_74 rfl (lv_at hl 6 rfl) ?_
            refine lv_iload hx hb dX1_passOfLink_75 (lv_at hl 0 rfl) ?_
            refine k_Vi F w (As := [.int (zI (t9 : Int))]) (rest := []) (a := a) (kd_lt (a := a) hk (by decide)) (sh_9 hk _ _) rfl (s_X9_hasTone hk i1 i2 (by omega)) gv_X1_47 hv_X9_hasTone ⟨(by omega), (by omega)⟩ hl.1 rfl (Nat.le_of_ble_eq_true rfl) ⟨Nat.zero_le _, Nat.zero_le _⟩ dX1_passOfLink_77 (fun r M1 H locs hp w => ?_)
            rcases hp with ⟨⟨k8, e81, hk8, rfl⟩ | ⟨n81, rfl⟩, hMe⟩
            · rw [hMe] at w
              refine z_if_eq (tgt := 100) hx hb (by omega) dX1_passOfLink_80 (by decide) (fun c13 => False.elim (by omega)) (fun c13 => ?_)
              refine lv_aload_n hx hb dX1_passOfLink_83 rfl (lv_at hl 6 rfl) ?_
              refine f_9_5 F w (a := a) hk tb_78 dX1_passOfLink_84 ?_
              refine lv_iload hx hb dX1_passOfLink_87 (lv_at hl 0 rfl) ?_
              refine lv_dup2_11 hx hb dX1_passOfLink_89 rfl rfl ?_
              refine g_iald F w (a := (a + 2)) (kd_w2 hk) (j := t9) (ix_n (by omega)) (by omega) dX1_passOfLink_90 ?_
              have hL13 := (hKL t9 (by omega)).2
              refine r_val (v := (zI (((L1 t9) : Nat) : Int))) (i1.2.2.2.2.2 t9 (by omega)) ?_
              refine lv_iconst (v := zI 1) hx hb dX1_passOfLink_91 rfl ?_
              refine lv_iload hx hb dX1_passOfLink_92 (lv_at hl 1 rfl) ?_
              refine lv_ishl hx hb dX1_passOfLink_94 ?_
              refine r_val (v := (zI (((2 ^ (q - 1 - i)) : Nat) : Int))) (zb_shl (n := (q - 1 - i)) (by omega)) ?_
              have q14 := p2_b (n := (q - 1 - i)) (by omega)
              refine lv_ior hx hb dX1_passOfLink_95 ?_
              refine r_val (v := (zI ((((L1 t9) ||| (2 ^ (q - 1 - i))) : Nat) : Int))) (zb_or (L1 t9) (2 ^ (q - 1 - i))) ?_
              have q15 := or_lt12 (a := (L1 t9)) (b := (2 ^ (q - 1 - i))) (by omega) (by omega)
              refine g_iast F w (a := (a + 2)) (kd_w2 hk) (j := t9) (ix_n (by omega)) (by omega) dX1_passOfLink_96 (fun H locs w => ?_)
              refine z_iinc (v := (cz + 1)) (lv' := [(4, .int (zI (cz + 1))), (7, .int (zI (t9 : Int))), (6, .int (zI (((q - 1 - i) : Nat) : Int))), (5, .int (zI (i : Int))), (0, .ref (B + 23)), (1, .ref (B + ru)), (2, .ref (B + a)), (3, .int (zI (x : Int)))]) hx hb dX1_passOfLink_97 hl (k := 3) rfl (by omega) (by decide) rfl (fun ls hl => ?_)
              refine z_iinc (v := (((i + 1) : Nat) : Int)) (lv' := [(5, .int (zI (((i + 1) : Nat) : Int))), (4, .int (zI (cz + 1))), (7, .int (zI (t9 : Int))), (6, .int (zI (((q - 1 - i) : Nat) : Int))), (0, .ref (B + 23)), (1, .ref (B + ru)), (2, .ref (B + a)), (3, .int (zI (x : Int)))]) hx hb dX1_passOfLink_100 hl (k := 3) rfl (by omega) (by decide) rfl (fun ls hl => ?_)
              refine lv_goto (tgt := 22) hx hb dX1_passOfLink_103 (by decide) ?_
              exact ih (i + 1) (st N (a + 2) t9 (zI ((((L1 t9) ||| (2 ^ (q - 1 - i))) : Nat) : Int))) (updF L1 t9 (L1 t9 ||| 2 ^ (q - 1 - i))) (cz + 1) (by omega) (wlineW i1) (wf_upd i2 (by omega)) (wlineF i3) (lkP_s i4 (ixd_1 (by omega)) eL eC) (by omega) (by omega) _ _ ls w (lv_sub hl [0, 1, 4, 5, 6, 7] rfl)
            · exact False.elim (by omega)
          · rw [e9]
            rw [hMe] at w
            refine lv_goto (tgt := 72) hx hb dX1_passOfLink_68 (by decide) ?_
            refine lv_istore (lv' := [(7, .int (zI (-1))), (6, .int (zI (((q - 1 - i) : Nat) : Int))), (5, .int (zI (i : Int))), (4, .int (zI cz)), (0, .ref (B + 23)), (1, .ref (B + ru)), (2, .ref (B + a)), (3, .int (zI (x : Int)))]) hx hb dX1_passOfLink_72 hl (by decide) rfl (fun ls hl => ?_)
            refine lv_aload_n hx hb dX1_passOfLink_74 rfl (lv_at hl 6 rfl) ?_
            refine lv_iload hx hb dX1_passOfLink_75 (lv_at hl 0 rfl) ?_
            refine k_Vi F w (As := [.int (zI (-1))]) (rest := []) (a := a) (kd_lt (a := a) hk (by decide)) (sh_9 hk _ _) rfl (s_X9_hasTone hk i1 i2 (by omega)) gv_X1_47 hv_X9_hasTone ⟨(by omega), (by omega)⟩ hl.1 rfl (Nat.le_of_ble_eq_true rfl) ⟨Nat.zero_le _, Nat.zero_le _⟩ dX1_passOfLink_77 (fun r M1 H locs hp w => ?_)
            rcases hp with ⟨⟨k8, e81, hk8, rfl⟩ | ⟨n81, rfl⟩, hMe⟩
            · exact False.elim (by omega)
            · rw [hMe] at w
              refine z_if_eq (tgt := 100) hx hb (by omega) dX1_passOfLink_80 (by decide) (fun c16 => ?_) (fun c16 => False.elim (by omega))
              refine z_iinc (v := (((i + 1) : Nat) : Int)) (lv' := [(5, .int (zI (((i + 1) : Nat) : Int))), (7, .int (zI (-1))), (6, .int (zI (((q - 1 - i) : Nat) : Int))), (4, .int (zI cz)), (0, .ref (B + 23)), (1, .ref (B + ru)), (2, .ref (B + a)), (3, .int (zI (x : Int)))]) hx hb dX1_passOfLink_100 hl (k := 2) rfl (by omega) (by decide) rfl (fun ls hl => ?_)
              refine lv_goto (tgt := 22) hx hb dX1_passOfLink_103 (by decide) ?_
              rw [show cz = cz + 0 by omega] at hl
              exact ih (i + 1) N L1 (cz + 0) (by omega) i1 i2 i3 (lkP_s i4 (ixd_1 (by omega)) eL eC) (by omega) (by omega) _ _ ls w (lv_sub hl [0, 3, 4, 5, 6, 7] rfl)
        · replace hb11 : ¬ bareP n L1 (q - 1 - i) := fun h9 => hb11 ⟨_, rfl, by omega, h9⟩
          rw [hMe] at w
          refine z_if_eq (tgt := 71) hx hb (by omega) dX1_passOfLink_57 (by decide) (fun c17 => ?_) (fun c17 => False.elim (by omega))
          refine lv_iconst (v := zI (-1)) hx hb dX1_passOfLink_71 rfl ?_
          refine lv_istore (lv' := [(7, .int (zI (-1))), (6, .int (zI (((q - 1 - i) : Nat) : Int))), (5, .int (zI (i : Int))), (4, .int (zI cz)), (0, .ref (B + 23)), (1, .ref (B + ru)), (2, .ref (B + a)), (3, .int (zI (x : Int)))]) hx hb dX1_passOfLink_72 hl (by decide) rfl (fun ls hl => ?_)
          refine lv_aload_n hx hb dX1_passOfLink_74 rfl (lv_at hl 6 rfl) ?_
          refine lv_iload hx hb dX1_passOfLink_75 (lv_at hl 0 rfl) ?_
          refine k_Vi F w (As := [.int (zI (-1))]) (rest := []) (a := a) (kd_lt (a := a) hk (by decide)) (sh_9 hk _ _) rfl (s_X9_hasTone hk i1 i2 (by omega)) gv_X1_47 hv_X9_hasTone ⟨(by omega), (by omega)⟩ hl.1 rfl (Nat.le_of_ble_eq_true rfl) ⟨Nat.zero_le _, Nat.zero_le _⟩ dX1_passOfLink_77 (fun r M1 H locs hp w => ?_)
          rcases hp with ⟨⟨k8, e81, hk8, rfl⟩ | ⟨n81, rfl⟩, hMe⟩
          · exact False.elim (by omega)
          · rw [hMe] at w
            refine z_if_eq (tgt := 100) hx hb (by omega) dX1_passOfLink_80 (by decide) (fun c18 => ?_) (fun c18 => False.elim (by omega))
            refine z_iinc (v := (((i + 1) : Nat) : Int)) (lv' := [(5, .int (zI (((i + 1) : Nat) : Int))), (7, .int (zI (-1))), (6, .int (zI (((q - 1 - i) : Nat) : Int))), (4, .int (zI cz)), (0, .ref (B + 23)), (1, .ref (B + ru)), (2, .ref (B + a)), (3, .int (zI (x : Int)))]) hx hb dX1_passOfLink_100 hl (k := 2) rfl (by omega) (by decide) rfl (fun ls hl => ?_)
            refine lv_goto (tgt := 22) hx hb dX1_passOfLink_103 (by decide) ?_
            rw [show cz = cz + 0 by omega] at hl
            exact ih (i + 1) N L1 (cz + 0) (by omega) i1 i2 i3 (lkP_s i4 (ixd_1 (by omega)) (link_n1 (by assumption)).1 (link_n1 (by assumption)).2) (by omega) (by omega) _ _ ls w (lv_sub hl [0, 3, 4, 5, 6, 7] rfl)
theorem dX1_passOfLink_0 : decode cX1_passOfLink 0 = .ok (.aload_n 1, 1) := dq0 kk_43 (by decide +kernel)
theorem dX1_passOfLink_1 : decode cX1_passOfLink 1 = .ok (.getfield 15, 3) := dqV kk_180 (by decide +kernel)
theorem tb_79 : Cond.fieldLink "ToneLines$Doer" 15 "ToneLines$Rule" "parts" "[I" ∈ TB := tbm (tc1 (List.mem_of_getElem? (i := 75) rfl)) rfl
theorem dX1_passOfLink_4 : decode cX1_passOfLink 4 = .ok (.iconst 4, 1) := dq0 kk_7 (by decide +kernel)
theorem dX1_passOfLink_5 : decode cX1_passOfLink 5 = .ok (.iaload, 1) := dq0 kk_46 (by decide +kernel)
theorem dX1_passOfLink_6 : decode cX1_passOfLink 6 = .ok (.iconst 1, 1) := dq0 kk_4 (by decide +kernel)
theorem dX1_passOfLink_7 : decode cX1_passOfLink 7 = .ok (.if_icmp .ne 7, 3) := dqT kk_160 (by decide +kernel)
theorem dX1_passOfLink_14 : decode cX1_passOfLink 14 = .ok (.iconst 0, 1) := dq0 kk_3 (by decide +kernel)
theorem dX1_passOfLink_15 : decode cX1_passOfLink 15 = .ok (.istore_n 3, 1) := dq0 kk_62 (by decide +kernel)
theorem dX1_passOfLink_16 : decode cX1_passOfLink 16 = .ok (.iconst 0, 1) := dq0 kk_3 (by decide +kernel)
theorem dX1_passOfLink_17 : decode cX1_passOfLink 17 = .ok (.istore 4, 2) := dqU kk_54 (by decide +kernel)
theorem dX1_passOfLink_19 : decode cX1_passOfLink 19 = .ok (.iconst 0, 1) := dq0 kk_3 (by decide +kernel)
theorem dX1_passOfLink_20 : decode cX1_passOfLink 20 = .ok (.istore 5, 2) := dqU kk_54 (by decide +kernel)
theorem dX1_passOfLink_106 : decode cX1_passOfLink 106 = .ok (.iload 4, 2) := dqU kk_21 (by decide +kernel)
theorem dX1_passOfLink_108 : decode cX1_passOfLink 108 = .ok (.ireturn, 1) := dq0 kk_172 (by decide +kernel)
theorem dX1_passOfLink_10 : decode cX1_passOfLink 10 = .ok (.iconst 1, 1) := dq0 kk_4 (by decide +kernel)
theorem dX1_passOfLink_11 : decode cX1_passOfLink 11 = .ok (.goto 4, 3) := dqT kk_167 (by decide +kernel)
set_option maxRecDepth 4000 in
theorem s_X1_passOfLink {l : Launch} {D : va_G} {B : Nat} {cy : Nat → ClassId} {M : Mem} {a n q hv ed : Nat} {K L : Nat → Nat} (hk : kd a = (9, 0, 0)) (hW : isW M a n q hv ed K L) (hwf : wf n q hv ed K L) {ru : Nat} {P : Nat → Int} (hku : kd ru = (4, 0, 0)) (hU : isU M ru P) (hP : okP P) {x : Nat} (hx8 : (P 4 = 1 ∧ x = 1) ∨ (P 4 ≠ 1 ∧ x = 0)) : Ci l D B cy yX1_passOfLink cX1_passOfLink 8 (some .int) 3 73 [.ref (B + 23), .ref (B + ru), .ref (B + a)] M (fun r M1 => r = zI (lkP n q x L q).2 ∧ isW M1 a n q hv ed K (lkP n q x L q).1 ∧ wf n q hv ed K (lkP n q x L q).1 ∧ Fr3 M1 M a) := by
  refine s_any (by decide) (Nat.le_of_ble_eq_true rfl) ?_
  intro p e s m below meth c ls F hr hlocks w hl
  have F : CallFix p m c cX1_passOfLink 8 s _ TB RX1 := F
  have hx := F.1
  have hb := F.2.1
  have hl : lv_has ls 8 [(0, .ref (B + 23)), (1, .ref (B + ru)), (2, .ref (B + a))] := hl
  have hwf0 := hwf
  obtain ⟨hn, hq, hhv, hed, hKL⟩ := hwf0
  have hP0 := hP 0 (by decide)
  have hP1 := hP 1 (by decide)
  have hP2 := hP 2 (by decide)
  have hP3 := hP 3 (by decide)
  have hP4 := hP 4 (by decide)
  have hP5 := hP 5 (by decide)
  have hP6 := hP 6 (by decide)
  have hP7 := hP 7 (by decide)
  have hx9 : x = 0 ∨ x = 1 := by omega
  refine lv_aload_n hx hb dX1_passOfLink_0 rfl (lv_at hl 1 rfl) ?_
  refine f_4_0 F w (a := ru) hku tb_79 dX1_passOfLink_1 ?_
  refine lv_iconst (v := zI 4) hx hb dX1_passOfLink_4 rfl ?_
  refine g_iald F w (a := (ru + 1)) (kd_r1 hku) (j := 4) ⟨by decide, by decide⟩ (by omega) dX1_passOfLink_5 ?_
  refine r_val (v := (zI (P 4))) (hU 4 (by decide)) ?_
  refine lv_iconst (v := zI 1) hx hb dX1_passOfLink_6 rfl ?_
  refine z_icmp_ne (tgt := 14) hx hb (by omega) (by omega) dX1_passOfLink_7 (by decide) (fun c1 => ?_) (fun c1 => ?_)
  · refine lv_iconst (v := zI 0) hx hb dX1_passOfLink_14 rfl ?_
    refine lv_istore_n (lv' := [(3, .int (zI 0)), (0, .ref (B + 23)), (1, .ref (B + ru)), (2, .ref (B + a))]) hx hb dX1_passOfLink_15 rfl hl (by decide) rfl (fun ls hl => ?_)
    refine lv_iconst (v := zI 0) hx hb dX1_passOfLink_16 rfl ?_
    refine lv_istore (lv' := [(4, .int (zI 0)), (3, .int (zI 0)), (0, .ref (B + 23)), (1, .ref (B + ru)), (2, .ref (B + a))]) hx hb dX1_passOfLink_17 hl (by decide) rfl (fun ls hl => ?_)
    refine lv_iconst (v := zI 0) hx hb dX1_passOfLink_19 rfl ?_
    refine lv_istore (lv' := [(5, .int (zI 0)), (4, .int (zI 0)), (3, .int (zI 0)), (0, .ref (B + 23)), (1, .ref (B + ru)), (2, .ref (B + a))]) hx hb dX1_passOfLink_20 hl (by decide) rfl (fun ls hl => ?_)
    have hl : lv_has ls 8 [(5, .int (zI 0)), (4, .int (zI 0)), (3, .int (zI (x : Int))), (0, .ref (B + 23)), (1, .ref (B + ru)), (2, .ref (B + a))] := by first | exact hl | (rw [show (x : Int) = 1 by omega]; exact hl) | (rw [show (x : Int) = 0 by omega]; exact hl)
    refine lp_X1_passOfLink  F (Nat.le_of_ble_eq_true rfl) (Nat.le_of_ble_eq_true rfl) hk hW hwf hx9 (fun i N L1 cz H locs ls x0 x1 x2 x3 x4 w hl => ?_) q 0 M L 0 (by omega) hW hwf Fr3.rf rfl (by omega) (by omega) _ _ ls w (lv_sub hl [0, 1, 3, 4, 5, 2] rfl)
    refine lv_iload hx hb dX1_passOfLink_106 (lv_at hl 1 rfl) ?_
    exact e_i F w hr hlocks ⟨by rw [x3], by rw [x3]; exact x0, by rw [x3]; exact x1, x2⟩ dX1_passOfLink_108
  · refine lv_iconst (v := zI 1) hx hb dX1_passOfLink_10 rfl ?_
    refine lv_goto (tgt := 15) hx hb dX1_passOfLink_11 (by decide) ?_
    refine lv_istore_n (lv' := [(3, .int (zI 1)), (0, .ref (B + 23)), (1, .ref (B + ru)), (2, .ref (B + a))]) hx hb dX1_passOfLink_15 rfl hl (by decide) rfl (fun ls hl => ?_)
    refine lv_iconst (v := zI 0) hx hb dX1_passOfLink_16 rfl ?_
    refine lv_istore (lv' := [(4, .int (zI 0)), (3, .int (zI 1)), (0, .ref (B + 23)), (1, .ref (B + ru)), (2, .ref (B + a))]) hx hb dX1_passOfLink_17 hl (by decide) rfl (fun ls hl => ?_)
    refine lv_iconst (v := zI 0) hx hb dX1_passOfLink_19 rfl ?_
    refine lv_istore (lv' := [(5, .int (zI 0)), (4, .int (zI 0)), (3, .int (zI 1)), (0, .ref (B + 23)), (1, .ref (B + ru)), (2, .ref (B + a))]) hx hb dX1_passOfLink_20 hl (by decide) rfl (fun ls hl => ?_)
    have hl : lv_has ls 8 [(5, .int (zI 0)), (4, .int (zI 0)), (3, .int (zI (x : Int))), (0, .ref (B + 23)), (1, .ref (B + ru)), (2, .ref (B + a))] := by first | exact hl | (rw [show (x : Int) = 1 by omega]; exact hl) | (rw [show (x : Int) = 0 by omega]; exact hl)
    refine lp_X1_passOfLink  F (Nat.le_of_ble_eq_true rfl) (Nat.le_of_ble_eq_true rfl) hk hW hwf hx9 (fun i N L1 cz H locs ls x0 x1 x2 x3 x4 w hl => ?_) q 0 M L 0 (by omega) hW hwf Fr3.rf rfl (by omega) (by omega) _ _ ls w (lv_sub hl [0, 1, 3, 4, 5, 2] rfl)
    refine lv_iload hx hb dX1_passOfLink_106 (lv_at hl 1 rfl) ?_
    exact e_i F w hr hlocks ⟨by rw [x3], by rw [x3]; exact x0, by rw [x3]; exact x1, x2⟩ dX1_passOfLink_108
