theorem udX12_word_2 : decode cX12_word 2 = .ok (.iload_n 1, 1) := dq0 kk_27 (by decide +kernel)
theorem udX12_word_3 : decode cX12_word 3 = .ok (.bipush 28, 2) := dqS kk_16 (by decide +kernel)
theorem udX12_word_5 : decode cX12_word 5 = .ok (.if_icmp .ge 16, 3) := dqT kk_162 (by decide +kernel)
theorem udX12_word_8 : decode cX12_word 8 = .ok (.aload_n 0, 1) := dq0 kk_42 (by decide +kernel)
theorem udX12_word_9 : decode cX12_word 9 = .ok (.getfield 26, 3) := dqV kk_180 (by decide +kernel)
theorem udX12_word_12 : decode cX12_word 12 = .ok (.iload_n 1, 1) := dq0 kk_27 (by decide +kernel)
theorem udX12_word_13 : decode cX12_word 13 = .ok (.iconst 0, 1) := dq0 kk_3 (by decide +kernel)
theorem udX12_word_14 : decode cX12_word 14 = .ok (.iastore, 1) := dq0 kk_79 (by decide +kernel)
theorem udX12_word_15 : decode cX12_word 15 = .ok (.iinc 1 1, 3) := dqI kk_132 (by decide +kernel)
theorem udX12_word_18 : decode cX12_word 18 = .ok (.goto (-16), 3) := dqT kk_167 (by decide +kernel)
set_option maxRecDepth 4000 in
theorem lp_X12_word {p : Program} {l : Launch} {e : Env} {s : State} {m : MethodId} {args : Array Value} {below : List Frame} {meth : Method} {c : Code} {D : va_G} {B : Nat} {cy : Nat → ClassId} {H0 : Heap} {Q : State → Prop} {M : Mem} {R : Room}  (F : CallFix p m c cX12_word 2 s args TB RX12) (hR1 : 0 ≤ R.frames) (hR2 : 0 ≤ R.locals)  (kk : ∀ (i : Nat) (Nm : Mem) (H : Heap) (locs : List Loc) (ls : Array Slot), (∀ k, k < 28 → Nm.1 151 k = zI 0) → (FrE Nm M) → Wd D B cy s H0 Nm H locs → lv_has ls 2 [(0, .ref (B + 146))] → W p l e R s m args below meth c H locs 0 0 Q (F0 m 21 ls [])) : ∀ (f : Nat) (i : Nat) (Nm : Mem), (i ≤ 28) → (∀ k, k < i → Nm.1 151 k = zI 0) → (FrE Nm M) → (28 ≤ i + f) → ∀ (H : Heap) (locs : List Loc) (ls : Array Slot), Wd D B cy s H0 Nm H locs → lv_has ls 2 [(1, .int (zI (i : Int))), (0, .ref (B + 146))] → W p l e R s m args below meth c H locs 0 0 Q (F0 m 2 ls []) := by
  have hx := F.1
  have hb := F.2.1
  intro f
  induction f with
  | zero =>
    intro i Nm i0 i1 i2 hf H locs ls w hl
    refine lv_iload_n hx hb udX12_word_2 rfl (lv_at hl 0 rfl) ?_
    refine lv_bipush (v := zI 28) hx hb udX12_word_3 (by decide) ?_
    refine z_icmp_ge (tgt := 21) hx hb (by omega) (by omega) udX12_word_5 (by decide) (fun c1 => ?_) (fun c1 => False.elim (by omega))
    exact kk i Nm _ _ ls (fun k hk => i1 k (by omega)) i2 w (lv_sub hl [1] rfl)
  | succ f ih =>
    intro i Nm i0 i1 i2 hf H locs ls w hl
    refine lv_iload_n hx hb udX12_word_2 rfl (lv_at hl 0 rfl) ?_
    refine lv_bipush (v := zI 28) hx hb udX12_word_3 (by decide) ?_
    refine z_icmp_ge (tgt := 21) hx hb (by omega) (by omega) udX12_word_5 (by decide) (fun c1 => ?_) (fun c1 => ?_)
    · exact kk i Nm _ _ ls (fun k hk => i1 k (by omega)) i2 w (lv_sub hl [1] rfl)
    · refine lv_aload_n hx hb udX12_word_8 rfl (lv_at hl 1 rfl) ?_
      refine f_12_10 F w (a := 146) rfl utb_93 udX12_word_9 ?_
      refine lv_iload_n hx hb udX12_word_12 rfl (lv_at hl 0 rfl) ?_
      refine lv_iconst (v := zI 0) hx hb udX12_word_13 rfl ?_
      refine g_iast F w (a := 151) rfl (j := i) (ix_n (by omega)) (by omega) udX12_word_14 (fun H locs w => ?_)
      refine z_iinc (v := (((i + 1) : Nat) : Int)) (lv' := [(1, .int (zI (((i + 1) : Nat) : Int))), (0, .ref (B + 146))]) hx hb udX12_word_15 hl (k := 0) rfl (by omega) (by decide) rfl (fun ls hl => ?_)
      refine lv_goto (tgt := 2) hx hb udX12_word_18 (by decide) ?_
      exact ih (i + 1) (st Nm 151 i (zI 0)) (by omega) (fun k hk => by by_cases h9 : k = i; (subst h9; exact st_at); (rw [st_ne (Or.inr h9)]; exact i1 k (by omega))) (FrE.tr i2 FrE.s) (by omega) _ _ ls w (lv_sub hl [0, 1] rfl)
theorem udX12_word_0 : decode cX12_word 0 = .ok (.iconst 0, 1) := dq0 kk_3 (by decide +kernel)
theorem udX12_word_1 : decode cX12_word 1 = .ok (.istore_n 1, 1) := dq0 kk_60 (by decide +kernel)
theorem udX12_word_21 : decode cX12_word 21 = .ok (.aload_n 0, 1) := dq0 kk_42 (by decide +kernel)
theorem udX12_word_22 : decode cX12_word 22 = .ok (.iconst 0, 1) := dq0 kk_3 (by decide +kernel)
theorem udX12_word_23 : decode cX12_word 23 = .ok (.putfield 172, 3) := dqV kk_181 (by decide +kernel)
theorem udX12_word_26 : decode cX12_word 26 = .ok (.aload_n 0, 1) := dq0 kk_42 (by decide +kernel)
theorem udX12_word_27 : decode cX12_word 27 = .ok (.invokevirtual 191, 3) := dqV kk_182 (by decide +kernel)
theorem utk_X12_readsTones : Cond.code yX12_readsTones cX12_readsTones 3 (some .boolean) ∈ TB := tbm (tc5 (List.mem_of_getElem? (i := 156) rfl)) rfl
theorem ugc_X12_readsTones : GoodIn TB (cw yX12_readsTones cX12_readsTones 3 (some .boolean)) := goodIn_c2 utk_X12_readsTones
theorem utb_109 : Cond.methodLink "ToneLinesModel" 191 yX12_readsTones ∈ TB := tbm (tc5 (List.mem_of_getElem? (i := 153) rfl)) rfl
theorem utb_110 : Cond.instanceMethod yX12_readsTones ∈ TB := tbm (tc5 (List.mem_of_getElem? (i := 155) rfl)) rfl
theorem utb_111 : Cond.selects "ToneLinesModel" yX12_readsTones yX12_readsTones ∈ TB := tbp (List.mem_of_getElem? (i := 37) rfl) rfl
theorem ugv_X12_191 : GoodIn TB (wsV RX12 191 RX12 yX12_readsTones (cw yX12_readsTones cX12_readsTones 3 (some .boolean))) := goodIn_4 utb_109 utb_110 utb_111 utb_92 ugc_X12_readsTones
theorem uhv_X12_readsTones : yX12_readsTones.cls = RX12 ∧ yX12_readsTones.cls ≠ "java/lang/invoke/MethodHandle" ∧ yX12_readsTones.cls ≠ "java/lang/invoke/VarHandle" ∧ (parseMethodDescriptor yX12_readsTones.desc).map (fun d => d.parameters.length) = some 0 := by decide +kernel
theorem udX12_word_30 : decode cX12_word 30 = .ok (.ifCond .eq 21, 3) := dqT kk_153 (by decide +kernel)
theorem udX12_word_33 : decode cX12_word 33 = .ok (.aload_n 0, 1) := dq0 kk_42 (by decide +kernel)
theorem udX12_word_34 : decode cX12_word 34 = .ok (.invokevirtual 195, 3) := dqV kk_182 (by decide +kernel)
theorem utk_X12_readsSyllables : Cond.code yX12_readsSyllables cX12_readsSyllables 4 (some .boolean) ∈ TB := tbm (tc5 (List.mem_of_getElem? (i := 171) rfl)) rfl
theorem ugc_X12_readsSyllables : GoodIn TB (cw yX12_readsSyllables cX12_readsSyllables 4 (some .boolean)) := goodIn_c2 utk_X12_readsSyllables
theorem utb_112 : Cond.methodLink "ToneLinesModel" 195 yX12_readsSyllables ∈ TB := tbm (tc5 (List.mem_of_getElem? (i := 168) rfl)) rfl
theorem utb_113 : Cond.instanceMethod yX12_readsSyllables ∈ TB := tbm (tc5 (List.mem_of_getElem? (i := 170) rfl)) rfl
theorem utb_114 : Cond.selects "ToneLinesModel" yX12_readsSyllables yX12_readsSyllables ∈ TB := tbp (List.mem_of_getElem? (i := 40) rfl) rfl
theorem ugv_X12_195 : GoodIn TB (wsV RX12 195 RX12 yX12_readsSyllables (cw yX12_readsSyllables cX12_readsSyllables 4 (some .boolean))) := goodIn_4 utb_112 utb_113 utb_114 utb_92 ugc_X12_readsSyllables
theorem uhv_X12_readsSyllables : yX12_readsSyllables.cls = RX12 ∧ yX12_readsSyllables.cls ≠ "java/lang/invoke/MethodHandle" ∧ yX12_readsSyllables.cls ≠ "java/lang/invoke/VarHandle" ∧ (parseMethodDescriptor yX12_readsSyllables.desc).map (fun d => d.parameters.length) = some 0 := by decide +kernel
theorem udX12_word_37 : decode cX12_word 37 = .ok (.ifCond .eq 14, 3) := dqT kk_153 (by decide +kernel)
theorem udX12_word_40 : decode cX12_word 40 = .ok (.aload_n 0, 1) := dq0 kk_42 (by decide +kernel)
theorem udX12_word_41 : decode cX12_word 41 = .ok (.invokevirtual 198, 3) := dqV kk_182 (by decide +kernel)
theorem utk_X12_readsLines : Cond.code yX12_readsLines cX12_readsLines 3 (some .boolean) ∈ TB := tbm (tc5 (List.mem_of_getElem? (i := 175) rfl)) rfl
theorem ugc_X12_readsLines : GoodIn TB (cw yX12_readsLines cX12_readsLines 3 (some .boolean)) := goodIn_c2 utk_X12_readsLines
theorem utb_115 : Cond.methodLink "ToneLinesModel" 198 yX12_readsLines ∈ TB := tbm (tc5 (List.mem_of_getElem? (i := 172) rfl)) rfl
theorem utb_116 : Cond.instanceMethod yX12_readsLines ∈ TB := tbm (tc5 (List.mem_of_getElem? (i := 174) rfl)) rfl
theorem utb_117 : Cond.selects "ToneLinesModel" yX12_readsLines yX12_readsLines ∈ TB := tbp (List.mem_of_getElem? (i := 41) rfl) rfl
theorem ugv_X12_198 : GoodIn TB (wsV RX12 198 RX12 yX12_readsLines (cw yX12_readsLines cX12_readsLines 3 (some .boolean))) := goodIn_4 utb_115 utb_116 utb_117 utb_92 ugc_X12_readsLines
theorem uhv_X12_readsLines : yX12_readsLines.cls = RX12 ∧ yX12_readsLines.cls ≠ "java/lang/invoke/MethodHandle" ∧ yX12_readsLines.cls ≠ "java/lang/invoke/VarHandle" ∧ (parseMethodDescriptor yX12_readsLines.desc).map (fun d => d.parameters.length) = some 0 := by decide +kernel
theorem udX12_word_44 : decode cX12_word 44 = .ok (.ifCond .eq 7, 3) := dqT kk_153 (by decide +kernel)
theorem udX12_word_47 : decode cX12_word 47 = .ok (.iconst 1, 1) := dq0 kk_4 (by decide +kernel)
theorem udX12_word_48 : decode cX12_word 48 = .ok (.goto 4, 3) := dqT kk_167 (by decide +kernel)
theorem udX12_word_52 : decode cX12_word 52 = .ok (.istore_n 1, 1) := dq0 kk_60 (by decide +kernel)
theorem udX12_word_53 : decode cX12_word 53 = .ok (.aload_n 0, 1) := dq0 kk_42 (by decide +kernel)
theorem udX12_word_54 : decode cX12_word 54 = .ok (.iconst 0, 1) := dq0 kk_3 (by decide +kernel)
theorem udX12_word_55 : decode cX12_word 55 = .ok (.putfield 169, 3) := dqV kk_181 (by decide +kernel)
theorem udX12_word_58 : decode cX12_word 58 = .ok (.iload_n 1, 1) := dq0 kk_27 (by decide +kernel)
theorem udX12_word_59 : decode cX12_word 59 = .ok (.ifCond .ne 11, 3) := dqT kk_154 (by decide +kernel)
theorem udX12_word_70 : decode cX12_word 70 = .ok (.aload_n 0, 1) := dq0 kk_42 (by decide +kernel)
theorem udX12_word_71 : decode cX12_word 71 = .ok (.getfield 13, 3) := dqV kk_180 (by decide +kernel)
theorem utb_118 : Cond.fieldLink "ToneLinesModel" 13 "ToneLinesModel" "told" "[I" ∈ TB := wtb_179
theorem udX12_word_74 : decode cX12_word 74 = .ok (.aload_n 0, 1) := dq0 kk_42 (by decide +kernel)
theorem udX12_word_75 : decode cX12_word 75 = .ok (.getfield 26, 3) := dqV kk_180 (by decide +kernel)
theorem udX12_word_78 : decode cX12_word 78 = .ok (.invokestatic 162, 3) := dqV kk_184 (by decide +kernel)
theorem utk_X12_copy : Cond.code yX12_copy cX12_copy 3 none ∈ TB := wtk_X12_copy
theorem ugc_X12_copy : GoodIn TB (cw yX12_copy cX12_copy 3 none) := goodIn_c2 utk_X12_copy
theorem utb_119 : Cond.methodLink "ToneLinesModel" 162 yX12_copy ∈ TB := wtb_180
theorem utb_120 : Cond.static yX12_copy ∈ TB := wtb_181
theorem ugs_X12_162 : GoodIn TB (va_wsS RX12 162 yX12_copy (cw yX12_copy cX12_copy 3 none)) := goodIn_3 utb_119 utb_120 utb_92 ugc_X12_copy
theorem uhs_X12_copy : yX12_copy.cls ≠ "java/lang/invoke/MethodHandle" ∧ yX12_copy.cls ≠ "java/lang/invoke/VarHandle" ∧ (parseMethodDescriptor yX12_copy.desc).map (fun d => d.parameters.length) = some 2 := whs_X12_copy
theorem udX12_word_81 : decode cX12_word 81 = .ok (.aload_n 0, 1) := dq0 kk_42 (by decide +kernel)
theorem udX12_word_82 : decode cX12_word 82 = .ok (.iconst 0, 1) := dq0 kk_3 (by decide +kernel)
theorem udX12_word_83 : decode cX12_word 83 = .ok (.putfield 201, 3) := dqV kk_181 (by decide +kernel)
theorem utb_121 : Cond.fieldLink "ToneLinesModel" 201 "ToneLinesModel" "acts" "I" ∈ TB := wtb_280
theorem udX12_word_86 : decode cX12_word 86 = .ok (.aload_n 0, 1) := dq0 kk_42 (by decide +kernel)
theorem udX12_word_87 : decode cX12_word 87 = .ok (.getfield 13, 3) := dqV kk_180 (by decide +kernel)
theorem udX12_word_90 : decode cX12_word 90 = .ok (.iconst 0, 1) := dq0 kk_3 (by decide +kernel)
theorem udX12_word_91 : decode cX12_word 91 = .ok (.iaload, 1) := dq0 kk_46 (by decide +kernel)
theorem udX12_word_92 : decode cX12_word 92 = .ok (.ireturn, 1) := dq0 kk_172 (by decide +kernel)
theorem udX12_word_51 : decode cX12_word 51 = .ok (.iconst 0, 1) := dq0 kk_3 (by decide +kernel)
theorem udX12_word_62 : decode cX12_word 62 = .ok (.bipush (-4), 2) := dqS kk_16 (by decide +kernel)
theorem udX12_word_64 : decode cX12_word 64 = .ok (.aload_n 0, 1) := dq0 kk_42 (by decide +kernel)
theorem udX12_word_65 : decode cX12_word 65 = .ok (.getfield 172, 3) := dqV kk_180 (by decide +kernel)
theorem udX12_word_68 : decode cX12_word 68 = .ok (.isub, 1) := dq0 kk_100 (by decide +kernel)
theorem udX12_word_69 : decode cX12_word 69 = .ok (.ireturn, 1) := dq0 kk_172 (by decide +kernel)
set_option maxRecDepth 4000 in
theorem m_word {l : Launch} {D : va_G} {B : Nat} {cy : Nat → ClassId} {M : Mem} {T : Nat → Nat} {tn : Nat} (hT : okT T tn) (hTr : isTr M T tn) {Ps : Nat → Nat → Int} {mr k : Nat} {x : Fw} {Hs : Nat → Fw} (hS : MS M Ps mr x Hs k) : Ci l D B cy yX12_word cX12_word 2 (some .int) 4 88 [.ref (B + 146)] M (fun r M1 => M1.1 146 8 = zI 0 ∧ ((∃ y, wdF T tn = some y ∧ MS M1 Ps mr y Hs 0) ∨ (wdF T tn = none ∧ MS M1 Ps mr x Hs k)) ∧ ∀ b, b < 146 ∨ b = 152 → M1.1 b = M.1 b) := by
  refine s_any (by decide) (Nat.le_of_ble_eq_true rfl) ?_
  intro p e s m below meth c ls F hr hlocks w hl
  have F : CallFix p m c cX12_word 2 s _ TB RX12 := F
  have hx := F.1
  have hb := F.2.1
  have hl : lv_has ls 2 [(0, .ref (B + 146))] := hl
  have hN := hT.1
  refine lv_iconst (v := zI 0) hx hb udX12_word_0 rfl ?_
  refine lv_istore_n (lv' := [(1, .int (zI 0)), (0, .ref (B + 146))]) hx hb udX12_word_1 rfl hl (by decide) rfl (fun ls hl => ?_)
  refine lp_X12_word  F (Nat.le_of_ble_eq_true rfl) (Nat.le_of_ble_eq_true rfl)  (fun i Nm H locs ls x0 x1 w hl => ?_) 28 0 M (by omega) (fun k hk => absurd hk (Nat.not_lt_zero k)) FrE.rf (by omega) _ _ ls w (lv_sub hl [0, 1] rfl)
  refine lv_aload_n hx hb udX12_word_21 rfl (lv_at hl 0 rfl) ?_
  refine lv_iconst (v := zI 0) hx hb udX12_word_22 rfl ?_
  refine u_12_9 F w (a := 146) rfl utb_96 udX12_word_23 (fun H locs w => ?_)
  have hD0 : ES (st Nm 146 9 (zI 0)) T tn 0 (0, 0, 0) wo0 := ⟨(hTr.e x1).o (Or.inr (by decide)) (by decide), st_at, Nat.zero_le _, (isR_0 x0).fr (st_ob (by decide))⟩
  have fD0 : FrE (st Nm 146 9 (zI 0)) M := FrE.tr x1 FrE.a
  refine lv_aload_n hx hb udX12_word_26 rfl (lv_at hl 0 rfl) ?_
  refine k_Vi F w (As := []) (rest := []) (a := 146) (kd_lt (a := 146) (show kd 146 = (12, 0, 0) from rfl) (by decide)) (sh_12 rfl _ _) rfl (t_readsTones hT hD0) ugv_X12_191 uhv_X12_readsTones ⟨(Nat.le_of_ble_eq_true rfl), (Nat.le_of_ble_eq_true rfl)⟩ hl.1 rfl (Nat.le_of_ble_eq_true rfl) ⟨Nat.zero_le _, Nat.zero_le _⟩ udX12_word_27 (fun r Ma2 H locs hp w => ?_)
  rcases hp with ⟨iz1, oz1, ez1, rfl, hDz1, fz1⟩ | ⟨ez1, rfl, ⟨jz1, hjz1, lz1⟩, fz1⟩
  · have fDz1 : FrE Ma2 M := FrE.tr fD0 fz1
    refine z_if_eq (tgt := 51) hx hb (by omega) udX12_word_30 (by decide) (fun c3 => False.elim (by omega)) (fun c3 => ?_)
    refine lv_aload_n hx hb udX12_word_33 rfl (lv_at hl 0 rfl) ?_
    refine k_Vi F w (As := []) (rest := []) (a := 146) (kd_lt (a := 146) (show kd 146 = (12, 0, 0) from rfl) (by decide)) (sh_12 rfl _ _) rfl (t_readsSyllables hT hDz1) ugv_X12_195 uhv_X12_readsSyllables ⟨(Nat.le_of_ble_eq_true rfl), (Nat.le_of_ble_eq_true rfl)⟩ hl.1 rfl (Nat.le_of_ble_eq_true rfl) ⟨Nat.zero_le _, Nat.zero_le _⟩ udX12_word_34 (fun r Ma5 H locs hp w => ?_)
    rcases hp with ⟨iz4, oz4, ez4, rfl, hDz4, fz4⟩ | ⟨ez4, rfl, ⟨jz4, hjz4, lz4⟩, fz4⟩
    · have fDz4 : FrE Ma5 M := FrE.tr fDz1 fz4
      refine z_if_eq (tgt := 51) hx hb (by omega) udX12_word_37 (by decide) (fun c6 => False.elim (by omega)) (fun c6 => ?_)
      refine lv_aload_n hx hb udX12_word_40 rfl (lv_at hl 0 rfl) ?_
      refine k_Vi F w (As := []) (rest := []) (a := 146) (kd_lt (a := 146) (show kd 146 = (12, 0, 0) from rfl) (by decide)) (sh_12 rfl _ _) rfl (t_readsLines hT hDz4) ugv_X12_198 uhv_X12_readsLines ⟨(Nat.le_of_ble_eq_true rfl), (Nat.le_of_ble_eq_true rfl)⟩ hl.1 rfl (Nat.le_of_ble_eq_true rfl) ⟨Nat.zero_le _, Nat.zero_le _⟩ udX12_word_41 (fun r Ma8 H locs hp w => ?_)
      rcases hp with ⟨iz7, oz7, ez7, rfl, hDz7, fz7⟩ | ⟨ez7, rfl, ⟨jz7, hjz7, lz7⟩, fz7⟩
      · have fDz7 : FrE Ma8 M := FrE.tr fDz4 fz7
        refine z_if_eq (tgt := 51) hx hb (by omega) udX12_word_44 (by decide) (fun c9 => False.elim (by omega)) (fun c9 => ?_)
        refine lv_iconst (v := zI 1) hx hb udX12_word_47 rfl ?_
        refine lv_goto (tgt := 52) hx hb udX12_word_48 (by decide) ?_
        refine lv_istore_n (lv' := [(1, .int (zI 1)), (0, .ref (B + 146))]) hx hb udX12_word_52 rfl hl (by decide) rfl (fun ls hl => ?_)
        refine lv_aload_n hx hb udX12_word_53 rfl (lv_at hl 1 rfl) ?_
        refine lv_iconst (v := zI 0) hx hb udX12_word_54 rfl ?_
        refine u_12_8 F w (a := 146) rfl utb_103 udX12_word_55 (fun H locs w => ?_)
        refine lv_iload_n hx hb udX12_word_58 rfl (lv_at hl 0 rfl) ?_
        refine z_if_ne (tgt := 70) hx hb (by omega) udX12_word_59 (by decide) (fun c10 => ?_) (fun c10 => False.elim (by omega))
        refine lv_aload_n hx hb udX12_word_70 rfl (lv_at hl 1 rfl) ?_
        refine f_12_1 F w (a := 146) rfl utb_118 udX12_word_71 ?_
        refine lv_aload_n hx hb udX12_word_74 rfl (lv_at hl 1 rfl) ?_
        refine f_12_10 F w (a := 146) rfl utb_93 udX12_word_75 ?_
        obtain ⟨y9, e9, hy9⟩ : ∃ y9 : Fw, wdF T tn = some y9 ∧ (wA ((st Ma8 146 8 (zI 0)).1 151) y9 ∧ okF y9) := ⟨_, wd_y ez1 ez4 ez7, by rw [st_ob (by decide)]; exact ⟨hDz7.2.2.2.1, hDz7.2.2.2.2.1, hDz7.2.2.2.wf.2.2.1, hDz7.2.2.2.wf.2.2.2.1⟩⟩
        have hn9 := hy9.2.1.1
        have hS9 := (hS.e fDz7).s8 (v := zI 0)
        refine k_Sv F w (As := [.ref (B + 147), .ref (B + 151)]) (rest := []) (s_X12_copy (a := 147) (b := 151) rfl rfl (by decide) (n := y9.2.2.2.1) (q := y9.1) (hv := y9.2.1) (ed := y9.2.2.1) (K := y9.2.2.2.2.1) (L := y9.2.2.2.2.2) hy9.1 ⟨hy9.2.1.1, hy9.2.1.2.1, hy9.2.2.1, hy9.2.2.2, fun k8 hk8 => ⟨(hy9.2.1.2.2 k8 hk8).1, hy9.2.1.lt hk8⟩⟩) ugs_X12_162 uhs_X12_copy ⟨(Nat.le_of_ble_eq_true rfl), (Nat.le_of_ble_eq_true rfl)⟩ hl.1 rfl (Nat.le_of_ble_eq_true rfl) ⟨Nat.zero_le _, Nat.zero_le _⟩ udX12_word_78 (fun Ma11 H locs hp w => ?_)
        rcases hp with ⟨hW8, hF8⟩
        have hS8 := MS.word hS9 hF8 hW8 hy9.2
        have h88 := (congrFun (hF8.1 146 (by decide)) 8).trans (st_at (M := _) (x := zI 0))
        refine lv_aload_n hx hb udX12_word_81 rfl (lv_at hl 1 rfl) ?_
        refine lv_iconst (v := zI 0) hx hb udX12_word_82 rfl ?_
        refine u_12_20 F w (a := 146) rfl utb_121 udX12_word_83 (fun H locs w => ?_)
        refine lv_aload_n hx hb udX12_word_86 rfl (lv_at hl 1 rfl) ?_
        refine f_12_1 F w (a := 146) rfl utb_118 udX12_word_87 ?_
        refine lv_iconst (v := zI 0) hx hb udX12_word_90 rfl ?_
        refine g_iald F w (a := 147) rfl (j := 0) ⟨by decide, by decide⟩ (by omega) udX12_word_91 ?_
        refine r_val (v := (zI ((y9.2.2.2.1 : Nat) : Int))) ((st_ne (Or.inl (by omega))).trans (hW8.1)) ?_
        exact e_i F w hr hlocks ⟨(st_ne (Or.inr (by decide))).trans h88, Or.inl ⟨y9, e9, hS8⟩, fun b hb => by rw [st_ob (by omega), hF8.1 b (by omega), st_ob (by omega)]; exact fDz7.1 b (by omega) (by omega)⟩ udX12_word_92
      · have fDz7 : FrE Ma8 M := FrE.tr fDz4 fz7
        refine z_if_eq (tgt := 51) hx hb (by omega) udX12_word_44 (by decide) (fun c12 => ?_) (fun c12 => False.elim (by omega))
        refine lv_iconst (v := zI 0) hx hb udX12_word_51 rfl ?_
        refine lv_istore_n (lv' := [(1, .int (zI 0)), (0, .ref (B + 146))]) hx hb udX12_word_52 rfl hl (by decide) rfl (fun ls hl => ?_)
        refine lv_aload_n hx hb udX12_word_53 rfl (lv_at hl 1 rfl) ?_
        refine lv_iconst (v := zI 0) hx hb udX12_word_54 rfl ?_
        refine u_12_8 F w (a := 146) rfl utb_103 udX12_word_55 (fun H locs w => ?_)
        refine lv_iload_n hx hb udX12_word_58 rfl (lv_at hl 0 rfl) ?_
        refine z_if_ne (tgt := 70) hx hb (by omega) udX12_word_59 (by decide) (fun c13 => False.elim (by omega)) (fun c13 => ?_)
        refine lv_bipush (v := zI (-4)) hx hb udX12_word_62 (by decide) ?_
        refine lv_aload_n hx hb udX12_word_64 rfl (lv_at hl 1 rfl) ?_
        refine f_12_9 F w (a := 146) rfl utb_96 udX12_word_65 ?_
        refine r_val (v := (zI (jz7 : Int))) ((st_ne (Or.inr (by omega))).trans hjz7) ?_
        refine z_isub (z := ((-4) - (jz7 : Int))) hx hb udX12_word_68 (by omega) ?_
        exact e_i F w hr hlocks ⟨st_at, Or.inr ⟨wd_3 ez1 ez4 ez7, (hS.e fDz7).s8⟩, fun b hb => by rw [st_ob (by omega)]; exact fDz7.1 b (by omega) (by omega)⟩ udX12_word_69
    · have fDz4 : FrE Ma5 M := FrE.tr fDz1 fz4
      refine z_if_eq (tgt := 51) hx hb (by omega) udX12_word_37 (by decide) (fun c14 => ?_) (fun c14 => False.elim (by omega))
      refine lv_iconst (v := zI 0) hx hb udX12_word_51 rfl ?_
      refine lv_istore_n (lv' := [(1, .int (zI 0)), (0, .ref (B + 146))]) hx hb udX12_word_52 rfl hl (by decide) rfl (fun ls hl => ?_)
      refine lv_aload_n hx hb udX12_word_53 rfl (lv_at hl 1 rfl) ?_
      refine lv_iconst (v := zI 0) hx hb udX12_word_54 rfl ?_
      refine u_12_8 F w (a := 146) rfl utb_103 udX12_word_55 (fun H locs w => ?_)
      refine lv_iload_n hx hb udX12_word_58 rfl (lv_at hl 0 rfl) ?_
      refine z_if_ne (tgt := 70) hx hb (by omega) udX12_word_59 (by decide) (fun c15 => False.elim (by omega)) (fun c15 => ?_)
      refine lv_bipush (v := zI (-4)) hx hb udX12_word_62 (by decide) ?_
      refine lv_aload_n hx hb udX12_word_64 rfl (lv_at hl 1 rfl) ?_
      refine f_12_9 F w (a := 146) rfl utb_96 udX12_word_65 ?_
      refine r_val (v := (zI (jz4 : Int))) ((st_ne (Or.inr (by omega))).trans hjz4) ?_
      refine z_isub (z := ((-4) - (jz4 : Int))) hx hb udX12_word_68 (by omega) ?_
      exact e_i F w hr hlocks ⟨st_at, Or.inr ⟨wd_2 ez1 ez4, (hS.e fDz4).s8⟩, fun b hb => by rw [st_ob (by omega)]; exact fDz4.1 b (by omega) (by omega)⟩ udX12_word_69
  · have fDz1 : FrE Ma2 M := FrE.tr fD0 fz1
    refine z_if_eq (tgt := 51) hx hb (by omega) udX12_word_30 (by decide) (fun c16 => ?_) (fun c16 => False.elim (by omega))
    refine lv_iconst (v := zI 0) hx hb udX12_word_51 rfl ?_
    refine lv_istore_n (lv' := [(1, .int (zI 0)), (0, .ref (B + 146))]) hx hb udX12_word_52 rfl hl (by decide) rfl (fun ls hl => ?_)
    refine lv_aload_n hx hb udX12_word_53 rfl (lv_at hl 1 rfl) ?_
    refine lv_iconst (v := zI 0) hx hb udX12_word_54 rfl ?_
    refine u_12_8 F w (a := 146) rfl utb_103 udX12_word_55 (fun H locs w => ?_)
    refine lv_iload_n hx hb udX12_word_58 rfl (lv_at hl 0 rfl) ?_
    refine z_if_ne (tgt := 70) hx hb (by omega) udX12_word_59 (by decide) (fun c17 => False.elim (by omega)) (fun c17 => ?_)
    refine lv_bipush (v := zI (-4)) hx hb udX12_word_62 (by decide) ?_
    refine lv_aload_n hx hb udX12_word_64 rfl (lv_at hl 1 rfl) ?_
    refine f_12_9 F w (a := 146) rfl utb_96 udX12_word_65 ?_
    refine r_val (v := (zI (jz1 : Int))) ((st_ne (Or.inr (by omega))).trans hjz1) ?_
    refine z_isub (z := ((-4) - (jz1 : Int))) hx hb udX12_word_68 (by omega) ?_
    exact e_i F w hr hlocks ⟨st_at, Or.inr ⟨wd_1 ez1, (hS.e fDz1).s8⟩, fun b hb => by rw [st_ob (by omega)]; exact fDz1.1 b (by omega) (by omega)⟩ udX12_word_69
