theorem wdX12_hasSide_0 : decode cX12_hasSide 0 = .ok (.iload_n 0, 1) := rdX12_hasSide_0
theorem wdX12_hasSide_1 : decode cX12_hasSide 1 = .ok (.iconst 2, 1) := rdX12_hasSide_1
theorem wdX12_hasSide_2 : decode cX12_hasSide 2 = .ok (.if_icmp .le 8, 3) := rdX12_hasSide_2
theorem wdX12_hasSide_10 : decode cX12_hasSide 10 = .ok (.iconst 1, 1) := rdX12_hasSide_10
theorem wdX12_hasSide_11 : decode cX12_hasSide 11 = .ok (.goto 4, 3) := rdX12_hasSide_11
theorem wdX12_hasSide_15 : decode cX12_hasSide 15 = .ok (.ireturn, 1) := rdX12_hasSide_15
theorem wdX12_hasSide_5 : decode cX12_hasSide 5 = .ok (.iload_n 0, 1) := rdX12_hasSide_5
theorem wdX12_hasSide_6 : decode cX12_hasSide 6 = .ok (.iconst 4, 1) := rdX12_hasSide_6
theorem wdX12_hasSide_7 : decode cX12_hasSide 7 = .ok (.if_icmp .ne 7, 3) := rdX12_hasSide_7
theorem wdX12_hasSide_14 : decode cX12_hasSide 14 = .ok (.iconst 0, 1) := rdX12_hasSide_14
set_option maxRecDepth 4000 in
theorem s_X12_hasSide {l : Launch} {D : va_G} {B : Nat} {cy : Nat → ClassId} {M : Mem} {x9 : Int} (hx9 : rg x9) : Ci l D B cy yX12_hasSide cX12_hasSide 1 (some .boolean) 0 0 [.int (zI x9)] M (fun r M1 => ((x9 ≤ 2 ∨ x9 = 4) ∧ r = zI 1 ∨ ¬ (x9 ≤ 2 ∨ x9 = 4) ∧ r = zI 0) ∧ M1 = M) := by
  refine s_any (by decide) (Nat.le_of_ble_eq_true rfl) ?_
  intro p e s m below meth c ls F hr hlocks w hl
  have F : CallFix p m c cX12_hasSide 1 s _ TB RX12 := F
  have hx := F.1
  have hb := F.2.1
  have hl : lv_has ls 1 [(0, .int (zI x9))] := hl
  refine lv_iload_n hx hb wdX12_hasSide_0 rfl (lv_at hl 0 rfl) ?_
  refine lv_iconst (v := zI 2) hx hb wdX12_hasSide_1 rfl ?_
  refine z_icmp_le (tgt := 10) hx hb (by omega) (by omega) wdX12_hasSide_2 (by decide) (fun c1 => ?_) (fun c1 => ?_)
  · refine lv_iconst (v := zI 1) hx hb wdX12_hasSide_10 rfl ?_
    refine lv_goto (tgt := 15) hx hb wdX12_hasSide_11 (by decide) ?_
    exact e_z F w hr hlocks (nar_z (by omega)) ⟨Or.inl ⟨by omega, rfl⟩, rfl⟩ wdX12_hasSide_15
  · refine lv_iload_n hx hb wdX12_hasSide_5 rfl (lv_at hl 0 rfl) ?_
    refine lv_iconst (v := zI 4) hx hb wdX12_hasSide_6 rfl ?_
    refine z_icmp_ne (tgt := 14) hx hb (by omega) (by omega) wdX12_hasSide_7 (by decide) (fun c2 => ?_) (fun c2 => ?_)
    · refine lv_iconst (v := zI 0) hx hb wdX12_hasSide_14 rfl ?_
      exact e_z F w hr hlocks (nar_z (by omega)) ⟨Or.inr ⟨by omega, rfl⟩, rfl⟩ wdX12_hasSide_15
    · refine lv_iconst (v := zI 1) hx hb wdX12_hasSide_10 rfl ?_
      refine lv_goto (tgt := 15) hx hb wdX12_hasSide_11 (by decide) ?_
      exact e_z F w hr hlocks (nar_z (by omega)) ⟨Or.inl ⟨by omega, rfl⟩, rfl⟩ wdX12_hasSide_15
theorem wdX12_isBySyllables_0 : decode cX12_isBySyllables 0 = .ok (.iload_n 0, 1) := rdX12_isBySyllables_0
theorem wdX12_isBySyllables_1 : decode cX12_isBySyllables 1 = .ok (.ifCond .eq 9, 3) := rdX12_isBySyllables_1
theorem wdX12_isBySyllables_10 : decode cX12_isBySyllables 10 = .ok (.iconst 1, 1) := rdX12_isBySyllables_10
theorem wdX12_isBySyllables_11 : decode cX12_isBySyllables 11 = .ok (.goto 4, 3) := rdX12_isBySyllables_11
theorem wdX12_isBySyllables_15 : decode cX12_isBySyllables 15 = .ok (.ireturn, 1) := rdX12_isBySyllables_15
theorem wdX12_isBySyllables_4 : decode cX12_isBySyllables 4 = .ok (.iload_n 0, 1) := rdX12_isBySyllables_4
theorem wdX12_isBySyllables_5 : decode cX12_isBySyllables 5 = .ok (.bipush 8, 2) := rdX12_isBySyllables_5
theorem wdX12_isBySyllables_7 : decode cX12_isBySyllables 7 = .ok (.if_icmp .lt 7, 3) := rdX12_isBySyllables_7
theorem wdX12_isBySyllables_14 : decode cX12_isBySyllables 14 = .ok (.iconst 0, 1) := rdX12_isBySyllables_14
set_option maxRecDepth 4000 in
theorem s_X12_isBySyllables {l : Launch} {D : va_G} {B : Nat} {cy : Nat → ClassId} {M : Mem} {x9 : Int} (hx9 : rg x9) : Ci l D B cy yX12_isBySyllables cX12_isBySyllables 1 (some .boolean) 0 0 [.int (zI x9)] M (fun r M1 => ((x9 = 0 ∨ 8 ≤ x9) ∧ r = zI 1 ∨ ¬ (x9 = 0 ∨ 8 ≤ x9) ∧ r = zI 0) ∧ M1 = M) := by
  refine s_any (by decide) (Nat.le_of_ble_eq_true rfl) ?_
  intro p e s m below meth c ls F hr hlocks w hl
  have F : CallFix p m c cX12_isBySyllables 1 s _ TB RX12 := F
  have hx := F.1
  have hb := F.2.1
  have hl : lv_has ls 1 [(0, .int (zI x9))] := hl
  refine lv_iload_n hx hb wdX12_isBySyllables_0 rfl (lv_at hl 0 rfl) ?_
  refine z_if_eq (tgt := 10) hx hb (by omega) wdX12_isBySyllables_1 (by decide) (fun c1 => ?_) (fun c1 => ?_)
  · refine lv_iconst (v := zI 1) hx hb wdX12_isBySyllables_10 rfl ?_
    refine lv_goto (tgt := 15) hx hb wdX12_isBySyllables_11 (by decide) ?_
    exact e_z F w hr hlocks (nar_z (by omega)) ⟨Or.inl ⟨by omega, rfl⟩, rfl⟩ wdX12_isBySyllables_15
  · refine lv_iload_n hx hb wdX12_isBySyllables_4 rfl (lv_at hl 0 rfl) ?_
    refine lv_bipush (v := zI 8) hx hb wdX12_isBySyllables_5 (by decide) ?_
    refine z_icmp_lt (tgt := 14) hx hb (by omega) (by omega) wdX12_isBySyllables_7 (by decide) (fun c2 => ?_) (fun c2 => ?_)
    · refine lv_iconst (v := zI 0) hx hb wdX12_isBySyllables_14 rfl ?_
      exact e_z F w hr hlocks (nar_z (by omega)) ⟨Or.inr ⟨by omega, rfl⟩, rfl⟩ wdX12_isBySyllables_15
    · refine lv_iconst (v := zI 1) hx hb wdX12_isBySyllables_10 rfl ?_
      refine lv_goto (tgt := 15) hx hb wdX12_isBySyllables_11 (by decide) ?_
      exact e_z F w hr hlocks (nar_z (by omega)) ⟨Or.inl ⟨by omega, rfl⟩, rfl⟩ wdX12_isBySyllables_15
theorem wdX12_passesOnce_48 : decode cX12_passesOnce 48 = .ok (.iload 5, 2) := dqU kk_21 (by decide +kernel)
theorem wdX12_passesOnce_50 : decode cX12_passesOnce 50 = .ok (.aload_n 0, 1) := dq0 kk_42 (by decide +kernel)
theorem wdX12_passesOnce_51 : decode cX12_passesOnce 51 = .ok (.getfield 17, 3) := dqV kk_180 (by decide +kernel)
theorem wdX12_passesOnce_54 : decode cX12_passesOnce 54 = .ok (.bipush 25, 2) := dqS kk_16 (by decide +kernel)
theorem wdX12_passesOnce_56 : decode cX12_passesOnce 56 = .ok (.iaload, 1) := dq0 kk_46 (by decide +kernel)
theorem wdX12_passesOnce_57 : decode cX12_passesOnce 57 = .ok (.if_icmp .ge 102, 3) := dqT kk_162 (by decide +kernel)
theorem wdX12_passesOnce_60 : decode cX12_passesOnce 60 = .ok (.iload 4, 2) := dqU kk_21 (by decide +kernel)
theorem wdX12_passesOnce_62 : decode cX12_passesOnce 62 = .ok (.ifCond .eq 18, 3) := dqT kk_153 (by decide +kernel)
theorem wdX12_passesOnce_80 : decode cX12_passesOnce 80 = .ok (.iload 5, 2) := dqU kk_21 (by decide +kernel)
theorem wdX12_passesOnce_82 : decode cX12_passesOnce 82 = .ok (.istore 6, 2) := dqU kk_54 (by decide +kernel)
theorem wdX12_passesOnce_84 : decode cX12_passesOnce 84 = .ok (.iload_n 3, 1) := dq0 kk_29 (by decide +kernel)
theorem wdX12_passesOnce_85 : decode cX12_passesOnce 85 = .ok (.ifCond .ne 14, 3) := dqT kk_154 (by decide +kernel)
theorem wdX12_passesOnce_88 : decode cX12_passesOnce 88 = .ok (.aload_n 0, 1) := dq0 kk_42 (by decide +kernel)
theorem wdX12_passesOnce_89 : decode cX12_passesOnce 89 = .ok (.iload 6, 2) := dqU kk_21 (by decide +kernel)
theorem wdX12_passesOnce_91 : decode cX12_passesOnce 91 = .ok (.iload 4, 2) := dqU kk_21 (by decide +kernel)
theorem wdX12_passesOnce_93 : decode cX12_passesOnce 93 = .ok (.invokevirtual 143, 3) := dqV kk_182 (by decide +kernel)
theorem wtk_X12_links : Cond.code yX12_links cX12_links 5 none ∈ TB := tbm (tc6 (List.mem_of_getElem? (i := 64) rfl)) rfl
theorem wgc_X12_links : GoodIn TB (cw yX12_links cX12_links 5 none) := goodIn_c2 wtk_X12_links
theorem wtb_156 : Cond.methodLink "ToneLinesModel" 143 yX12_links ∈ TB := tbm (tc6 (List.mem_of_getElem? (i := 61) rfl)) rfl
theorem wtb_157 : Cond.instanceMethod yX12_links ∈ TB := tbm (tc6 (List.mem_of_getElem? (i := 63) rfl)) rfl
theorem wtb_158 : Cond.selects "ToneLinesModel" yX12_links yX12_links ∈ TB := tbp (List.mem_of_getElem? (i := 55) rfl) rfl
theorem wgv_X12_143 : GoodIn TB (wsV RX12 143 RX12 yX12_links (cw yX12_links cX12_links 5 none)) := goodIn_4 wtb_156 wtb_157 wtb_158 wtb_105 wgc_X12_links
theorem whv_X12_links : yX12_links.cls = RX12 ∧ yX12_links.cls ≠ "java/lang/invoke/MethodHandle" ∧ yX12_links.cls ≠ "java/lang/invoke/VarHandle" ∧ (parseMethodDescriptor yX12_links.desc).map (fun d => d.parameters.length) = some 2 := by decide +kernel
theorem wdX12_passesOnce_96 : decode cX12_passesOnce 96 = .ok (.goto 57, 3) := dqT kk_167 (by decide +kernel)
theorem wdX12_passesOnce_153 : decode cX12_passesOnce 153 = .ok (.iinc 5 1, 3) := dqI kk_132 (by decide +kernel)
theorem wdX12_passesOnce_156 : decode cX12_passesOnce 156 = .ok (.goto (-108), 3) := dqT kk_167 (by decide +kernel)
theorem wdX12_passesOnce_65 : decode cX12_passesOnce 65 = .ok (.aload_n 0, 1) := dq0 kk_42 (by decide +kernel)
theorem wdX12_passesOnce_66 : decode cX12_passesOnce 66 = .ok (.getfield 17, 3) := dqV kk_180 (by decide +kernel)
theorem wdX12_passesOnce_69 : decode cX12_passesOnce 69 = .ok (.bipush 25, 2) := dqS kk_16 (by decide +kernel)
theorem wdX12_passesOnce_71 : decode cX12_passesOnce 71 = .ok (.iaload, 1) := dq0 kk_46 (by decide +kernel)
theorem wdX12_passesOnce_72 : decode cX12_passesOnce 72 = .ok (.iconst 1, 1) := dq0 kk_4 (by decide +kernel)
theorem wdX12_passesOnce_73 : decode cX12_passesOnce 73 = .ok (.isub, 1) := dq0 kk_100 (by decide +kernel)
theorem wdX12_passesOnce_74 : decode cX12_passesOnce 74 = .ok (.iload 5, 2) := dqU kk_21 (by decide +kernel)
theorem wdX12_passesOnce_76 : decode cX12_passesOnce 76 = .ok (.isub, 1) := dq0 kk_100 (by decide +kernel)
theorem wdX12_passesOnce_77 : decode cX12_passesOnce 77 = .ok (.goto 5, 3) := dqT kk_167 (by decide +kernel)
set_option maxRecDepth 4000 in
theorem lp_X12_once_0 {p : Program} {l : Launch} {e : Env} {s : State} {m : MethodId} {args : Array Value} {below : List Frame} {meth : Method} {c : Code} {D : va_G} {B : Nat} {cy : Nat → ClassId} {H0 : Heap} {Q : State → Prop} {M : Mem} {R : Room} {q hv ed r : Nat} {o : Wo} {z9 : Int} {P : Nat → Int} (F : CallFix p m c cX12_passesOnce 7 s args TB RX12) (hR1 : 4 ≤ R.frames) (hR2 : 90 ≤ R.locals) (hr8 : r < 8) (hG : okG P) (hq0 : ∀ k, k < o.1 → o.2.2 k < 2 ^ q) (kk : ∀ (i : Nat) (Nm : Mem) (H : Heap) (locs : List Loc) (ls : Array Slot), (RW Nm q hv ed (o.1, o.2.1, (lkP o.1 q (sdP P) o.2.2 q).1) (z9 + (lkP o.1 q (sdP P) o.2.2 q).2)) → (FrC Nm M) → Wd D B cy s H0 Nm H locs → lv_has ls 7 [(0, .ref (B + 146))] → W p l e R s m args below meth c H locs 0 0 Q (F0 m 159 ls [])) : ∀ (f : Nat) (i : Nat) (Nm : Mem), (i ≤ q) → (RW Nm q hv ed (o.1, o.2.1, (lkP o.1 q (sdP P) o.2.2 i).1) (z9 + (lkP o.1 q (sdP P) o.2.2 i).2)) → (FrC Nm M) → (isV Nm r P) → (q ≤ i + f) → ∀ (H : Heap) (locs : List Loc) (ls : Array Slot), Wd D B cy s H0 Nm H locs → lv_has ls 7 [(5, .int (zI (i : Int))), (4, .int (zI (((sdP P) : Nat) : Int))), (3, .int (zI 0)), (2, .int (zI (((8 * r) : Nat) : Int))), (0, .ref (B + 146)), (1, .int (zI (r : Int)))] → W p l e R s m args below meth c H locs 0 0 Q (F0 m 48 ls []) := by
  have hx := F.1
  have hb := F.2.1
  have hP := hG.1
  have hg := hG.2.1
  have hz5 := hG.2.2
  have hP0 := hP 0 (by decide)
  have hP1 := hP 1 (by decide)
  have hP2 := hP 2 (by decide)
  have hP3 := hP 3 (by decide)
  have hP4 := hP 4 (by decide)
  have hP5 := hP 5 (by decide)
  have hP6 := hP 6 (by decide)
  have hP7 := hP 7 (by decide)
  have hsd := sd8 P
  have hlf := lf8 P
  intro f
  induction f with
  | zero =>
    intro i Nm i0 i1 i2 i3 hf H locs ls w hl
    have hW1 := i1.1
    have hwf1 := i1.wf
    have hKL1 := hwf1.2.2.2.2
    have hn1 : o.1 ≤ 12 := hwf1.1
    have hq1 := hwf1.2.1
    have hc1 := i1.2.2.2.2
    refine lv_iload hx hb wdX12_passesOnce_48 (lv_at hl 0 rfl) ?_
    refine lv_aload_n hx hb wdX12_passesOnce_50 rfl (lv_at hl 4 rfl) ?_
    refine f_12_2 F w (a := 146) rfl wtb_102 wdX12_passesOnce_51 ?_
    refine lv_bipush (v := zI 25) hx hb wdX12_passesOnce_54 (by decide) ?_
    refine g_iald F w (a := 148) rfl (j := 25) ⟨by decide, by decide⟩ (by omega) wdX12_passesOnce_56 ?_
    refine r_val (v := (zI (q : Int))) (hW1.2.1) ?_
    refine z_icmp_ge (tgt := 159) hx hb (by omega) (by omega) wdX12_passesOnce_57 (by decide) (fun c1 => ?_) (fun c1 => False.elim (by omega))
    exact kk i Nm _ _ ls (by have h9 : q = i := (by omega); subst h9; exact i1) i2 w (lv_sub hl [4] rfl)
  | succ f ih =>
    intro i Nm i0 i1 i2 i3 hf H locs ls w hl
    have hW1 := i1.1
    have hwf1 := i1.wf
    have hKL1 := hwf1.2.2.2.2
    have hn1 : o.1 ≤ 12 := hwf1.1
    have hq1 := hwf1.2.1
    have hc1 := i1.2.2.2.2
    refine lv_iload hx hb wdX12_passesOnce_48 (lv_at hl 0 rfl) ?_
    refine lv_aload_n hx hb wdX12_passesOnce_50 rfl (lv_at hl 4 rfl) ?_
    refine f_12_2 F w (a := 146) rfl wtb_102 wdX12_passesOnce_51 ?_
    refine lv_bipush (v := zI 25) hx hb wdX12_passesOnce_54 (by decide) ?_
    refine g_iald F w (a := 148) rfl (j := 25) ⟨by decide, by decide⟩ (by omega) wdX12_passesOnce_56 ?_
    refine r_val (v := (zI (q : Int))) (hW1.2.1) ?_
    refine z_icmp_ge (tgt := 159) hx hb (by omega) (by omega) wdX12_passesOnce_57 (by decide) (fun c1 => ?_) (fun c1 => ?_)
    · exact kk i Nm _ _ ls (by have h9 : q = i := (by omega); subst h9; exact i1) i2 w (lv_sub hl [4] rfl)
    · refine lv_iload hx hb wdX12_passesOnce_60 (lv_at hl 1 rfl) ?_
      refine z_if_eq (tgt := 80) hx hb (by omega) wdX12_passesOnce_62 (by decide) (fun c2 => ?_) (fun c2 => ?_)
      · refine lv_iload hx hb wdX12_passesOnce_80 (lv_at hl 0 rfl) ?_
        refine r_val (v := zI ((ixd (sdP P) q i : Nat) : Int)) (congrArg zI (by have h9 := ixd_0 (x := sdP P) (n := q) (k := i) (by omega); omega)) ?_
        have hix := ixd_lt (x := sdP P) (n := q) (k := i) (by omega)
        refine lv_istore (lv' := [(6, .int (zI (((ixd (sdP P) q i) : Nat) : Int))), (5, .int (zI (i : Int))), (4, .int (zI (((sdP P) : Nat) : Int))), (3, .int (zI 0)), (2, .int (zI (((8 * r) : Nat) : Int))), (0, .ref (B + 146)), (1, .int (zI (r : Int)))]) hx hb wdX12_passesOnce_82 hl (by decide) rfl (fun ls hl => ?_)
        refine lv_iload_n hx hb wdX12_passesOnce_84 rfl (lv_at hl 3 rfl) ?_
        refine z_if_ne (tgt := 99) hx hb (by omega) wdX12_passesOnce_85 (by decide) (fun c3 => False.elim (by omega)) (fun c3 => ?_)
        refine lv_aload_n hx hb wdX12_passesOnce_88 rfl (lv_at hl 5 rfl) ?_
        refine lv_iload hx hb wdX12_passesOnce_89 (lv_at hl 0 rfl) ?_
        refine lv_iload hx hb wdX12_passesOnce_91 (lv_at hl 2 rfl) ?_
        refine k_Vv F w (As := [.int (zI (((ixd (sdP P) q i) : Nat) : Int)), .int (zI (((sdP P) : Nat) : Int))]) (rest := []) (a := 146) (kd_lt (a := 146) (show kd 146 = (12, 0, 0) from rfl) (by decide)) (sh_12 rfl _ _) rfl (s_X12_links hW1 hwf1 hc1 (j := ixd (sdP P) q i) (x := sdP P) (by omega) (by omega)) wgv_X12_143 whv_X12_links ⟨(by omega), (by omega)⟩ hl.1 rfl (Nat.le_of_ble_eq_true rfl) ⟨Nat.zero_le _, Nat.zero_le _⟩ wdX12_passesOnce_93 (fun Ma4 H locs hp w => ?_)
        rcases hp with ⟨hW2, hc2, hF2⟩
        refine lv_goto (tgt := 153) hx hb wdX12_passesOnce_96 (by decide) ?_
        refine z_iinc (v := (((i + 1) : Nat) : Int)) (lv' := [(5, .int (zI (((i + 1) : Nat) : Int))), (6, .int (zI (((ixd (sdP P) q i) : Nat) : Int))), (4, .int (zI (((sdP P) : Nat) : Int))), (3, .int (zI 0)), (2, .int (zI (((8 * r) : Nat) : Int))), (0, .ref (B + 146)), (1, .int (zI (r : Int)))]) hx hb wdX12_passesOnce_153 hl (k := 1) rfl (by omega) (by decide) rfl (fun ls hl => ?_)
        refine lv_goto (tgt := 48) hx hb wdX12_passesOnce_156 (by decide) ?_
        exact ih (i + 1) Ma4 (by omega) ⟨by rw [lkP_1]; exact hW2, ⟨i1.2.1.1, i1.2.1.2.1, fun k hk => ⟨(i1.2.1.2.2 k hk).1, (lkP_ok hq0 (i + 1) (by omega)).1 k hk⟩⟩, i1.2.2.1, i1.2.2.2.1, by rw [lkP_2]; exact hc2.trans (congrArg zI (Int.add_assoc _ _ _))⟩ (FrC.tr i2 hF2) (i3.fr (hF2.1 149 (by decide) (by decide))) (by omega) _ _ ls w (lv_sub hl [0, 2, 3, 4, 5, 6] rfl)
      · refine lv_aload_n hx hb wdX12_passesOnce_65 rfl (lv_at hl 4 rfl) ?_
        refine f_12_2 F w (a := 146) rfl wtb_102 wdX12_passesOnce_66 ?_
        refine lv_bipush (v := zI 25) hx hb wdX12_passesOnce_69 (by decide) ?_
        refine g_iald F w (a := 148) rfl (j := 25) ⟨by decide, by decide⟩ (by omega) wdX12_passesOnce_71 ?_
        refine r_val (v := (zI (q : Int))) (hW1.2.1) ?_
        refine lv_iconst (v := zI 1) hx hb wdX12_passesOnce_72 rfl ?_
        refine z_isub (z := ((q : Int) - 1)) hx hb wdX12_passesOnce_73 (by omega) ?_
        refine lv_iload hx hb wdX12_passesOnce_74 (lv_at hl 0 rfl) ?_
        refine z_isub (z := (((q : Int) - 1) - (i : Int))) hx hb wdX12_passesOnce_76 (by omega) ?_
        refine lv_goto (tgt := 82) hx hb wdX12_passesOnce_77 (by decide) ?_
        refine r_val (v := zI ((ixd (sdP P) q i : Nat) : Int)) (congrArg zI (by have h9 := ixd_1 (x := sdP P) (n := q) (k := i) (by omega); omega)) ?_
        have hix := ixd_lt (x := sdP P) (n := q) (k := i) (by omega)
        refine lv_istore (lv' := [(6, .int (zI (((ixd (sdP P) q i) : Nat) : Int))), (5, .int (zI (i : Int))), (4, .int (zI (((sdP P) : Nat) : Int))), (3, .int (zI 0)), (2, .int (zI (((8 * r) : Nat) : Int))), (0, .ref (B + 146)), (1, .int (zI (r : Int)))]) hx hb wdX12_passesOnce_82 hl (by decide) rfl (fun ls hl => ?_)
        refine lv_iload_n hx hb wdX12_passesOnce_84 rfl (lv_at hl 3 rfl) ?_
        refine z_if_ne (tgt := 99) hx hb (by omega) wdX12_passesOnce_85 (by decide) (fun c5 => False.elim (by omega)) (fun c5 => ?_)
        refine lv_aload_n hx hb wdX12_passesOnce_88 rfl (lv_at hl 5 rfl) ?_
        refine lv_iload hx hb wdX12_passesOnce_89 (lv_at hl 0 rfl) ?_
        refine lv_iload hx hb wdX12_passesOnce_91 (lv_at hl 2 rfl) ?_
        refine k_Vv F w (As := [.int (zI (((ixd (sdP P) q i) : Nat) : Int)), .int (zI (((sdP P) : Nat) : Int))]) (rest := []) (a := 146) (kd_lt (a := 146) (show kd 146 = (12, 0, 0) from rfl) (by decide)) (sh_12 rfl _ _) rfl (s_X12_links hW1 hwf1 hc1 (j := ixd (sdP P) q i) (x := sdP P) (by omega) (by omega)) wgv_X12_143 whv_X12_links ⟨(by omega), (by omega)⟩ hl.1 rfl (Nat.le_of_ble_eq_true rfl) ⟨Nat.zero_le _, Nat.zero_le _⟩ wdX12_passesOnce_93 (fun Ma6 H locs hp w => ?_)
        rcases hp with ⟨hW2, hc2, hF2⟩
        refine lv_goto (tgt := 153) hx hb wdX12_passesOnce_96 (by decide) ?_
        refine z_iinc (v := (((i + 1) : Nat) : Int)) (lv' := [(5, .int (zI (((i + 1) : Nat) : Int))), (6, .int (zI (((ixd (sdP P) q i) : Nat) : Int))), (4, .int (zI (((sdP P) : Nat) : Int))), (3, .int (zI 0)), (2, .int (zI (((8 * r) : Nat) : Int))), (0, .ref (B + 146)), (1, .int (zI (r : Int)))]) hx hb wdX12_passesOnce_153 hl (k := 1) rfl (by omega) (by decide) rfl (fun ls hl => ?_)
        refine lv_goto (tgt := 48) hx hb wdX12_passesOnce_156 (by decide) ?_
        exact ih (i + 1) Ma6 (by omega) ⟨by rw [lkP_1]; exact hW2, ⟨i1.2.1.1, i1.2.1.2.1, fun k hk => ⟨(i1.2.1.2.2 k hk).1, (lkP_ok hq0 (i + 1) (by omega)).1 k hk⟩⟩, i1.2.2.1, i1.2.2.2.1, by rw [lkP_2]; exact hc2.trans (congrArg zI (Int.add_assoc _ _ _))⟩ (FrC.tr i2 hF2) (i3.fr (hF2.1 149 (by decide) (by decide))) (by omega) _ _ ls w (lv_sub hl [0, 2, 3, 4, 5, 6] rfl)
theorem wdX12_passesOnce_0 : decode cX12_passesOnce 0 = .ok (.bipush 8, 2) := dqS kk_16 (by decide +kernel)
theorem wdX12_passesOnce_2 : decode cX12_passesOnce 2 = .ok (.iload_n 1, 1) := dq0 kk_27 (by decide +kernel)
theorem wdX12_passesOnce_3 : decode cX12_passesOnce 3 = .ok (.imul, 1) := dq0 kk_104 (by decide +kernel)
theorem wdX12_passesOnce_4 : decode cX12_passesOnce 4 = .ok (.istore_n 2, 1) := dq0 kk_61 (by decide +kernel)
theorem wdX12_passesOnce_5 : decode cX12_passesOnce 5 = .ok (.aload_n 0, 1) := dq0 kk_42 (by decide +kernel)
theorem wdX12_passesOnce_6 : decode cX12_passesOnce 6 = .ok (.getfield 20, 3) := dqV kk_180 (by decide +kernel)
theorem wdX12_passesOnce_9 : decode cX12_passesOnce 9 = .ok (.iload_n 2, 1) := dq0 kk_28 (by decide +kernel)
theorem wdX12_passesOnce_10 : decode cX12_passesOnce 10 = .ok (.iaload, 1) := dq0 kk_46 (by decide +kernel)
theorem wdX12_passesOnce_11 : decode cX12_passesOnce 11 = .ok (.istore_n 3, 1) := dq0 kk_62 (by decide +kernel)
theorem wdX12_passesOnce_12 : decode cX12_passesOnce 12 = .ok (.iload_n 3, 1) := dq0 kk_29 (by decide +kernel)
theorem wdX12_passesOnce_13 : decode cX12_passesOnce 13 = .ok (.invokestatic 137, 3) := dqV kk_184 (by decide +kernel)
theorem wtk_X12_hasSide : Cond.code yX12_hasSide cX12_hasSide 1 (some .boolean) ∈ TB := rtk_X12_hasSide
theorem wgc_X12_hasSide : GoodIn TB (cw yX12_hasSide cX12_hasSide 1 (some .boolean)) := goodIn_c2 wtk_X12_hasSide
theorem wtb_159 : Cond.methodLink "ToneLinesModel" 137 yX12_hasSide ∈ TB := rtb_150
theorem wtb_160 : Cond.static yX12_hasSide ∈ TB := rtb_151
theorem wgs_X12_137 : GoodIn TB (va_wsS RX12 137 yX12_hasSide (cw yX12_hasSide cX12_hasSide 1 (some .boolean))) := goodIn_3 wtb_159 wtb_160 wtb_105 wgc_X12_hasSide
theorem whs_X12_hasSide : yX12_hasSide.cls ≠ "java/lang/invoke/MethodHandle" ∧ yX12_hasSide.cls ≠ "java/lang/invoke/VarHandle" ∧ (parseMethodDescriptor yX12_hasSide.desc).map (fun d => d.parameters.length) = some 1 := rhs_X12_hasSide
theorem wdX12_passesOnce_16 : decode cX12_passesOnce 16 = .ok (.ifCond .eq 19, 3) := dqT kk_153 (by decide +kernel)
theorem wdX12_passesOnce_19 : decode cX12_passesOnce 19 = .ok (.aload_n 0, 1) := dq0 kk_42 (by decide +kernel)
theorem wdX12_passesOnce_20 : decode cX12_passesOnce 20 = .ok (.getfield 20, 3) := dqV kk_180 (by decide +kernel)
theorem wdX12_passesOnce_23 : decode cX12_passesOnce 23 = .ok (.iload_n 2, 1) := dq0 kk_28 (by decide +kernel)
theorem wdX12_passesOnce_24 : decode cX12_passesOnce 24 = .ok (.iconst 4, 1) := dq0 kk_7 (by decide +kernel)
theorem wdX12_passesOnce_25 : decode cX12_passesOnce 25 = .ok (.iadd, 1) := dq0 kk_96 (by decide +kernel)
theorem wdX12_passesOnce_26 : decode cX12_passesOnce 26 = .ok (.iaload, 1) := dq0 kk_46 (by decide +kernel)
theorem wdX12_passesOnce_27 : decode cX12_passesOnce 27 = .ok (.iconst 1, 1) := dq0 kk_4 (by decide +kernel)
theorem wdX12_passesOnce_28 : decode cX12_passesOnce 28 = .ok (.if_icmp .ne 7, 3) := dqT kk_160 (by decide +kernel)
theorem wdX12_passesOnce_35 : decode cX12_passesOnce 35 = .ok (.iconst 0, 1) := dq0 kk_3 (by decide +kernel)
theorem wdX12_passesOnce_36 : decode cX12_passesOnce 36 = .ok (.istore 4, 2) := dqU kk_54 (by decide +kernel)
theorem wdX12_passesOnce_38 : decode cX12_passesOnce 38 = .ok (.iload_n 3, 1) := dq0 kk_29 (by decide +kernel)
theorem wdX12_passesOnce_39 : decode cX12_passesOnce 39 = .ok (.invokestatic 140, 3) := dqV kk_184 (by decide +kernel)
theorem wtk_X12_isBySyllables : Cond.code yX12_isBySyllables cX12_isBySyllables 1 (some .boolean) ∈ TB := rtk_X12_isBySyllables
theorem wgc_X12_isBySyllables : GoodIn TB (cw yX12_isBySyllables cX12_isBySyllables 1 (some .boolean)) := goodIn_c2 wtk_X12_isBySyllables
theorem wtb_161 : Cond.methodLink "ToneLinesModel" 140 yX12_isBySyllables ∈ TB := rtb_152
theorem wtb_162 : Cond.static yX12_isBySyllables ∈ TB := rtb_153
theorem wgs_X12_140 : GoodIn TB (va_wsS RX12 140 yX12_isBySyllables (cw yX12_isBySyllables cX12_isBySyllables 1 (some .boolean))) := goodIn_3 wtb_161 wtb_162 wtb_105 wgc_X12_isBySyllables
theorem whs_X12_isBySyllables : yX12_isBySyllables.cls ≠ "java/lang/invoke/MethodHandle" ∧ yX12_isBySyllables.cls ≠ "java/lang/invoke/VarHandle" ∧ (parseMethodDescriptor yX12_isBySyllables.desc).map (fun d => d.parameters.length) = some 1 := rhs_X12_isBySyllables
theorem wdX12_passesOnce_42 : decode cX12_passesOnce 42 = .ok (.ifCond .eq 118, 3) := dqT kk_153 (by decide +kernel)
theorem wdX12_passesOnce_45 : decode cX12_passesOnce 45 = .ok (.iconst 0, 1) := dq0 kk_3 (by decide +kernel)
theorem wdX12_passesOnce_46 : decode cX12_passesOnce 46 = .ok (.istore 5, 2) := dqU kk_54 (by decide +kernel)
theorem wdX12_passesOnce_159 : decode cX12_passesOnce 159 = .ok (.return_, 1) := dq0 kk_177 (by decide +kernel)
theorem wdX12_passesOnce_31 : decode cX12_passesOnce 31 = .ok (.iconst 1, 1) := dq0 kk_4 (by decide +kernel)
theorem wdX12_passesOnce_32 : decode cX12_passesOnce 32 = .ok (.goto 4, 3) := dqT kk_167 (by decide +kernel)
set_option maxRecDepth 4000 in
theorem s_X12_once_0 {l : Launch} {D : va_G} {B : Nat} {cy : Nat → ClassId} {M : Mem} {q hv ed : Nat} {o : Wo} {z9 : Int} (hR : RW M q hv ed o z9) {r : Nat} {P : Nat → Int} (hr8 : r < 8) (hV : isV M r P) (hG : okG P) (h0 : P 0 = 0) : Cv l D B cy yX12_passesOnce cX12_passesOnce 7 4 90 [.ref (B + 146), .int (zI (r : Int))] M (fun M1 => RQ q hv ed (paF P q hv ed o) 1884 z9 M M1) := by
  refine s_any (by decide) (Nat.le_of_ble_eq_true rfl) ?_
  intro p e s m below meth c ls F hr hlocks w hl
  have F : CallFix p m c cX12_passesOnce 7 s _ TB RX12 := F
  have hx := F.1
  have hb := F.2.1
  have hl : lv_has ls 7 [(0, .ref (B + 146)), (1, .int (zI (r : Int)))] := hl
  have hW := hR.1
  have hwf := hR.wf
  have hKL := hwf.2.2.2.2
  have hn12 := hwf.1
  have hq12 := hwf.2.1
  have hhv := hwf.2.2.1
  have hed := hwf.2.2.2.1
  have hc := hR.2.2.2.2
  have hP := hG.1
  have hg := hG.2.1
  have hz5 := hG.2.2
  have hP0 := hP 0 (by decide)
  have hP1 := hP 1 (by decide)
  have hP2 := hP 2 (by decide)
  have hP3 := hP 3 (by decide)
  have hP4 := hP 4 (by decide)
  have hP5 := hP 5 (by decide)
  have hP6 := hP 6 (by decide)
  have hP7 := hP 7 (by decide)
  have hsd := sd8 P
  have hlf := lf8 P
  refine lv_bipush (v := zI 8) hx hb wdX12_passesOnce_0 (by decide) ?_
  refine lv_iload_n hx hb wdX12_passesOnce_2 rfl (lv_at hl 1 rfl) ?_
  refine z_imul (z := (((8 * r) : Nat) : Int)) hx hb wdX12_passesOnce_3 (by omega) ?_
  refine lv_istore_n (lv' := [(2, .int (zI (((8 * r) : Nat) : Int))), (0, .ref (B + 146)), (1, .int (zI (r : Int)))]) hx hb wdX12_passesOnce_4 rfl hl (by decide) rfl (fun ls hl => ?_)
  refine lv_aload_n hx hb wdX12_passesOnce_5 rfl (lv_at hl 1 rfl) ?_
  refine f_12_4 F w (a := 146) rfl wtb_114 wdX12_passesOnce_6 ?_
  refine lv_iload_n hx hb wdX12_passesOnce_9 rfl (lv_at hl 0 rfl) ?_
  refine g_iald F w (a := 149) rfl (j := (8 * r)) (ix_n (by omega)) (by omega) wdX12_passesOnce_10 ?_
  refine r_val (v := (zI (P 0))) (hV 0 (by decide)) ?_
  refine r_val (v := (zI 0)) (congrArg zI h0) ?_
  refine lv_istore_n (lv' := [(3, .int (zI 0)), (2, .int (zI (((8 * r) : Nat) : Int))), (0, .ref (B + 146)), (1, .int (zI (r : Int)))]) hx hb wdX12_passesOnce_11 rfl hl (by decide) rfl (fun ls hl => ?_)
  refine lv_iload_n hx hb wdX12_passesOnce_12 rfl (lv_at hl 0 rfl) ?_
  refine k_Si F w (As := [.int (zI 0)]) (rest := []) (s_X12_hasSide (x9 := 0) (by omega)) wgs_X12_137 whs_X12_hasSide ⟨(Nat.le_of_ble_eq_true rfl), (Nat.le_of_ble_eq_true rfl)⟩ hl.1 rfl (Nat.le_of_ble_eq_true rfl) ⟨Nat.zero_le _, Nat.zero_le _⟩ wdX12_passesOnce_13 (fun r Ma2 H locs hp w => ?_)
  rcases hp with ⟨⟨hb1, rfl⟩ | ⟨hb1, rfl⟩, hMe⟩
  · rw [hMe] at w
    refine z_if_eq (tgt := 35) hx hb (by omega) wdX12_passesOnce_16 (by decide) (fun c3 => False.elim (by omega)) (fun c3 => ?_)
    refine lv_aload_n hx hb wdX12_passesOnce_19 rfl (lv_at hl 2 rfl) ?_
    refine f_12_4 F w (a := 146) rfl wtb_114 wdX12_passesOnce_20 ?_
    refine lv_iload_n hx hb wdX12_passesOnce_23 rfl (lv_at hl 1 rfl) ?_
    refine lv_iconst (v := zI 4) hx hb wdX12_passesOnce_24 rfl ?_
    refine z_iadd (z := ((((8 * r) + 4) : Nat) : Int)) hx hb wdX12_passesOnce_25 (by omega) ?_
    refine g_iald F w (a := 149) rfl (j := ((8 * r) + 4)) (ix_n (by omega)) (by omega) wdX12_passesOnce_26 ?_
    refine r_val (v := (zI (P 4))) (hV 4 (by decide)) ?_
    refine lv_iconst (v := zI 1) hx hb wdX12_passesOnce_27 rfl ?_
    refine z_icmp_ne (tgt := 35) hx hb (by omega) (by omega) wdX12_passesOnce_28 (by decide) (fun c4 => ?_) (fun c4 => ?_)
    · refine lv_iconst (v := zI 0) hx hb wdX12_passesOnce_35 rfl ?_
      refine r_val (v := zI (((sdP P) : Nat) : Int)) (congrArg zI (by omega)) ?_
      refine lv_istore (lv' := [(4, .int (zI (((sdP P) : Nat) : Int))), (3, .int (zI 0)), (2, .int (zI (((8 * r) : Nat) : Int))), (0, .ref (B + 146)), (1, .int (zI (r : Int)))]) hx hb wdX12_passesOnce_36 hl (by decide) rfl (fun ls hl => ?_)
      refine lv_iload_n hx hb wdX12_passesOnce_38 rfl (lv_at hl 1 rfl) ?_
      refine k_Si F w (As := [.int (zI 0)]) (rest := []) (s_X12_isBySyllables (x9 := 0) (by omega)) wgs_X12_140 whs_X12_isBySyllables ⟨(Nat.le_of_ble_eq_true rfl), (Nat.le_of_ble_eq_true rfl)⟩ hl.1 rfl (Nat.le_of_ble_eq_true rfl) ⟨Nat.zero_le _, Nat.zero_le _⟩ wdX12_passesOnce_39 (fun r Ma6 H locs hp w => ?_)
      rcases hp with ⟨⟨hb5, rfl⟩ | ⟨hb5, rfl⟩, hMe⟩
      · rw [hMe] at w
        refine z_if_eq (tgt := 160) hx hb (by omega) wdX12_passesOnce_42 (by decide) (fun c7 => False.elim (by omega)) (fun c7 => ?_)
        refine lv_iconst (v := zI 0) hx hb wdX12_passesOnce_45 rfl ?_
        refine lv_istore (lv' := [(5, .int (zI 0)), (4, .int (zI (((sdP P) : Nat) : Int))), (3, .int (zI 0)), (2, .int (zI (((8 * r) : Nat) : Int))), (0, .ref (B + 146)), (1, .int (zI (r : Int)))]) hx hb wdX12_passesOnce_46 hl (by decide) rfl (fun ls hl => ?_)
        refine lp_X12_once_0 (z9 := z9) F (Nat.le_of_ble_eq_true rfl) (Nat.le_of_ble_eq_true rfl) hr8 hG (fun k hk => (hR.2.1.2.2 k hk).2) (fun i Nm H locs ls x0 x1 w hl => ?_) q 0 M (by omega) (hR.e rfl (by rw [lkP]; omega)) FrC.rf hV (by omega) _ _ ls w (lv_sub hl [0, 1, 2, 3, 4, 5] rfl)
        exact e_v F w hr hlocks ⟨_, _, paF_0 h0, x0.e rfl (by have h9 := lkP_ok (n := o.1) (q := q) (x := sdP P) (L := o.2.2) (fun k hk => (hR.2.1.2.2 k hk).2) q (Nat.le_refl q); omega), x1, by have h9 := lkP_ok (n := o.1) (q := q) (x := sdP P) (L := o.2.2) (fun k hk => (hR.2.1.2.2 k hk).2) q (Nat.le_refl q); omega⟩ wdX12_passesOnce_159
      · exact False.elim (by omega)
    · refine lv_iconst (v := zI 1) hx hb wdX12_passesOnce_31 rfl ?_
      refine lv_goto (tgt := 36) hx hb wdX12_passesOnce_32 (by decide) ?_
      refine r_val (v := zI (((sdP P) : Nat) : Int)) (congrArg zI (by omega)) ?_
      refine lv_istore (lv' := [(4, .int (zI (((sdP P) : Nat) : Int))), (3, .int (zI 0)), (2, .int (zI (((8 * r) : Nat) : Int))), (0, .ref (B + 146)), (1, .int (zI (r : Int)))]) hx hb wdX12_passesOnce_36 hl (by decide) rfl (fun ls hl => ?_)
      refine lv_iload_n hx hb wdX12_passesOnce_38 rfl (lv_at hl 1 rfl) ?_
      refine k_Si F w (As := [.int (zI 0)]) (rest := []) (s_X12_isBySyllables (x9 := 0) (by omega)) wgs_X12_140 whs_X12_isBySyllables ⟨(Nat.le_of_ble_eq_true rfl), (Nat.le_of_ble_eq_true rfl)⟩ hl.1 rfl (Nat.le_of_ble_eq_true rfl) ⟨Nat.zero_le _, Nat.zero_le _⟩ wdX12_passesOnce_39 (fun r Ma9 H locs hp w => ?_)
      rcases hp with ⟨⟨hb8, rfl⟩ | ⟨hb8, rfl⟩, hMe⟩
      · rw [hMe] at w
        refine z_if_eq (tgt := 160) hx hb (by omega) wdX12_passesOnce_42 (by decide) (fun c10 => False.elim (by omega)) (fun c10 => ?_)
        refine lv_iconst (v := zI 0) hx hb wdX12_passesOnce_45 rfl ?_
        refine lv_istore (lv' := [(5, .int (zI 0)), (4, .int (zI (((sdP P) : Nat) : Int))), (3, .int (zI 0)), (2, .int (zI (((8 * r) : Nat) : Int))), (0, .ref (B + 146)), (1, .int (zI (r : Int)))]) hx hb wdX12_passesOnce_46 hl (by decide) rfl (fun ls hl => ?_)
        refine lp_X12_once_0 (z9 := z9) F (Nat.le_of_ble_eq_true rfl) (Nat.le_of_ble_eq_true rfl) hr8 hG (fun k hk => (hR.2.1.2.2 k hk).2) (fun i Nm H locs ls x0 x1 w hl => ?_) q 0 M (by omega) (hR.e rfl (by rw [lkP]; omega)) FrC.rf hV (by omega) _ _ ls w (lv_sub hl [0, 1, 2, 3, 4, 5] rfl)
        exact e_v F w hr hlocks ⟨_, _, paF_0 h0, x0.e rfl (by have h9 := lkP_ok (n := o.1) (q := q) (x := sdP P) (L := o.2.2) (fun k hk => (hR.2.1.2.2 k hk).2) q (Nat.le_refl q); omega), x1, by have h9 := lkP_ok (n := o.1) (q := q) (x := sdP P) (L := o.2.2) (fun k hk => (hR.2.1.2.2 k hk).2) q (Nat.le_refl q); omega⟩ wdX12_passesOnce_159
      · exact False.elim (by omega)
  · exact False.elim (by omega)
theorem wdX12_passesOnce_99 : decode cX12_passesOnce 99 = .ok (.iload_n 3, 1) := dq0 kk_29 (by decide +kernel)
theorem wdX12_passesOnce_100 : decode cX12_passesOnce 100 = .ok (.bipush 8, 2) := dqS kk_16 (by decide +kernel)
theorem wdX12_passesOnce_102 : decode cX12_passesOnce 102 = .ok (.if_icmp .ne 37, 3) := dqT kk_160 (by decide +kernel)
theorem wdX12_passesOnce_105 : decode cX12_passesOnce 105 = .ok (.aload_n 0, 1) := dq0 kk_42 (by decide +kernel)
theorem wdX12_passesOnce_106 : decode cX12_passesOnce 106 = .ok (.iload 6, 2) := dqU kk_21 (by decide +kernel)
theorem wdX12_passesOnce_108 : decode cX12_passesOnce 108 = .ok (.aload_n 0, 1) := dq0 kk_42 (by decide +kernel)
theorem wdX12_passesOnce_109 : decode cX12_passesOnce 109 = .ok (.getfield 20, 3) := dqV kk_180 (by decide +kernel)
theorem wdX12_passesOnce_112 : decode cX12_passesOnce 112 = .ok (.iload_n 2, 1) := dq0 kk_28 (by decide +kernel)
theorem wdX12_passesOnce_113 : decode cX12_passesOnce 113 = .ok (.iconst 3, 1) := dq0 kk_6 (by decide +kernel)
theorem wdX12_passesOnce_114 : decode cX12_passesOnce 114 = .ok (.iadd, 1) := dq0 kk_96 (by decide +kernel)
theorem wdX12_passesOnce_115 : decode cX12_passesOnce 115 = .ok (.iaload, 1) := dq0 kk_46 (by decide +kernel)
theorem wdX12_passesOnce_116 : decode cX12_passesOnce 116 = .ok (.aload_n 0, 1) := dq0 kk_42 (by decide +kernel)
theorem wdX12_passesOnce_117 : decode cX12_passesOnce 117 = .ok (.getfield 20, 3) := dqV kk_180 (by decide +kernel)
theorem wdX12_passesOnce_120 : decode cX12_passesOnce 120 = .ok (.iload_n 2, 1) := dq0 kk_28 (by decide +kernel)
theorem wdX12_passesOnce_121 : decode cX12_passesOnce 121 = .ok (.iconst 4, 1) := dq0 kk_7 (by decide +kernel)
theorem wdX12_passesOnce_122 : decode cX12_passesOnce 122 = .ok (.iadd, 1) := dq0 kk_96 (by decide +kernel)
theorem wdX12_passesOnce_123 : decode cX12_passesOnce 123 = .ok (.iaload, 1) := dq0 kk_46 (by decide +kernel)
theorem wdX12_passesOnce_124 : decode cX12_passesOnce 124 = .ok (.iconst 1, 1) := dq0 kk_4 (by decide +kernel)
theorem wdX12_passesOnce_125 : decode cX12_passesOnce 125 = .ok (.if_icmp .ne 7, 3) := dqT kk_160 (by decide +kernel)
theorem wdX12_passesOnce_132 : decode cX12_passesOnce 132 = .ok (.iconst 0, 1) := dq0 kk_3 (by decide +kernel)
theorem wdX12_passesOnce_133 : decode cX12_passesOnce 133 = .ok (.invokevirtual 146, 3) := dqV kk_182 (by decide +kernel)
theorem wtk_X12_flattens : Cond.code yX12_flattens cX12_flattens 6 none ∈ TB := tbm (tc6 (List.mem_of_getElem? (i := 79) rfl)) rfl
theorem wgc_X12_flattens : GoodIn TB (cw yX12_flattens cX12_flattens 6 none) := goodIn_c2 wtk_X12_flattens
theorem wtb_163 : Cond.methodLink "ToneLinesModel" 146 yX12_flattens ∈ TB := tbm (tc6 (List.mem_of_getElem? (i := 76) rfl)) rfl
theorem wtb_164 : Cond.instanceMethod yX12_flattens ∈ TB := tbm (tc6 (List.mem_of_getElem? (i := 78) rfl)) rfl
theorem wtb_165 : Cond.selects "ToneLinesModel" yX12_flattens yX12_flattens ∈ TB := tbp (List.mem_of_getElem? (i := 58) rfl) rfl
theorem wgv_X12_146 : GoodIn TB (wsV RX12 146 RX12 yX12_flattens (cw yX12_flattens cX12_flattens 6 none)) := goodIn_4 wtb_163 wtb_164 wtb_165 wtb_105 wgc_X12_flattens
theorem whv_X12_flattens : yX12_flattens.cls = RX12 ∧ yX12_flattens.cls ≠ "java/lang/invoke/MethodHandle" ∧ yX12_flattens.cls ≠ "java/lang/invoke/VarHandle" ∧ (parseMethodDescriptor yX12_flattens.desc).map (fun d => d.parameters.length) = some 3 := by decide +kernel
theorem wdX12_passesOnce_136 : decode cX12_passesOnce 136 = .ok (.goto 17, 3) := dqT kk_167 (by decide +kernel)
theorem wdX12_passesOnce_128 : decode cX12_passesOnce 128 = .ok (.iconst 1, 1) := dq0 kk_4 (by decide +kernel)
theorem wdX12_passesOnce_129 : decode cX12_passesOnce 129 = .ok (.goto 4, 3) := dqT kk_167 (by decide +kernel)
set_option maxRecDepth 4000 in
theorem lp_X12_once_8 {p : Program} {l : Launch} {e : Env} {s : State} {m : MethodId} {args : Array Value} {below : List Frame} {meth : Method} {c : Code} {D : va_G} {B : Nat} {cy : Nat → ClassId} {H0 : Heap} {Q : State → Prop} {M : Mem} {R : Room} {q hv ed r : Nat} {o : Wo} {z9 : Int} {P : Nat → Int} (F : CallFix p m c cX12_passesOnce 7 s args TB RX12) (hR1 : 3 ≤ R.frames) (hR2 : 69 ≤ R.locals) (hr8 : r < 8) (hG : okG P) (h0 : P 0 = 8) (kk : ∀ (s9 : Nat) (cc : Nat) (Nm : Mem) (o1 : Wo) (H : Heap) (locs : List Loc) (ls : Array Slot), (RW Nm q hv ed o1 (z9 + (cc : Int))) → (flP (sdP P) (Int.toNat (P 3)) q o = (o1, cc)) → (FrC Nm M) → (cc ≤ 144) → Wd D B cy s H0 Nm H locs → lv_has ls 7 [(0, .ref (B + 146))] → W p l e R s m args below meth c H locs 0 0 Q (F0 m 159 ls [])) : ∀ (f : Nat) (s9 : Nat) (cc : Nat) (Nm : Mem) (o1 : Wo), (s9 ≤ q) → (RW Nm q hv ed o1 (z9 + (cc : Int))) → (flP (sdP P) (Int.toNat (P 3)) s9 o = (o1, cc)) → (cc ≤ 12 * s9) → (FrC Nm M) → (isV Nm r P) → (q ≤ s9 + f) → ∀ (H : Heap) (locs : List Loc) (ls : Array Slot), Wd D B cy s H0 Nm H locs → lv_has ls 7 [(5, .int (zI (s9 : Int))), (4, .int (zI 0)), (3, .int (zI 8)), (2, .int (zI (((8 * r) : Nat) : Int))), (0, .ref (B + 146)), (1, .int (zI (r : Int)))] → W p l e R s m args below meth c H locs 0 0 Q (F0 m 48 ls []) := by
  have hx := F.1
  have hb := F.2.1
  have hP := hG.1
  have hg := hG.2.1
  have hz5 := hG.2.2
  have hP0 := hP 0 (by decide)
  have hP1 := hP 1 (by decide)
  have hP2 := hP 2 (by decide)
  have hP3 := hP 3 (by decide)
  have hP4 := hP 4 (by decide)
  have hP5 := hP 5 (by decide)
  have hP6 := hP 6 (by decide)
  have hP7 := hP 7 (by decide)
  have hsd := sd8 P
  have hlf := lf8 P
  intro f
  induction f with
  | zero =>
    intro s9 cc Nm o1 i0 i1 i2 i3 i4 i5 hf H locs ls w hl
    have hW1 := i1.1
    have hwf1 := i1.wf
    have hKL1 := hwf1.2.2.2.2
    have hn1 := hwf1.1
    have hq1 := hwf1.2.1
    have hc1 := i1.2.2.2.2
    refine lv_iload hx hb wdX12_passesOnce_48 (lv_at hl 0 rfl) ?_
    refine lv_aload_n hx hb wdX12_passesOnce_50 rfl (lv_at hl 4 rfl) ?_
    refine f_12_2 F w (a := 146) rfl wtb_102 wdX12_passesOnce_51 ?_
    refine lv_bipush (v := zI 25) hx hb wdX12_passesOnce_54 (by decide) ?_
    refine g_iald F w (a := 148) rfl (j := 25) ⟨by decide, by decide⟩ (by omega) wdX12_passesOnce_56 ?_
    refine r_val (v := (zI (q : Int))) (hW1.2.1) ?_
    refine z_icmp_ge (tgt := 159) hx hb (by omega) (by omega) wdX12_passesOnce_57 (by decide) (fun c1 => ?_) (fun c1 => False.elim (by omega))
    exact kk s9 cc Nm o1 _ _ ls i1 (by rw [show q = s9 by omega]; exact i2) i4 (by omega) w (lv_sub hl [4] rfl)
  | succ f ih =>
    intro s9 cc Nm o1 i0 i1 i2 i3 i4 i5 hf H locs ls w hl
    have hW1 := i1.1
    have hwf1 := i1.wf
    have hKL1 := hwf1.2.2.2.2
    have hn1 := hwf1.1
    have hq1 := hwf1.2.1
    have hc1 := i1.2.2.2.2
    refine lv_iload hx hb wdX12_passesOnce_48 (lv_at hl 0 rfl) ?_
    refine lv_aload_n hx hb wdX12_passesOnce_50 rfl (lv_at hl 4 rfl) ?_
    refine f_12_2 F w (a := 146) rfl wtb_102 wdX12_passesOnce_51 ?_
    refine lv_bipush (v := zI 25) hx hb wdX12_passesOnce_54 (by decide) ?_
    refine g_iald F w (a := 148) rfl (j := 25) ⟨by decide, by decide⟩ (by omega) wdX12_passesOnce_56 ?_
    refine r_val (v := (zI (q : Int))) (hW1.2.1) ?_
    refine z_icmp_ge (tgt := 159) hx hb (by omega) (by omega) wdX12_passesOnce_57 (by decide) (fun c1 => ?_) (fun c1 => ?_)
    · exact kk s9 cc Nm o1 _ _ ls i1 (by rw [show q = s9 by omega]; exact i2) i4 (by omega) w (lv_sub hl [4] rfl)
    · refine lv_iload hx hb wdX12_passesOnce_60 (lv_at hl 1 rfl) ?_
      refine z_if_eq (tgt := 80) hx hb (by omega) wdX12_passesOnce_62 (by decide) (fun c2 => ?_) (fun c2 => False.elim (by omega))
      refine lv_iload hx hb wdX12_passesOnce_80 (lv_at hl 0 rfl) ?_
      refine lv_istore (lv' := [(6, .int (zI (s9 : Int))), (5, .int (zI (s9 : Int))), (4, .int (zI 0)), (3, .int (zI 8)), (2, .int (zI (((8 * r) : Nat) : Int))), (0, .ref (B + 146)), (1, .int (zI (r : Int)))]) hx hb wdX12_passesOnce_82 hl (by decide) rfl (fun ls hl => ?_)
      refine lv_iload_n hx hb wdX12_passesOnce_84 rfl (lv_at hl 3 rfl) ?_
      refine z_if_ne (tgt := 99) hx hb (by omega) wdX12_passesOnce_85 (by decide) (fun c3 => ?_) (fun c3 => False.elim (by omega))
      refine lv_iload_n hx hb wdX12_passesOnce_99 rfl (lv_at hl 3 rfl) ?_
      refine lv_bipush (v := zI 8) hx hb wdX12_passesOnce_100 (by decide) ?_
      refine z_icmp_ne (tgt := 139) hx hb (by omega) (by omega) wdX12_passesOnce_102 (by decide) (fun c4 => False.elim (by omega)) (fun c4 => ?_)
      refine lv_aload_n hx hb wdX12_passesOnce_105 rfl (lv_at hl 5 rfl) ?_
      refine lv_iload hx hb wdX12_passesOnce_106 (lv_at hl 0 rfl) ?_
      refine lv_aload_n hx hb wdX12_passesOnce_108 rfl (lv_at hl 5 rfl) ?_
      refine f_12_4 F w (a := 146) rfl wtb_114 wdX12_passesOnce_109 ?_
      refine lv_iload_n hx hb wdX12_passesOnce_112 rfl (lv_at hl 4 rfl) ?_
      refine lv_iconst (v := zI 3) hx hb wdX12_passesOnce_113 rfl ?_
      refine z_iadd (z := ((((8 * r) + 3) : Nat) : Int)) hx hb wdX12_passesOnce_114 (by omega) ?_
      refine g_iald F w (a := 149) rfl (j := ((8 * r) + 3)) (ix_n (by omega)) (by omega) wdX12_passesOnce_115 ?_
      refine r_val (v := (zI (P 3))) (i5 3 (by decide)) ?_
      refine r_val (v := (zI (((Int.toNat (P 3)) : Nat) : Int))) (congrArg zI (by omega)) ?_
      refine lv_aload_n hx hb wdX12_passesOnce_116 rfl (lv_at hl 5 rfl) ?_
      refine f_12_4 F w (a := 146) rfl wtb_114 wdX12_passesOnce_117 ?_
      refine lv_iload_n hx hb wdX12_passesOnce_120 rfl (lv_at hl 4 rfl) ?_
      refine lv_iconst (v := zI 4) hx hb wdX12_passesOnce_121 rfl ?_
      refine z_iadd (z := ((((8 * r) + 4) : Nat) : Int)) hx hb wdX12_passesOnce_122 (by omega) ?_
      refine g_iald F w (a := 149) rfl (j := ((8 * r) + 4)) (ix_n (by omega)) (by omega) wdX12_passesOnce_123 ?_
      refine r_val (v := (zI (P 4))) (i5 4 (by decide)) ?_
      refine lv_iconst (v := zI 1) hx hb wdX12_passesOnce_124 rfl ?_
      refine z_icmp_ne (tgt := 132) hx hb (by omega) (by omega) wdX12_passesOnce_125 (by decide) (fun c5 => ?_) (fun c5 => ?_)
      · refine lv_iconst (v := zI 0) hx hb wdX12_passesOnce_132 rfl ?_
        refine r_val (v := zI ((sdP P : Nat) : Int)) (congrArg zI (by omega)) ?_
        refine k_Vv F w (As := [.int (zI (s9 : Int)), .int (zI (((Int.toNat (P 3)) : Nat) : Int)), .int (zI (((sdP P) : Nat) : Int))]) (rest := []) (a := 146) (kd_lt (a := 146) (show kd 146 = (12, 0, 0) from rfl) (by decide)) (sh_12 rfl _ _) rfl (s_X12_flattens i1 (s9 := s9) (n9 := Int.toNat (P 3)) (x := sdP P) (by omega) (by omega) (by omega) (by omega)) wgv_X12_146 whv_X12_flattens ⟨(by omega), (by omega)⟩ hl.1 rfl (Nat.le_of_ble_eq_true rfl) ⟨Nat.zero_le _, Nat.zero_le _⟩ wdX12_passesOnce_133 (fun Ma6 H locs hp w => ?_)
        rcases hp with ⟨o2, dd, e2, hR2, hF2, hd2⟩
        refine lv_goto (tgt := 153) hx hb wdX12_passesOnce_136 (by decide) ?_
        refine z_iinc (v := (((s9 + 1) : Nat) : Int)) (lv' := [(5, .int (zI (((s9 + 1) : Nat) : Int))), (6, .int (zI (s9 : Int))), (4, .int (zI 0)), (3, .int (zI 8)), (2, .int (zI (((8 * r) : Nat) : Int))), (0, .ref (B + 146)), (1, .int (zI (r : Int)))]) hx hb wdX12_passesOnce_153 hl (k := 1) rfl (by omega) (by decide) rfl (fun ls hl => ?_)
        refine lv_goto (tgt := 48) hx hb wdX12_passesOnce_156 (by decide) ?_
        exact ih (s9 + 1) (cc + dd) Ma6 o2 (by omega) (hR2.e rfl (by omega)) (flP_s i2 e2) (by omega) (FrC.tr i4 hF2) (i5.fr (hF2.1 149 (by decide) (by decide))) (by omega) _ _ ls w (lv_sub hl [0, 2, 3, 4, 5, 6] rfl)
      · refine lv_iconst (v := zI 1) hx hb wdX12_passesOnce_128 rfl ?_
        refine lv_goto (tgt := 133) hx hb wdX12_passesOnce_129 (by decide) ?_
        refine r_val (v := zI ((sdP P : Nat) : Int)) (congrArg zI (by omega)) ?_
        refine k_Vv F w (As := [.int (zI (s9 : Int)), .int (zI (((Int.toNat (P 3)) : Nat) : Int)), .int (zI (((sdP P) : Nat) : Int))]) (rest := []) (a := 146) (kd_lt (a := 146) (show kd 146 = (12, 0, 0) from rfl) (by decide)) (sh_12 rfl _ _) rfl (s_X12_flattens i1 (s9 := s9) (n9 := Int.toNat (P 3)) (x := sdP P) (by omega) (by omega) (by omega) (by omega)) wgv_X12_146 whv_X12_flattens ⟨(by omega), (by omega)⟩ hl.1 rfl (Nat.le_of_ble_eq_true rfl) ⟨Nat.zero_le _, Nat.zero_le _⟩ wdX12_passesOnce_133 (fun Ma7 H locs hp w => ?_)
        rcases hp with ⟨o2, dd, e2, hR2, hF2, hd2⟩
        refine lv_goto (tgt := 153) hx hb wdX12_passesOnce_136 (by decide) ?_
        refine z_iinc (v := (((s9 + 1) : Nat) : Int)) (lv' := [(5, .int (zI (((s9 + 1) : Nat) : Int))), (6, .int (zI (s9 : Int))), (4, .int (zI 0)), (3, .int (zI 8)), (2, .int (zI (((8 * r) : Nat) : Int))), (0, .ref (B + 146)), (1, .int (zI (r : Int)))]) hx hb wdX12_passesOnce_153 hl (k := 1) rfl (by omega) (by decide) rfl (fun ls hl => ?_)
        refine lv_goto (tgt := 48) hx hb wdX12_passesOnce_156 (by decide) ?_
        exact ih (s9 + 1) (cc + dd) Ma7 o2 (by omega) (hR2.e rfl (by omega)) (flP_s i2 e2) (by omega) (FrC.tr i4 hF2) (i5.fr (hF2.1 149 (by decide) (by decide))) (by omega) _ _ ls w (lv_sub hl [0, 2, 3, 4, 5, 6] rfl)
set_option maxRecDepth 4000 in
theorem s_X12_once_8 {l : Launch} {D : va_G} {B : Nat} {cy : Nat → ClassId} {M : Mem} {q hv ed : Nat} {o : Wo} {z9 : Int} (hR : RW M q hv ed o z9) {r : Nat} {P : Nat → Int} (hr8 : r < 8) (hV : isV M r P) (hG : okG P) (h0 : P 0 = 8) : Cv l D B cy yX12_passesOnce cX12_passesOnce 7 3 69 [.ref (B + 146), .int (zI (r : Int))] M (fun M1 => RQ q hv ed (paF P q hv ed o) 1884 z9 M M1) := by
  refine s_any (by decide) (Nat.le_of_ble_eq_true rfl) ?_
  intro p e s m below meth c ls F hr hlocks w hl
  have F : CallFix p m c cX12_passesOnce 7 s _ TB RX12 := F
  have hx := F.1
  have hb := F.2.1
  have hl : lv_has ls 7 [(0, .ref (B + 146)), (1, .int (zI (r : Int)))] := hl
  have hW := hR.1
  have hwf := hR.wf
  have hKL := hwf.2.2.2.2
  have hn12 := hwf.1
  have hq12 := hwf.2.1
  have hhv := hwf.2.2.1
  have hed := hwf.2.2.2.1
  have hc := hR.2.2.2.2
  have hP := hG.1
  have hg := hG.2.1
  have hz5 := hG.2.2
  have hP0 := hP 0 (by decide)
  have hP1 := hP 1 (by decide)
  have hP2 := hP 2 (by decide)
  have hP3 := hP 3 (by decide)
  have hP4 := hP 4 (by decide)
  have hP5 := hP 5 (by decide)
  have hP6 := hP 6 (by decide)
  have hP7 := hP 7 (by decide)
  have hsd := sd8 P
  have hlf := lf8 P
  refine lv_bipush (v := zI 8) hx hb wdX12_passesOnce_0 (by decide) ?_
  refine lv_iload_n hx hb wdX12_passesOnce_2 rfl (lv_at hl 1 rfl) ?_
  refine z_imul (z := (((8 * r) : Nat) : Int)) hx hb wdX12_passesOnce_3 (by omega) ?_
  refine lv_istore_n (lv' := [(2, .int (zI (((8 * r) : Nat) : Int))), (0, .ref (B + 146)), (1, .int (zI (r : Int)))]) hx hb wdX12_passesOnce_4 rfl hl (by decide) rfl (fun ls hl => ?_)
  refine lv_aload_n hx hb wdX12_passesOnce_5 rfl (lv_at hl 1 rfl) ?_
  refine f_12_4 F w (a := 146) rfl wtb_114 wdX12_passesOnce_6 ?_
  refine lv_iload_n hx hb wdX12_passesOnce_9 rfl (lv_at hl 0 rfl) ?_
  refine g_iald F w (a := 149) rfl (j := (8 * r)) (ix_n (by omega)) (by omega) wdX12_passesOnce_10 ?_
  refine r_val (v := (zI (P 0))) (hV 0 (by decide)) ?_
  refine r_val (v := (zI 8)) (congrArg zI h0) ?_
  refine lv_istore_n (lv' := [(3, .int (zI 8)), (2, .int (zI (((8 * r) : Nat) : Int))), (0, .ref (B + 146)), (1, .int (zI (r : Int)))]) hx hb wdX12_passesOnce_11 rfl hl (by decide) rfl (fun ls hl => ?_)
  refine lv_iload_n hx hb wdX12_passesOnce_12 rfl (lv_at hl 0 rfl) ?_
  refine k_Si F w (As := [.int (zI 8)]) (rest := []) (s_X12_hasSide (x9 := 8) (by omega)) wgs_X12_137 whs_X12_hasSide ⟨(Nat.le_of_ble_eq_true rfl), (Nat.le_of_ble_eq_true rfl)⟩ hl.1 rfl (Nat.le_of_ble_eq_true rfl) ⟨Nat.zero_le _, Nat.zero_le _⟩ wdX12_passesOnce_13 (fun r Ma2 H locs hp w => ?_)
  rcases hp with ⟨⟨hb1, rfl⟩ | ⟨hb1, rfl⟩, hMe⟩
  · exact False.elim (by omega)
  · rw [hMe] at w
    refine z_if_eq (tgt := 35) hx hb (by omega) wdX12_passesOnce_16 (by decide) (fun c3 => ?_) (fun c3 => False.elim (by omega))
    refine lv_iconst (v := zI 0) hx hb wdX12_passesOnce_35 rfl ?_
    refine r_val (v := zI 0) (congrArg zI (by omega)) ?_
    refine lv_istore (lv' := [(4, .int (zI 0)), (3, .int (zI 8)), (2, .int (zI (((8 * r) : Nat) : Int))), (0, .ref (B + 146)), (1, .int (zI (r : Int)))]) hx hb wdX12_passesOnce_36 hl (by decide) rfl (fun ls hl => ?_)
    refine lv_iload_n hx hb wdX12_passesOnce_38 rfl (lv_at hl 1 rfl) ?_
    refine k_Si F w (As := [.int (zI 8)]) (rest := []) (s_X12_isBySyllables (x9 := 8) (by omega)) wgs_X12_140 whs_X12_isBySyllables ⟨(Nat.le_of_ble_eq_true rfl), (Nat.le_of_ble_eq_true rfl)⟩ hl.1 rfl (Nat.le_of_ble_eq_true rfl) ⟨Nat.zero_le _, Nat.zero_le _⟩ wdX12_passesOnce_39 (fun r Ma5 H locs hp w => ?_)
    rcases hp with ⟨⟨hb4, rfl⟩ | ⟨hb4, rfl⟩, hMe⟩
    · rw [hMe] at w
      refine z_if_eq (tgt := 160) hx hb (by omega) wdX12_passesOnce_42 (by decide) (fun c6 => False.elim (by omega)) (fun c6 => ?_)
      refine lv_iconst (v := zI 0) hx hb wdX12_passesOnce_45 rfl ?_
      refine lv_istore (lv' := [(5, .int (zI 0)), (4, .int (zI 0)), (3, .int (zI 8)), (2, .int (zI (((8 * r) : Nat) : Int))), (0, .ref (B + 146)), (1, .int (zI (r : Int)))]) hx hb wdX12_passesOnce_46 hl (by decide) rfl (fun ls hl => ?_)
      refine lp_X12_once_8 (z9 := z9) F (Nat.le_of_ble_eq_true rfl) (Nat.le_of_ble_eq_true rfl) hr8 hG h0 (fun s9 cc Nm o1 H locs ls x0 x1 x2 x3 w hl => ?_) q 0 0 M o (by omega) (hR.e rfl (by omega)) rfl (by omega) FrC.rf hV (by omega) _ _ ls w (lv_sub hl [0, 1, 2, 3, 4, 5] rfl)
      exact e_v F w hr hlocks ⟨o1, cc, (paF_8 h0).trans x1, x0, x2, by omega⟩ wdX12_passesOnce_159
    · exact False.elim (by omega)
theorem wdX12_passesOnce_139 : decode cX12_passesOnce 139 = .ok (.aload_n 0, 1) := dq0 kk_42 (by decide +kernel)
theorem wdX12_passesOnce_140 : decode cX12_passesOnce 140 = .ok (.iload 6, 2) := dqU kk_21 (by decide +kernel)
theorem wdX12_passesOnce_142 : decode cX12_passesOnce 142 = .ok (.aload_n 0, 1) := dq0 kk_42 (by decide +kernel)
theorem wdX12_passesOnce_143 : decode cX12_passesOnce 143 = .ok (.getfield 20, 3) := dqV kk_180 (by decide +kernel)
theorem wdX12_passesOnce_146 : decode cX12_passesOnce 146 = .ok (.iload_n 2, 1) := dq0 kk_28 (by decide +kernel)
theorem wdX12_passesOnce_147 : decode cX12_passesOnce 147 = .ok (.iconst 2, 1) := dq0 kk_5 (by decide +kernel)
theorem wdX12_passesOnce_148 : decode cX12_passesOnce 148 = .ok (.iadd, 1) := dq0 kk_96 (by decide +kernel)
theorem wdX12_passesOnce_149 : decode cX12_passesOnce 149 = .ok (.iaload, 1) := dq0 kk_46 (by decide +kernel)
theorem wdX12_passesOnce_150 : decode cX12_passesOnce 150 = .ok (.invokevirtual 150, 3) := dqV kk_182 (by decide +kernel)
theorem wtk_X12_fills : Cond.code yX12_fills cX12_fills 5 none ∈ TB := tbm (tc6 (List.mem_of_getElem? (i := 90) rfl)) rfl
theorem wgc_X12_fills : GoodIn TB (cw yX12_fills cX12_fills 5 none) := goodIn_c2 wtk_X12_fills
theorem wtb_166 : Cond.methodLink "ToneLinesModel" 150 yX12_fills ∈ TB := tbm (tc6 (List.mem_of_getElem? (i := 87) rfl)) rfl
theorem wtb_167 : Cond.instanceMethod yX12_fills ∈ TB := tbm (tc6 (List.mem_of_getElem? (i := 89) rfl)) rfl
theorem wtb_168 : Cond.selects "ToneLinesModel" yX12_fills yX12_fills ∈ TB := tbp (List.mem_of_getElem? (i := 60) rfl) rfl
theorem wgv_X12_150 : GoodIn TB (wsV RX12 150 RX12 yX12_fills (cw yX12_fills cX12_fills 5 none)) := goodIn_4 wtb_166 wtb_167 wtb_168 wtb_105 wgc_X12_fills
theorem whv_X12_fills : yX12_fills.cls = RX12 ∧ yX12_fills.cls ≠ "java/lang/invoke/MethodHandle" ∧ yX12_fills.cls ≠ "java/lang/invoke/VarHandle" ∧ (parseMethodDescriptor yX12_fills.desc).map (fun d => d.parameters.length) = some 2 := by decide +kernel
set_option maxRecDepth 4000 in
theorem lp_X12_once_9 {p : Program} {l : Launch} {e : Env} {s : State} {m : MethodId} {args : Array Value} {below : List Frame} {meth : Method} {c : Code} {D : va_G} {B : Nat} {cy : Nat → ClassId} {H0 : Heap} {Q : State → Prop} {M : Mem} {R : Room} {q hv ed r : Nat} {o : Wo} {z9 : Int} {P : Nat → Int} (F : CallFix p m c cX12_passesOnce 7 s args TB RX12) (hR1 : 4 ≤ R.frames) (hR2 : 90 ≤ R.locals) (hr8 : r < 8) (hG : okG P) (h0 : P 0 = 9) (kk : ∀ (s9 : Nat) (cc : Nat) (Nm : Mem) (o1 : Wo) (H : Heap) (locs : List Loc) (ls : Array Slot), (RW Nm q hv ed o1 (z9 + (cc : Int))) → (fiP (Int.toNat (P 2)) q o = (o1, cc)) → (FrC Nm M) → (cc ≤ 144) → Wd D B cy s H0 Nm H locs → lv_has ls 7 [(0, .ref (B + 146))] → W p l e R s m args below meth c H locs 0 0 Q (F0 m 159 ls [])) : ∀ (f : Nat) (s9 : Nat) (cc : Nat) (Nm : Mem) (o1 : Wo), (s9 ≤ q) → (RW Nm q hv ed o1 (z9 + (cc : Int))) → (fiP (Int.toNat (P 2)) s9 o = (o1, cc)) → (cc ≤ 2 * s9) → (FrC Nm M) → (isV Nm r P) → (q ≤ s9 + f) → ∀ (H : Heap) (locs : List Loc) (ls : Array Slot), Wd D B cy s H0 Nm H locs → lv_has ls 7 [(5, .int (zI (s9 : Int))), (4, .int (zI 0)), (3, .int (zI 9)), (2, .int (zI (((8 * r) : Nat) : Int))), (0, .ref (B + 146)), (1, .int (zI (r : Int)))] → W p l e R s m args below meth c H locs 0 0 Q (F0 m 48 ls []) := by
  have hx := F.1
  have hb := F.2.1
  have hP := hG.1
  have hg := hG.2.1
  have hz5 := hG.2.2
  have hP0 := hP 0 (by decide)
  have hP1 := hP 1 (by decide)
  have hP2 := hP 2 (by decide)
  have hP3 := hP 3 (by decide)
  have hP4 := hP 4 (by decide)
  have hP5 := hP 5 (by decide)
  have hP6 := hP 6 (by decide)
  have hP7 := hP 7 (by decide)
  have hsd := sd8 P
  have hlf := lf8 P
  intro f
  induction f with
  | zero =>
    intro s9 cc Nm o1 i0 i1 i2 i3 i4 i5 hf H locs ls w hl
    have hW1 := i1.1
    have hwf1 := i1.wf
    have hKL1 := hwf1.2.2.2.2
    have hn1 := hwf1.1
    have hq1 := hwf1.2.1
    have hc1 := i1.2.2.2.2
    refine lv_iload hx hb wdX12_passesOnce_48 (lv_at hl 0 rfl) ?_
    refine lv_aload_n hx hb wdX12_passesOnce_50 rfl (lv_at hl 4 rfl) ?_
    refine f_12_2 F w (a := 146) rfl wtb_102 wdX12_passesOnce_51 ?_
    refine lv_bipush (v := zI 25) hx hb wdX12_passesOnce_54 (by decide) ?_
    refine g_iald F w (a := 148) rfl (j := 25) ⟨by decide, by decide⟩ (by omega) wdX12_passesOnce_56 ?_
    refine r_val (v := (zI (q : Int))) (hW1.2.1) ?_
    refine z_icmp_ge (tgt := 159) hx hb (by omega) (by omega) wdX12_passesOnce_57 (by decide) (fun c1 => ?_) (fun c1 => False.elim (by omega))
    exact kk s9 cc Nm o1 _ _ ls i1 (by rw [show q = s9 by omega]; exact i2) i4 (by omega) w (lv_sub hl [4] rfl)
  | succ f ih =>
    intro s9 cc Nm o1 i0 i1 i2 i3 i4 i5 hf H locs ls w hl
    have hW1 := i1.1
    have hwf1 := i1.wf
    have hKL1 := hwf1.2.2.2.2
    have hn1 := hwf1.1
    have hq1 := hwf1.2.1
    have hc1 := i1.2.2.2.2
    refine lv_iload hx hb wdX12_passesOnce_48 (lv_at hl 0 rfl) ?_
    refine lv_aload_n hx hb wdX12_passesOnce_50 rfl (lv_at hl 4 rfl) ?_
    refine f_12_2 F w (a := 146) rfl wtb_102 wdX12_passesOnce_51 ?_
    refine lv_bipush (v := zI 25) hx hb wdX12_passesOnce_54 (by decide) ?_
    refine g_iald F w (a := 148) rfl (j := 25) ⟨by decide, by decide⟩ (by omega) wdX12_passesOnce_56 ?_
    refine r_val (v := (zI (q : Int))) (hW1.2.1) ?_
    refine z_icmp_ge (tgt := 159) hx hb (by omega) (by omega) wdX12_passesOnce_57 (by decide) (fun c1 => ?_) (fun c1 => ?_)
    · exact kk s9 cc Nm o1 _ _ ls i1 (by rw [show q = s9 by omega]; exact i2) i4 (by omega) w (lv_sub hl [4] rfl)
    · refine lv_iload hx hb wdX12_passesOnce_60 (lv_at hl 1 rfl) ?_
      refine z_if_eq (tgt := 80) hx hb (by omega) wdX12_passesOnce_62 (by decide) (fun c2 => ?_) (fun c2 => False.elim (by omega))
      refine lv_iload hx hb wdX12_passesOnce_80 (lv_at hl 0 rfl) ?_
      refine lv_istore (lv' := [(6, .int (zI (s9 : Int))), (5, .int (zI (s9 : Int))), (4, .int (zI 0)), (3, .int (zI 9)), (2, .int (zI (((8 * r) : Nat) : Int))), (0, .ref (B + 146)), (1, .int (zI (r : Int)))]) hx hb wdX12_passesOnce_82 hl (by decide) rfl (fun ls hl => ?_)
      refine lv_iload_n hx hb wdX12_passesOnce_84 rfl (lv_at hl 3 rfl) ?_
      refine z_if_ne (tgt := 99) hx hb (by omega) wdX12_passesOnce_85 (by decide) (fun c3 => ?_) (fun c3 => False.elim (by omega))
      refine lv_iload_n hx hb wdX12_passesOnce_99 rfl (lv_at hl 3 rfl) ?_
      refine lv_bipush (v := zI 8) hx hb wdX12_passesOnce_100 (by decide) ?_
      refine z_icmp_ne (tgt := 139) hx hb (by omega) (by omega) wdX12_passesOnce_102 (by decide) (fun c4 => ?_) (fun c4 => False.elim (by omega))
      refine lv_aload_n hx hb wdX12_passesOnce_139 rfl (lv_at hl 5 rfl) ?_
      refine lv_iload hx hb wdX12_passesOnce_140 (lv_at hl 0 rfl) ?_
      refine lv_aload_n hx hb wdX12_passesOnce_142 rfl (lv_at hl 5 rfl) ?_
      refine f_12_4 F w (a := 146) rfl wtb_114 wdX12_passesOnce_143 ?_
      refine lv_iload_n hx hb wdX12_passesOnce_146 rfl (lv_at hl 4 rfl) ?_
      refine lv_iconst (v := zI 2) hx hb wdX12_passesOnce_147 rfl ?_
      refine z_iadd (z := ((((8 * r) + 2) : Nat) : Int)) hx hb wdX12_passesOnce_148 (by omega) ?_
      refine g_iald F w (a := 149) rfl (j := ((8 * r) + 2)) (ix_n (by omega)) (by omega) wdX12_passesOnce_149 ?_
      refine r_val (v := (zI (P 2))) (i5 2 (by decide)) ?_
      refine r_val (v := (zI (((Int.toNat (P 2)) : Nat) : Int))) (congrArg zI (by omega)) ?_
      refine k_Vv F w (As := [.int (zI (s9 : Int)), .int (zI (((Int.toNat (P 2)) : Nat) : Int))]) (rest := []) (a := 146) (kd_lt (a := 146) (show kd 146 = (12, 0, 0) from rfl) (by decide)) (sh_12 rfl _ _) rfl (s_X12_fills i1 (s9 := s9) (kn := Int.toNat (P 2)) (by omega) (by omega)) wgv_X12_150 whv_X12_fills ⟨(by omega), (by omega)⟩ hl.1 rfl (Nat.le_of_ble_eq_true rfl) ⟨Nat.zero_le _, Nat.zero_le _⟩ wdX12_passesOnce_150 (fun Ma5 H locs hp w => ?_)
      rcases hp with ⟨o2, dd, e2, hR2, hF2, hd2⟩
      refine z_iinc (v := (((s9 + 1) : Nat) : Int)) (lv' := [(5, .int (zI (((s9 + 1) : Nat) : Int))), (6, .int (zI (s9 : Int))), (4, .int (zI 0)), (3, .int (zI 9)), (2, .int (zI (((8 * r) : Nat) : Int))), (0, .ref (B + 146)), (1, .int (zI (r : Int)))]) hx hb wdX12_passesOnce_153 hl (k := 1) rfl (by omega) (by decide) rfl (fun ls hl => ?_)
      refine lv_goto (tgt := 48) hx hb wdX12_passesOnce_156 (by decide) ?_
      exact ih (s9 + 1) (cc + dd) Ma5 o2 (by omega) (hR2.e rfl (by omega)) (fiP_s i2 e2) (by omega) (FrC.tr i4 hF2) (i5.fr (hF2.1 149 (by decide) (by decide))) (by omega) _ _ ls w (lv_sub hl [0, 2, 3, 4, 5, 6] rfl)
set_option maxRecDepth 4000 in
theorem s_X12_once_9 {l : Launch} {D : va_G} {B : Nat} {cy : Nat → ClassId} {M : Mem} {q hv ed : Nat} {o : Wo} {z9 : Int} (hR : RW M q hv ed o z9) {r : Nat} {P : Nat → Int} (hr8 : r < 8) (hV : isV M r P) (hG : okG P) (h0 : P 0 = 9) : Cv l D B cy yX12_passesOnce cX12_passesOnce 7 4 90 [.ref (B + 146), .int (zI (r : Int))] M (fun M1 => RQ q hv ed (paF P q hv ed o) 1884 z9 M M1) := by
  refine s_any (by decide) (Nat.le_of_ble_eq_true rfl) ?_
  intro p e s m below meth c ls F hr hlocks w hl
  have F : CallFix p m c cX12_passesOnce 7 s _ TB RX12 := F
  have hx := F.1
  have hb := F.2.1
  have hl : lv_has ls 7 [(0, .ref (B + 146)), (1, .int (zI (r : Int)))] := hl
  have hW := hR.1
  have hwf := hR.wf
  have hKL := hwf.2.2.2.2
  have hn12 := hwf.1
  have hq12 := hwf.2.1
  have hhv := hwf.2.2.1
  have hed := hwf.2.2.2.1
  have hc := hR.2.2.2.2
  have hP := hG.1
  have hg := hG.2.1
  have hz5 := hG.2.2
  have hP0 := hP 0 (by decide)
  have hP1 := hP 1 (by decide)
  have hP2 := hP 2 (by decide)
  have hP3 := hP 3 (by decide)
  have hP4 := hP 4 (by decide)
  have hP5 := hP 5 (by decide)
  have hP6 := hP 6 (by decide)
  have hP7 := hP 7 (by decide)
  have hsd := sd8 P
  have hlf := lf8 P
  refine lv_bipush (v := zI 8) hx hb wdX12_passesOnce_0 (by decide) ?_
  refine lv_iload_n hx hb wdX12_passesOnce_2 rfl (lv_at hl 1 rfl) ?_
  refine z_imul (z := (((8 * r) : Nat) : Int)) hx hb wdX12_passesOnce_3 (by omega) ?_
  refine lv_istore_n (lv' := [(2, .int (zI (((8 * r) : Nat) : Int))), (0, .ref (B + 146)), (1, .int (zI (r : Int)))]) hx hb wdX12_passesOnce_4 rfl hl (by decide) rfl (fun ls hl => ?_)
  refine lv_aload_n hx hb wdX12_passesOnce_5 rfl (lv_at hl 1 rfl) ?_
  refine f_12_4 F w (a := 146) rfl wtb_114 wdX12_passesOnce_6 ?_
  refine lv_iload_n hx hb wdX12_passesOnce_9 rfl (lv_at hl 0 rfl) ?_
  refine g_iald F w (a := 149) rfl (j := (8 * r)) (ix_n (by omega)) (by omega) wdX12_passesOnce_10 ?_
  refine r_val (v := (zI (P 0))) (hV 0 (by decide)) ?_
  refine r_val (v := (zI 9)) (congrArg zI h0) ?_
  refine lv_istore_n (lv' := [(3, .int (zI 9)), (2, .int (zI (((8 * r) : Nat) : Int))), (0, .ref (B + 146)), (1, .int (zI (r : Int)))]) hx hb wdX12_passesOnce_11 rfl hl (by decide) rfl (fun ls hl => ?_)
  refine lv_iload_n hx hb wdX12_passesOnce_12 rfl (lv_at hl 0 rfl) ?_
  refine k_Si F w (As := [.int (zI 9)]) (rest := []) (s_X12_hasSide (x9 := 9) (by omega)) wgs_X12_137 whs_X12_hasSide ⟨(Nat.le_of_ble_eq_true rfl), (Nat.le_of_ble_eq_true rfl)⟩ hl.1 rfl (Nat.le_of_ble_eq_true rfl) ⟨Nat.zero_le _, Nat.zero_le _⟩ wdX12_passesOnce_13 (fun r Ma2 H locs hp w => ?_)
  rcases hp with ⟨⟨hb1, rfl⟩ | ⟨hb1, rfl⟩, hMe⟩
  · exact False.elim (by omega)
  · rw [hMe] at w
    refine z_if_eq (tgt := 35) hx hb (by omega) wdX12_passesOnce_16 (by decide) (fun c3 => ?_) (fun c3 => False.elim (by omega))
    refine lv_iconst (v := zI 0) hx hb wdX12_passesOnce_35 rfl ?_
    refine r_val (v := zI 0) (congrArg zI (by omega)) ?_
    refine lv_istore (lv' := [(4, .int (zI 0)), (3, .int (zI 9)), (2, .int (zI (((8 * r) : Nat) : Int))), (0, .ref (B + 146)), (1, .int (zI (r : Int)))]) hx hb wdX12_passesOnce_36 hl (by decide) rfl (fun ls hl => ?_)
    refine lv_iload_n hx hb wdX12_passesOnce_38 rfl (lv_at hl 1 rfl) ?_
    refine k_Si F w (As := [.int (zI 9)]) (rest := []) (s_X12_isBySyllables (x9 := 9) (by omega)) wgs_X12_140 whs_X12_isBySyllables ⟨(Nat.le_of_ble_eq_true rfl), (Nat.le_of_ble_eq_true rfl)⟩ hl.1 rfl (Nat.le_of_ble_eq_true rfl) ⟨Nat.zero_le _, Nat.zero_le _⟩ wdX12_passesOnce_39 (fun r Ma5 H locs hp w => ?_)
    rcases hp with ⟨⟨hb4, rfl⟩ | ⟨hb4, rfl⟩, hMe⟩
    · rw [hMe] at w
      refine z_if_eq (tgt := 160) hx hb (by omega) wdX12_passesOnce_42 (by decide) (fun c6 => False.elim (by omega)) (fun c6 => ?_)
      refine lv_iconst (v := zI 0) hx hb wdX12_passesOnce_45 rfl ?_
      refine lv_istore (lv' := [(5, .int (zI 0)), (4, .int (zI 0)), (3, .int (zI 9)), (2, .int (zI (((8 * r) : Nat) : Int))), (0, .ref (B + 146)), (1, .int (zI (r : Int)))]) hx hb wdX12_passesOnce_46 hl (by decide) rfl (fun ls hl => ?_)
      refine lp_X12_once_9 (z9 := z9) F (Nat.le_of_ble_eq_true rfl) (Nat.le_of_ble_eq_true rfl) hr8 hG h0 (fun s9 cc Nm o1 H locs ls x0 x1 x2 x3 w hl => ?_) q 0 0 M o (by omega) (hR.e rfl (by omega)) rfl (by omega) FrC.rf hV (by omega) _ _ ls w (lv_sub hl [0, 1, 2, 3, 4, 5] rfl)
      exact e_v F w hr hlocks ⟨o1, cc, (paF_9 h0).trans x1, x0, x2, by omega⟩ wdX12_passesOnce_159
    · exact False.elim (by omega)
theorem wdX12_passesOnce_179 : decode cX12_passesOnce 179 = .ok (.aload_n 0, 1) := dq0 kk_42 (by decide +kernel)
theorem wdX12_passesOnce_180 : decode cX12_passesOnce 180 = .ok (.getfield 17, 3) := dqV kk_180 (by decide +kernel)
theorem wdX12_passesOnce_183 : decode cX12_passesOnce 183 = .ok (.iload 5, 2) := dqU kk_21 (by decide +kernel)
theorem wdX12_passesOnce_185 : decode cX12_passesOnce 185 = .ok (.invokestatic 105, 3) := dqV kk_184 (by decide +kernel)
theorem wdX12_passesOnce_188 : decode cX12_passesOnce 188 = .ok (.ifCond .eq 34, 3) := dqT kk_153 (by decide +kernel)
theorem wdX12_passesOnce_191 : decode cX12_passesOnce 191 = .ok (.aload_n 0, 1) := dq0 kk_42 (by decide +kernel)
theorem wdX12_passesOnce_192 : decode cX12_passesOnce 192 = .ok (.iload_n 1, 1) := dq0 kk_27 (by decide +kernel)
theorem wdX12_passesOnce_193 : decode cX12_passesOnce 193 = .ok (.iload 5, 2) := dqU kk_21 (by decide +kernel)
theorem wdX12_passesOnce_195 : decode cX12_passesOnce 195 = .ok (.invokevirtual 153, 3) := dqV kk_182 (by decide +kernel)
theorem wtk_X12_treats : Cond.code yX12_treats cX12_treats 6 (some .boolean) ∈ TB := tbm (tc6 (List.mem_of_getElem? (i := 94) rfl)) rfl
theorem wgc_X12_treats : GoodIn TB (cw yX12_treats cX12_treats 6 (some .boolean)) := goodIn_c2 wtk_X12_treats
theorem wtb_169 : Cond.methodLink "ToneLinesModel" 153 yX12_treats ∈ TB := tbm (tc6 (List.mem_of_getElem? (i := 91) rfl)) rfl
theorem wtb_170 : Cond.instanceMethod yX12_treats ∈ TB := tbm (tc6 (List.mem_of_getElem? (i := 93) rfl)) rfl
theorem wtb_171 : Cond.selects "ToneLinesModel" yX12_treats yX12_treats ∈ TB := tbp (List.mem_of_getElem? (i := 61) rfl) rfl
theorem wgv_X12_153 : GoodIn TB (wsV RX12 153 RX12 yX12_treats (cw yX12_treats cX12_treats 6 (some .boolean))) := goodIn_4 wtb_169 wtb_170 wtb_171 wtb_105 wgc_X12_treats
theorem whv_X12_treats : yX12_treats.cls = RX12 ∧ yX12_treats.cls ≠ "java/lang/invoke/MethodHandle" ∧ yX12_treats.cls ≠ "java/lang/invoke/VarHandle" ∧ (parseMethodDescriptor yX12_treats.desc).map (fun d => d.parameters.length) = some 2 := by decide +kernel
theorem wdX12_passesOnce_198 : decode cX12_passesOnce 198 = .ok (.istore 6, 2) := dqU kk_54 (by decide +kernel)
theorem wdX12_passesOnce_200 : decode cX12_passesOnce 200 = .ok (.iload 4, 2) := dqU kk_21 (by decide +kernel)
theorem wdX12_passesOnce_202 : decode cX12_passesOnce 202 = .ok (.ifCond .eq 9, 3) := dqT kk_153 (by decide +kernel)
theorem wdX12_passesOnce_211 : decode cX12_passesOnce 211 = .ok (.iload 6, 2) := dqU kk_21 (by decide +kernel)
theorem wdX12_passesOnce_213 : decode cX12_passesOnce 213 = .ok (.ifCond .ne 6, 3) := dqT kk_154 (by decide +kernel)
theorem wdX12_passesOnce_219 : decode cX12_passesOnce 219 = .ok (.goto (-40), 3) := dqT kk_167 (by decide +kernel)
theorem wdX12_passesOnce_205 : decode cX12_passesOnce 205 = .ok (.iinc 5 (-1), 3) := dqI kk_132 (by decide +kernel)
theorem wdX12_passesOnce_208 : decode cX12_passesOnce 208 = .ok (.goto 11, 3) := dqT kk_167 (by decide +kernel)
theorem wdX12_passesOnce_216 : decode cX12_passesOnce 216 = .ok (.iinc 5 1, 3) := dqI kk_132 (by decide +kernel)
set_option maxRecDepth 4000 in
theorem lp_X12_once_t {p : Program} {l : Launch} {e : Env} {s : State} {m : MethodId} {args : Array Value} {below : List Frame} {meth : Method} {c : Code} {D : va_G} {B : Nat} {cy : Nat → ClassId} {H0 : Heap} {Q : State → Prop} {M : Mem} {R : Room} {q hv ed r v : Nat} {o : Wo} {z9 t0 : Int} {P : Nat → Int} (F : CallFix p m c cX12_passesOnce 7 s args TB RX12) (hR1 : 6 ≤ R.frames) (hR2 : 140 ≤ R.locals) (hr8 : r < 8) (hG : okG P) (hv0 : P 0 = (v : Int)) (hv1 : 1 ≤ v ∧ v ≤ 7) (kk : ∀ (tz : Int) (cc : Nat) (ff : Nat) (Nm : Mem) (o1 : Wo) (H : Heap) (locs : List Loc) (ls : Array Slot), (RW Nm q hv ed o1 (z9 + (cc : Int))) → (tpF P v (lfP P) (sdP P) (Int.toNat (P 3)) q hv ed o.1 t0 o = (o1, cc)) → (FrC Nm M) → (cc ≤ 1884) → Wd D B cy s H0 Nm H locs → lv_has ls 7 [(0, .ref (B + 146))] → W p l e R s m args below meth c H locs 0 0 Q (F0 m 222 ls [])) : ∀ (f : Nat) (tz : Int) (cc : Nat) (ff : Nat) (Nm : Mem) (o1 : Wo), (RW Nm q hv ed o1 (z9 + (cc : Int))) → (tpI P v (lfP P) (sdP P) (Int.toNat (P 3)) q hv ed o.1 t0 o ff tz o1 cc) → ((lfP P = 1 ∧ tz + 1 ≤ (ff : Int)) ∨ (lfP P = 0 ∧ (o1.1 : Int) - tz ≤ (ff : Int))) → (-1 ≤ tz ∧ tz ≤ 12) → (FrC Nm M) → (isV Nm r P) → (cc + 157 * ff ≤ 1884) → (ff ≤ 12) → (ff ≤ f) → ∀ (H : Heap) (locs : List Loc) (ls : Array Slot), Wd D B cy s H0 Nm H locs → lv_has ls 7 [(5, .int (zI tz)), (4, .int (zI (((lfP P) : Nat) : Int))), (3, .int (zI (P 0))), (2, .int (zI (((8 * r) : Nat) : Int))), (0, .ref (B + 146)), (1, .int (zI (r : Int)))] → W p l e R s m args below meth c H locs 0 0 Q (F0 m 179 ls []) := by
  have hx := F.1
  have hb := F.2.1
  have hP := hG.1
  have hg := hG.2.1
  have hz5 := hG.2.2
  have hP0 := hP 0 (by decide)
  have hP1 := hP 1 (by decide)
  have hP2 := hP 2 (by decide)
  have hP3 := hP 3 (by decide)
  have hP4 := hP 4 (by decide)
  have hP5 := hP 5 (by decide)
  have hP6 := hP 6 (by decide)
  have hP7 := hP 7 (by decide)
  have hsd := sd8 P
  have hlf := lf8 P
  intro f
  induction f with
  | zero =>
    intro tz cc ff Nm o1 i0 i1 i2 i3 i4 i5 i6 i7 hf H locs ls w hl
    have hW1 := i0.1
    have hwf1 := i0.wf
    have hKL1 := hwf1.2.2.2.2
    have hn1 := hwf1.1
    have hq1 := hwf1.2.1
    have hc1 := i0.2.2.2.2
    refine lv_aload_n hx hb wdX12_passesOnce_179 rfl (lv_at hl 4 rfl) ?_
    refine f_12_2 F w (a := 146) rfl wtb_102 wdX12_passesOnce_180 ?_
    refine lv_iload hx hb wdX12_passesOnce_183 (lv_at hl 0 rfl) ?_
    refine k_Si F w (As := [.ref (B + 148), .int (zI tz)]) (rest := []) (s_X12_isTone (a := 148) rfl hW1 hwf1 (t := tz) (by omega)) wgs_X12_105 whs_X12_isTone ⟨(by omega), (by omega)⟩ hl.1 rfl (Nat.le_of_ble_eq_true rfl) ⟨Nat.zero_le _, Nat.zero_le _⟩ wdX12_passesOnce_185 (fun r Ma2 H locs hp w => ?_)
    rcases hp with ⟨⟨k1, rfl, hk1, rfl⟩ | ⟨nk1, rfl⟩, hMe⟩
    · rw [hMe] at w
      refine z_if_eq (tgt := 222) hx hb (by omega) wdX12_passesOnce_188 (by decide) (fun c3 => False.elim (by omega)) (fun c3 => ?_)
      refine lv_aload_n hx hb wdX12_passesOnce_191 rfl (lv_at hl 4 rfl) ?_
      refine lv_iload_n hx hb wdX12_passesOnce_192 rfl (lv_at hl 5 rfl) ?_
      refine lv_iload hx hb wdX12_passesOnce_193 (lv_at hl 0 rfl) ?_
      refine k_Vi F w (As := [.int (zI (r : Int)), .int (zI (k1 : Int))]) (rest := []) (a := 146) (kd_lt (a := 146) (show kd 146 = (12, 0, 0) from rfl) (by decide)) (sh_12 rfl _ _) rfl (s_X12_treats i0 hr8 i5 hG hv0 hv1 (t := k1) hk1) wgv_X12_153 whv_X12_treats ⟨(by omega), (by omega)⟩ hl.1 rfl (Nat.le_of_ble_eq_true rfl) ⟨Nat.zero_le _, Nat.zero_le _⟩ wdX12_passesOnce_195 (fun r Ma5 H locs hp w => ?_)
      rcases hp with ⟨oT4, dT4, eT4, hRT4, hFT4, hdT4, ⟨rfl, hgT4⟩ | ⟨rfl, hgT4⟩⟩
      · refine lv_istore (lv' := [(6, .int (zI 1)), (5, .int (zI (k1 : Int))), (4, .int (zI (((lfP P) : Nat) : Int))), (3, .int (zI (P 0))), (2, .int (zI (((8 * r) : Nat) : Int))), (0, .ref (B + 146)), (1, .int (zI (r : Int)))]) hx hb wdX12_passesOnce_198 hl (by decide) rfl (fun ls hl => ?_)
        refine lv_iload hx hb wdX12_passesOnce_200 (lv_at hl 2 rfl) ?_
        refine z_if_eq (tgt := 211) hx hb (by omega) wdX12_passesOnce_202 (by decide) (fun c6 => ?_) (fun c6 => ?_)
        · refine lv_iload hx hb wdX12_passesOnce_211 (lv_at hl 0 rfl) ?_
          refine z_if_ne (tgt := 219) hx hb (by omega) wdX12_passesOnce_213 (by decide) (fun c7 => ?_) (fun c7 => False.elim (by omega))
          refine lv_goto (tgt := 179) hx hb wdX12_passesOnce_219 (by decide) ?_
          exact False.elim (by omega)
        · refine z_iinc (v := ((k1 : Int) - 1)) (lv' := [(5, .int (zI ((k1 : Int) - 1))), (6, .int (zI 1)), (4, .int (zI (((lfP P) : Nat) : Int))), (3, .int (zI (P 0))), (2, .int (zI (((8 * r) : Nat) : Int))), (0, .ref (B + 146)), (1, .int (zI (r : Int)))]) hx hb wdX12_passesOnce_205 hl (k := 1) rfl (by omega) (by decide) rfl (fun ls hl => ?_)
          refine lv_goto (tgt := 219) hx hb wdX12_passesOnce_208 (by decide) ?_
          refine lv_goto (tgt := 179) hx hb wdX12_passesOnce_219 (by decide) ?_
          exact False.elim (by omega)
      · refine lv_istore (lv' := [(6, .int (zI 0)), (5, .int (zI (k1 : Int))), (4, .int (zI (((lfP P) : Nat) : Int))), (3, .int (zI (P 0))), (2, .int (zI (((8 * r) : Nat) : Int))), (0, .ref (B + 146)), (1, .int (zI (r : Int)))]) hx hb wdX12_passesOnce_198 hl (by decide) rfl (fun ls hl => ?_)
        refine lv_iload hx hb wdX12_passesOnce_200 (lv_at hl 2 rfl) ?_
        refine z_if_eq (tgt := 211) hx hb (by omega) wdX12_passesOnce_202 (by decide) (fun c8 => ?_) (fun c8 => ?_)
        · refine lv_iload hx hb wdX12_passesOnce_211 (lv_at hl 0 rfl) ?_
          refine z_if_ne (tgt := 219) hx hb (by omega) wdX12_passesOnce_213 (by decide) (fun c9 => False.elim (by omega)) (fun c9 => ?_)
          refine z_iinc (v := (((k1 + 1) : Nat) : Int)) (lv' := [(5, .int (zI (((k1 + 1) : Nat) : Int))), (6, .int (zI 0)), (4, .int (zI (((lfP P) : Nat) : Int))), (3, .int (zI (P 0))), (2, .int (zI (((8 * r) : Nat) : Int))), (0, .ref (B + 146)), (1, .int (zI (r : Int)))]) hx hb wdX12_passesOnce_216 hl (k := 1) rfl (by omega) (by decide) rfl (fun ls hl => ?_)
          refine lv_goto (tgt := 179) hx hb wdX12_passesOnce_219 (by decide) ?_
          exact False.elim (by omega)
        · refine z_iinc (v := ((k1 : Int) - 1)) (lv' := [(5, .int (zI ((k1 : Int) - 1))), (6, .int (zI 0)), (4, .int (zI (((lfP P) : Nat) : Int))), (3, .int (zI (P 0))), (2, .int (zI (((8 * r) : Nat) : Int))), (0, .ref (B + 146)), (1, .int (zI (r : Int)))]) hx hb wdX12_passesOnce_205 hl (k := 1) rfl (by omega) (by decide) rfl (fun ls hl => ?_)
          refine lv_goto (tgt := 219) hx hb wdX12_passesOnce_208 (by decide) ?_
          refine lv_goto (tgt := 179) hx hb wdX12_passesOnce_219 (by decide) ?_
          exact False.elim (by omega)
    · rw [hMe] at w
      refine z_if_eq (tgt := 222) hx hb (by omega) wdX12_passesOnce_188 (by decide) (fun c10 => ?_) (fun c10 => False.elim (by omega))
      exact kk tz cc ff Nm o1 _ _ ls i0 (tpI_e i1 (Or.inr (by omega))) i4 (by omega) w (lv_sub hl [4] rfl)
  | succ f ih =>
    intro tz cc ff Nm o1 i0 i1 i2 i3 i4 i5 i6 i7 hf H locs ls w hl
    have hW1 := i0.1
    have hwf1 := i0.wf
    have hKL1 := hwf1.2.2.2.2
    have hn1 := hwf1.1
    have hq1 := hwf1.2.1
    have hc1 := i0.2.2.2.2
    refine lv_aload_n hx hb wdX12_passesOnce_179 rfl (lv_at hl 4 rfl) ?_
    refine f_12_2 F w (a := 146) rfl wtb_102 wdX12_passesOnce_180 ?_
    refine lv_iload hx hb wdX12_passesOnce_183 (lv_at hl 0 rfl) ?_
    refine k_Si F w (As := [.ref (B + 148), .int (zI tz)]) (rest := []) (s_X12_isTone (a := 148) rfl hW1 hwf1 (t := tz) (by omega)) wgs_X12_105 whs_X12_isTone ⟨(by omega), (by omega)⟩ hl.1 rfl (Nat.le_of_ble_eq_true rfl) ⟨Nat.zero_le _, Nat.zero_le _⟩ wdX12_passesOnce_185 (fun r Ma2 H locs hp w => ?_)
    rcases hp with ⟨⟨k1, rfl, hk1, rfl⟩ | ⟨nk1, rfl⟩, hMe⟩
    · rw [hMe] at w
      refine z_if_eq (tgt := 222) hx hb (by omega) wdX12_passesOnce_188 (by decide) (fun c3 => False.elim (by omega)) (fun c3 => ?_)
      refine lv_aload_n hx hb wdX12_passesOnce_191 rfl (lv_at hl 4 rfl) ?_
      refine lv_iload_n hx hb wdX12_passesOnce_192 rfl (lv_at hl 5 rfl) ?_
      refine lv_iload hx hb wdX12_passesOnce_193 (lv_at hl 0 rfl) ?_
      refine k_Vi F w (As := [.int (zI (r : Int)), .int (zI (k1 : Int))]) (rest := []) (a := 146) (kd_lt (a := 146) (show kd 146 = (12, 0, 0) from rfl) (by decide)) (sh_12 rfl _ _) rfl (s_X12_treats i0 hr8 i5 hG hv0 hv1 (t := k1) hk1) wgv_X12_153 whv_X12_treats ⟨(by omega), (by omega)⟩ hl.1 rfl (Nat.le_of_ble_eq_true rfl) ⟨Nat.zero_le _, Nat.zero_le _⟩ wdX12_passesOnce_195 (fun r Ma5 H locs hp w => ?_)
      rcases hp with ⟨oT4, dT4, eT4, hRT4, hFT4, hdT4, ⟨rfl, hgT4⟩ | ⟨rfl, hgT4⟩⟩
      · refine lv_istore (lv' := [(6, .int (zI 1)), (5, .int (zI (k1 : Int))), (4, .int (zI (((lfP P) : Nat) : Int))), (3, .int (zI (P 0))), (2, .int (zI (((8 * r) : Nat) : Int))), (0, .ref (B + 146)), (1, .int (zI (r : Int)))]) hx hb wdX12_passesOnce_198 hl (by decide) rfl (fun ls hl => ?_)
        refine lv_iload hx hb wdX12_passesOnce_200 (lv_at hl 2 rfl) ?_
        refine z_if_eq (tgt := 211) hx hb (by omega) wdX12_passesOnce_202 (by decide) (fun c6 => ?_) (fun c6 => ?_)
        · refine lv_iload hx hb wdX12_passesOnce_211 (lv_at hl 0 rfl) ?_
          refine z_if_ne (tgt := 219) hx hb (by omega) wdX12_passesOnce_213 (by decide) (fun c7 => ?_) (fun c7 => False.elim (by omega))
          refine lv_goto (tgt := 179) hx hb wdX12_passesOnce_219 (by decide) ?_
          exact ih (k1 : Int) (cc + dT4) (ff - 1) Ma5 oT4 (hRT4.e rfl (by omega)) (by have h9 := tpI_s (f := ff - 1) (by rw [show ff - 1 + 1 = ff by omega]; exact i1) hk1 eT4; rw [← nx_0 (v := v) (cc := dT4) (show lfP P ≠ 1 by omega) hgT4.1 hgT4.2] at h9; exact h9) (by have h8 := (trT_b hv1 eT4).2 hgT4.1 hgT4.2; omega) (by omega) (FrC.tr i4 hFT4) (i5.fr (hFT4.1 149 (by decide) (by decide))) (by omega) (by omega) (by omega) _ _ ls w (lv_sub hl [1, 2, 3, 4, 5, 6] rfl)
        · refine z_iinc (v := ((k1 : Int) - 1)) (lv' := [(5, .int (zI ((k1 : Int) - 1))), (6, .int (zI 1)), (4, .int (zI (((lfP P) : Nat) : Int))), (3, .int (zI (P 0))), (2, .int (zI (((8 * r) : Nat) : Int))), (0, .ref (B + 146)), (1, .int (zI (r : Int)))]) hx hb wdX12_passesOnce_205 hl (k := 1) rfl (by omega) (by decide) rfl (fun ls hl => ?_)
          refine lv_goto (tgt := 219) hx hb wdX12_passesOnce_208 (by decide) ?_
          refine lv_goto (tgt := 179) hx hb wdX12_passesOnce_219 (by decide) ?_
          exact ih ((k1 : Int) - 1) (cc + dT4) (ff - 1) Ma5 oT4 (hRT4.e rfl (by omega)) (by have h9 := tpI_s (f := ff - 1) (by rw [show ff - 1 + 1 = ff by omega]; exact i1) hk1 eT4; rw [← nx_l (v := v) (cc := dT4) (show lfP P = 1 by omega)] at h9; exact h9) (by have h8 := (trT_b hv1 eT4).1; omega) (by omega) (FrC.tr i4 hFT4) (i5.fr (hFT4.1 149 (by decide) (by decide))) (by omega) (by omega) (by omega) _ _ ls w (lv_sub hl [0, 2, 3, 4, 5, 6] rfl)
      · refine lv_istore (lv' := [(6, .int (zI 0)), (5, .int (zI (k1 : Int))), (4, .int (zI (((lfP P) : Nat) : Int))), (3, .int (zI (P 0))), (2, .int (zI (((8 * r) : Nat) : Int))), (0, .ref (B + 146)), (1, .int (zI (r : Int)))]) hx hb wdX12_passesOnce_198 hl (by decide) rfl (fun ls hl => ?_)
        refine lv_iload hx hb wdX12_passesOnce_200 (lv_at hl 2 rfl) ?_
        refine z_if_eq (tgt := 211) hx hb (by omega) wdX12_passesOnce_202 (by decide) (fun c8 => ?_) (fun c8 => ?_)
        · refine lv_iload hx hb wdX12_passesOnce_211 (lv_at hl 0 rfl) ?_
          refine z_if_ne (tgt := 219) hx hb (by omega) wdX12_passesOnce_213 (by decide) (fun c9 => False.elim (by omega)) (fun c9 => ?_)
          refine z_iinc (v := (((k1 + 1) : Nat) : Int)) (lv' := [(5, .int (zI (((k1 + 1) : Nat) : Int))), (6, .int (zI 0)), (4, .int (zI (((lfP P) : Nat) : Int))), (3, .int (zI (P 0))), (2, .int (zI (((8 * r) : Nat) : Int))), (0, .ref (B + 146)), (1, .int (zI (r : Int)))]) hx hb wdX12_passesOnce_216 hl (k := 1) rfl (by omega) (by decide) rfl (fun ls hl => ?_)
          refine lv_goto (tgt := 179) hx hb wdX12_passesOnce_219 (by decide) ?_
          exact ih ((k1 + 1 : Nat) : Int) (cc + dT4) (ff - 1) Ma5 oT4 (hRT4.e rfl (by omega)) (by have h9 := tpI_s (f := ff - 1) (by rw [show ff - 1 + 1 = ff by omega]; exact i1) hk1 eT4; rw [← nx_r (v := v) (cc := dT4) (show lfP P ≠ 1 by omega) hgT4] at h9; exact h9) (by have h8 := (trT_b hv1 eT4).1; omega) (by omega) (FrC.tr i4 hFT4) (i5.fr (hFT4.1 149 (by decide) (by decide))) (by omega) (by omega) (by omega) _ _ ls w (lv_sub hl [0, 2, 3, 4, 5, 6] rfl)
        · refine z_iinc (v := ((k1 : Int) - 1)) (lv' := [(5, .int (zI ((k1 : Int) - 1))), (6, .int (zI 0)), (4, .int (zI (((lfP P) : Nat) : Int))), (3, .int (zI (P 0))), (2, .int (zI (((8 * r) : Nat) : Int))), (0, .ref (B + 146)), (1, .int (zI (r : Int)))]) hx hb wdX12_passesOnce_205 hl (k := 1) rfl (by omega) (by decide) rfl (fun ls hl => ?_)
          refine lv_goto (tgt := 219) hx hb wdX12_passesOnce_208 (by decide) ?_
          refine lv_goto (tgt := 179) hx hb wdX12_passesOnce_219 (by decide) ?_
          exact ih ((k1 : Int) - 1) (cc + dT4) (ff - 1) Ma5 oT4 (hRT4.e rfl (by omega)) (by have h9 := tpI_s (f := ff - 1) (by rw [show ff - 1 + 1 = ff by omega]; exact i1) hk1 eT4; rw [← nx_l (v := v) (cc := dT4) (show lfP P = 1 by omega)] at h9; exact h9) (by have h8 := (trT_b hv1 eT4).1; omega) (by omega) (FrC.tr i4 hFT4) (i5.fr (hFT4.1 149 (by decide) (by decide))) (by omega) (by omega) (by omega) _ _ ls w (lv_sub hl [0, 2, 3, 4, 5, 6] rfl)
    · rw [hMe] at w
      refine z_if_eq (tgt := 222) hx hb (by omega) wdX12_passesOnce_188 (by decide) (fun c10 => ?_) (fun c10 => False.elim (by omega))
      exact kk tz cc ff Nm o1 _ _ ls i0 (tpI_e i1 (Or.inr (by omega))) i4 (by omega) w (lv_sub hl [4] rfl)
theorem wdX12_passesOnce_160 : decode cX12_passesOnce 160 = .ok (.iload 4, 2) := dqU kk_21 (by decide +kernel)
theorem wdX12_passesOnce_162 : decode cX12_passesOnce 162 = .ok (.ifCond .eq 14, 3) := dqT kk_153 (by decide +kernel)
theorem wdX12_passesOnce_176 : decode cX12_passesOnce 176 = .ok (.iconst 0, 1) := dq0 kk_3 (by decide +kernel)
theorem wdX12_passesOnce_177 : decode cX12_passesOnce 177 = .ok (.istore 5, 2) := dqU kk_54 (by decide +kernel)
theorem wdX12_passesOnce_222 : decode cX12_passesOnce 222 = .ok (.return_, 1) := dq0 kk_177 (by decide +kernel)
theorem wdX12_passesOnce_165 : decode cX12_passesOnce 165 = .ok (.aload_n 0, 1) := dq0 kk_42 (by decide +kernel)
theorem wdX12_passesOnce_166 : decode cX12_passesOnce 166 = .ok (.getfield 17, 3) := dqV kk_180 (by decide +kernel)
theorem wdX12_passesOnce_169 : decode cX12_passesOnce 169 = .ok (.iconst 0, 1) := dq0 kk_3 (by decide +kernel)
theorem wdX12_passesOnce_170 : decode cX12_passesOnce 170 = .ok (.iaload, 1) := dq0 kk_46 (by decide +kernel)
theorem wdX12_passesOnce_171 : decode cX12_passesOnce 171 = .ok (.iconst 1, 1) := dq0 kk_4 (by decide +kernel)
theorem wdX12_passesOnce_172 : decode cX12_passesOnce 172 = .ok (.isub, 1) := dq0 kk_100 (by decide +kernel)
theorem wdX12_passesOnce_173 : decode cX12_passesOnce 173 = .ok (.goto 4, 3) := dqT kk_167 (by decide +kernel)
set_option maxRecDepth 4000 in
theorem s_X12_once_t {l : Launch} {D : va_G} {B : Nat} {cy : Nat → ClassId} {M : Mem} {q hv ed : Nat} {o : Wo} {z9 : Int} (hR : RW M q hv ed o z9) {r : Nat} {P : Nat → Int} (hr8 : r < 8) (hV : isV M r P) (hG : okG P) {v : Nat} (hv0 : P 0 = (v : Int)) (hv1 : 1 ≤ v ∧ v ≤ 7) : Cv l D B cy yX12_passesOnce cX12_passesOnce 7 6 140 [.ref (B + 146), .int (zI (r : Int))] M (fun M1 => RQ q hv ed (paF P q hv ed o) 1884 z9 M M1) := by
  refine s_any (by decide) (Nat.le_of_ble_eq_true rfl) ?_
  intro p e s m below meth c ls F hr hlocks w hl
  have F : CallFix p m c cX12_passesOnce 7 s _ TB RX12 := F
  have hx := F.1
  have hb := F.2.1
  have hl : lv_has ls 7 [(0, .ref (B + 146)), (1, .int (zI (r : Int)))] := hl
  have hW := hR.1
  have hwf := hR.wf
  have hKL := hwf.2.2.2.2
  have hn12 := hwf.1
  have hq12 := hwf.2.1
  have hhv := hwf.2.2.1
  have hed := hwf.2.2.2.1
  have hc := hR.2.2.2.2
  have hP := hG.1
  have hg := hG.2.1
  have hz5 := hG.2.2
  have hP0 := hP 0 (by decide)
  have hP1 := hP 1 (by decide)
  have hP2 := hP 2 (by decide)
  have hP3 := hP 3 (by decide)
  have hP4 := hP 4 (by decide)
  have hP5 := hP 5 (by decide)
  have hP6 := hP 6 (by decide)
  have hP7 := hP 7 (by decide)
  have hsd := sd8 P
  have hlf := lf8 P
  refine lv_bipush (v := zI 8) hx hb wdX12_passesOnce_0 (by decide) ?_
  refine lv_iload_n hx hb wdX12_passesOnce_2 rfl (lv_at hl 1 rfl) ?_
  refine z_imul (z := (((8 * r) : Nat) : Int)) hx hb wdX12_passesOnce_3 (by omega) ?_
  refine lv_istore_n (lv' := [(2, .int (zI (((8 * r) : Nat) : Int))), (0, .ref (B + 146)), (1, .int (zI (r : Int)))]) hx hb wdX12_passesOnce_4 rfl hl (by decide) rfl (fun ls hl => ?_)
  refine lv_aload_n hx hb wdX12_passesOnce_5 rfl (lv_at hl 1 rfl) ?_
  refine f_12_4 F w (a := 146) rfl wtb_114 wdX12_passesOnce_6 ?_
  refine lv_iload_n hx hb wdX12_passesOnce_9 rfl (lv_at hl 0 rfl) ?_
  refine g_iald F w (a := 149) rfl (j := (8 * r)) (ix_n (by omega)) (by omega) wdX12_passesOnce_10 ?_
  refine r_val (v := (zI (P 0))) (hV 0 (by decide)) ?_
  refine lv_istore_n (lv' := [(3, .int (zI (P 0))), (2, .int (zI (((8 * r) : Nat) : Int))), (0, .ref (B + 146)), (1, .int (zI (r : Int)))]) hx hb wdX12_passesOnce_11 rfl hl (by decide) rfl (fun ls hl => ?_)
  refine lv_iload_n hx hb wdX12_passesOnce_12 rfl (lv_at hl 0 rfl) ?_
  refine k_Si F w (As := [.int (zI (P 0))]) (rest := []) (s_X12_hasSide (x9 := (P 0)) (by omega)) wgs_X12_137 whs_X12_hasSide ⟨(Nat.le_of_ble_eq_true rfl), (Nat.le_of_ble_eq_true rfl)⟩ hl.1 rfl (Nat.le_of_ble_eq_true rfl) ⟨Nat.zero_le _, Nat.zero_le _⟩ wdX12_passesOnce_13 (fun r Ma2 H locs hp w => ?_)
  rcases hp with ⟨⟨hb1, rfl⟩ | ⟨hb1, rfl⟩, hMe⟩
  · rw [hMe] at w
    refine z_if_eq (tgt := 35) hx hb (by omega) wdX12_passesOnce_16 (by decide) (fun c3 => False.elim (by omega)) (fun c3 => ?_)
    refine lv_aload_n hx hb wdX12_passesOnce_19 rfl (lv_at hl 2 rfl) ?_
    refine f_12_4 F w (a := 146) rfl wtb_114 wdX12_passesOnce_20 ?_
    refine lv_iload_n hx hb wdX12_passesOnce_23 rfl (lv_at hl 1 rfl) ?_
    refine lv_iconst (v := zI 4) hx hb wdX12_passesOnce_24 rfl ?_
    refine z_iadd (z := ((((8 * r) + 4) : Nat) : Int)) hx hb wdX12_passesOnce_25 (by omega) ?_
    refine g_iald F w (a := 149) rfl (j := ((8 * r) + 4)) (ix_n (by omega)) (by omega) wdX12_passesOnce_26 ?_
    refine r_val (v := (zI (P 4))) (hV 4 (by decide)) ?_
    refine lv_iconst (v := zI 1) hx hb wdX12_passesOnce_27 rfl ?_
    refine z_icmp_ne (tgt := 35) hx hb (by omega) (by omega) wdX12_passesOnce_28 (by decide) (fun c4 => ?_) (fun c4 => ?_)
    · refine lv_iconst (v := zI 0) hx hb wdX12_passesOnce_35 rfl ?_
      refine r_val (v := zI (((lfP P) : Nat) : Int)) (congrArg zI (by omega)) ?_
      refine lv_istore (lv' := [(4, .int (zI (((lfP P) : Nat) : Int))), (3, .int (zI (P 0))), (2, .int (zI (((8 * r) : Nat) : Int))), (0, .ref (B + 146)), (1, .int (zI (r : Int)))]) hx hb wdX12_passesOnce_36 hl (by decide) rfl (fun ls hl => ?_)
      refine lv_iload_n hx hb wdX12_passesOnce_38 rfl (lv_at hl 1 rfl) ?_
      refine k_Si F w (As := [.int (zI (P 0))]) (rest := []) (s_X12_isBySyllables (x9 := (P 0)) (by omega)) wgs_X12_140 whs_X12_isBySyllables ⟨(Nat.le_of_ble_eq_true rfl), (Nat.le_of_ble_eq_true rfl)⟩ hl.1 rfl (Nat.le_of_ble_eq_true rfl) ⟨Nat.zero_le _, Nat.zero_le _⟩ wdX12_passesOnce_39 (fun r Ma6 H locs hp w => ?_)
      rcases hp with ⟨⟨hb5, rfl⟩ | ⟨hb5, rfl⟩, hMe⟩
      · exact False.elim (by omega)
      · rw [hMe] at w
        refine z_if_eq (tgt := 160) hx hb (by omega) wdX12_passesOnce_42 (by decide) (fun c7 => ?_) (fun c7 => False.elim (by omega))
        refine lv_iload hx hb wdX12_passesOnce_160 (lv_at hl 0 rfl) ?_
        refine z_if_eq (tgt := 176) hx hb (by omega) wdX12_passesOnce_162 (by decide) (fun c8 => ?_) (fun c8 => ?_)
        · refine lv_iconst (v := zI 0) hx hb wdX12_passesOnce_176 rfl ?_
          have ht8 := t08 P o.1
          refine r_val (v := zI (t0P P o.1)) (congrArg zI (by omega)) ?_
          refine lv_istore (lv' := [(5, .int (zI (t0P P o.1))), (4, .int (zI (((lfP P) : Nat) : Int))), (3, .int (zI (P 0))), (2, .int (zI (((8 * r) : Nat) : Int))), (0, .ref (B + 146)), (1, .int (zI (r : Int)))]) hx hb wdX12_passesOnce_177 hl (by decide) rfl (fun ls hl => ?_)
          refine lp_X12_once_t (z9 := z9) (t0 := t0P P o.1) F (Nat.le_of_ble_eq_true rfl) (Nat.le_of_ble_eq_true rfl) hr8 hG hv0 hv1 (fun tz cc ff Nm o1 H locs ls x0 x1 x2 x3 w hl => ?_) o.1 (t0P P o.1) 0 o.1 M o (hR.e rfl (by omega)) tpI_0 (by omega) (by omega) FrC.rf hV (by omega) (by omega) (by omega) _ _ ls w (lv_sub hl [0, 1, 2, 3, 4, 5] rfl)
          exact e_v F w hr hlocks ⟨o1, cc, (paF_t hv0 hv1.1 hv1.2).trans x1, x0, x2, x3⟩ wdX12_passesOnce_222
        · refine lv_aload_n hx hb wdX12_passesOnce_165 rfl (lv_at hl 3 rfl) ?_
          refine f_12_2 F w (a := 146) rfl wtb_102 wdX12_passesOnce_166 ?_
          refine lv_iconst (v := zI 0) hx hb wdX12_passesOnce_169 rfl ?_
          refine g_iald F w (a := 148) rfl (j := 0) ⟨by decide, by decide⟩ (by omega) wdX12_passesOnce_170 ?_
          refine r_val (v := (zI ((o.1 : Nat) : Int))) (hW.1) ?_
          refine lv_iconst (v := zI 1) hx hb wdX12_passesOnce_171 rfl ?_
          refine z_isub (z := (((o.1 : Nat) : Int) - 1)) hx hb wdX12_passesOnce_172 (by omega) ?_
          refine lv_goto (tgt := 177) hx hb wdX12_passesOnce_173 (by decide) ?_
          have ht8 := t08 P o.1
          refine r_val (v := zI (t0P P o.1)) (congrArg zI (by omega)) ?_
          refine lv_istore (lv' := [(5, .int (zI (t0P P o.1))), (4, .int (zI (((lfP P) : Nat) : Int))), (3, .int (zI (P 0))), (2, .int (zI (((8 * r) : Nat) : Int))), (0, .ref (B + 146)), (1, .int (zI (r : Int)))]) hx hb wdX12_passesOnce_177 hl (by decide) rfl (fun ls hl => ?_)
          refine lp_X12_once_t (z9 := z9) (t0 := t0P P o.1) F (Nat.le_of_ble_eq_true rfl) (Nat.le_of_ble_eq_true rfl) hr8 hG hv0 hv1 (fun tz cc ff Nm o1 H locs ls x0 x1 x2 x3 w hl => ?_) o.1 (t0P P o.1) 0 o.1 M o (hR.e rfl (by omega)) tpI_0 (by omega) (by omega) FrC.rf hV (by omega) (by omega) (by omega) _ _ ls w (lv_sub hl [0, 1, 2, 3, 4, 5] rfl)
          exact e_v F w hr hlocks ⟨o1, cc, (paF_t hv0 hv1.1 hv1.2).trans x1, x0, x2, x3⟩ wdX12_passesOnce_222
    · refine lv_iconst (v := zI 1) hx hb wdX12_passesOnce_31 rfl ?_
      refine lv_goto (tgt := 36) hx hb wdX12_passesOnce_32 (by decide) ?_
      refine r_val (v := zI (((lfP P) : Nat) : Int)) (congrArg zI (by omega)) ?_
      refine lv_istore (lv' := [(4, .int (zI (((lfP P) : Nat) : Int))), (3, .int (zI (P 0))), (2, .int (zI (((8 * r) : Nat) : Int))), (0, .ref (B + 146)), (1, .int (zI (r : Int)))]) hx hb wdX12_passesOnce_36 hl (by decide) rfl (fun ls hl => ?_)
      refine lv_iload_n hx hb wdX12_passesOnce_38 rfl (lv_at hl 1 rfl) ?_
      refine k_Si F w (As := [.int (zI (P 0))]) (rest := []) (s_X12_isBySyllables (x9 := (P 0)) (by omega)) wgs_X12_140 whs_X12_isBySyllables ⟨(Nat.le_of_ble_eq_true rfl), (Nat.le_of_ble_eq_true rfl)⟩ hl.1 rfl (Nat.le_of_ble_eq_true rfl) ⟨Nat.zero_le _, Nat.zero_le _⟩ wdX12_passesOnce_39 (fun r Ma10 H locs hp w => ?_)
      rcases hp with ⟨⟨hb9, rfl⟩ | ⟨hb9, rfl⟩, hMe⟩
      · exact False.elim (by omega)
      · rw [hMe] at w
        refine z_if_eq (tgt := 160) hx hb (by omega) wdX12_passesOnce_42 (by decide) (fun c11 => ?_) (fun c11 => False.elim (by omega))
        refine lv_iload hx hb wdX12_passesOnce_160 (lv_at hl 0 rfl) ?_
        refine z_if_eq (tgt := 176) hx hb (by omega) wdX12_passesOnce_162 (by decide) (fun c12 => ?_) (fun c12 => ?_)
        · refine lv_iconst (v := zI 0) hx hb wdX12_passesOnce_176 rfl ?_
          have ht8 := t08 P o.1
          refine r_val (v := zI (t0P P o.1)) (congrArg zI (by omega)) ?_
          refine lv_istore (lv' := [(5, .int (zI (t0P P o.1))), (4, .int (zI (((lfP P) : Nat) : Int))), (3, .int (zI (P 0))), (2, .int (zI (((8 * r) : Nat) : Int))), (0, .ref (B + 146)), (1, .int (zI (r : Int)))]) hx hb wdX12_passesOnce_177 hl (by decide) rfl (fun ls hl => ?_)
          refine lp_X12_once_t (z9 := z9) (t0 := t0P P o.1) F (Nat.le_of_ble_eq_true rfl) (Nat.le_of_ble_eq_true rfl) hr8 hG hv0 hv1 (fun tz cc ff Nm o1 H locs ls x0 x1 x2 x3 w hl => ?_) o.1 (t0P P o.1) 0 o.1 M o (hR.e rfl (by omega)) tpI_0 (by omega) (by omega) FrC.rf hV (by omega) (by omega) (by omega) _ _ ls w (lv_sub hl [0, 1, 2, 3, 4, 5] rfl)
          exact e_v F w hr hlocks ⟨o1, cc, (paF_t hv0 hv1.1 hv1.2).trans x1, x0, x2, x3⟩ wdX12_passesOnce_222
        · refine lv_aload_n hx hb wdX12_passesOnce_165 rfl (lv_at hl 3 rfl) ?_
          refine f_12_2 F w (a := 146) rfl wtb_102 wdX12_passesOnce_166 ?_
          refine lv_iconst (v := zI 0) hx hb wdX12_passesOnce_169 rfl ?_
          refine g_iald F w (a := 148) rfl (j := 0) ⟨by decide, by decide⟩ (by omega) wdX12_passesOnce_170 ?_
          refine r_val (v := (zI ((o.1 : Nat) : Int))) (hW.1) ?_
          refine lv_iconst (v := zI 1) hx hb wdX12_passesOnce_171 rfl ?_
          refine z_isub (z := (((o.1 : Nat) : Int) - 1)) hx hb wdX12_passesOnce_172 (by omega) ?_
          refine lv_goto (tgt := 177) hx hb wdX12_passesOnce_173 (by decide) ?_
          have ht8 := t08 P o.1
          refine r_val (v := zI (t0P P o.1)) (congrArg zI (by omega)) ?_
          refine lv_istore (lv' := [(5, .int (zI (t0P P o.1))), (4, .int (zI (((lfP P) : Nat) : Int))), (3, .int (zI (P 0))), (2, .int (zI (((8 * r) : Nat) : Int))), (0, .ref (B + 146)), (1, .int (zI (r : Int)))]) hx hb wdX12_passesOnce_177 hl (by decide) rfl (fun ls hl => ?_)
          refine lp_X12_once_t (z9 := z9) (t0 := t0P P o.1) F (Nat.le_of_ble_eq_true rfl) (Nat.le_of_ble_eq_true rfl) hr8 hG hv0 hv1 (fun tz cc ff Nm o1 H locs ls x0 x1 x2 x3 w hl => ?_) o.1 (t0P P o.1) 0 o.1 M o (hR.e rfl (by omega)) tpI_0 (by omega) (by omega) FrC.rf hV (by omega) (by omega) (by omega) _ _ ls w (lv_sub hl [0, 1, 2, 3, 4, 5] rfl)
          exact e_v F w hr hlocks ⟨o1, cc, (paF_t hv0 hv1.1 hv1.2).trans x1, x0, x2, x3⟩ wdX12_passesOnce_222
  · rw [hMe] at w
    refine z_if_eq (tgt := 35) hx hb (by omega) wdX12_passesOnce_16 (by decide) (fun c13 => ?_) (fun c13 => False.elim (by omega))
    refine lv_iconst (v := zI 0) hx hb wdX12_passesOnce_35 rfl ?_
    refine r_val (v := zI (((lfP P) : Nat) : Int)) (congrArg zI (by omega)) ?_
    refine lv_istore (lv' := [(4, .int (zI (((lfP P) : Nat) : Int))), (3, .int (zI (P 0))), (2, .int (zI (((8 * r) : Nat) : Int))), (0, .ref (B + 146)), (1, .int (zI (r : Int)))]) hx hb wdX12_passesOnce_36 hl (by decide) rfl (fun ls hl => ?_)
    refine lv_iload_n hx hb wdX12_passesOnce_38 rfl (lv_at hl 1 rfl) ?_
    refine k_Si F w (As := [.int (zI (P 0))]) (rest := []) (s_X12_isBySyllables (x9 := (P 0)) (by omega)) wgs_X12_140 whs_X12_isBySyllables ⟨(Nat.le_of_ble_eq_true rfl), (Nat.le_of_ble_eq_true rfl)⟩ hl.1 rfl (Nat.le_of_ble_eq_true rfl) ⟨Nat.zero_le _, Nat.zero_le _⟩ wdX12_passesOnce_39 (fun r Ma15 H locs hp w => ?_)
    rcases hp with ⟨⟨hb14, rfl⟩ | ⟨hb14, rfl⟩, hMe⟩
    · exact False.elim (by omega)
    · rw [hMe] at w
      refine z_if_eq (tgt := 160) hx hb (by omega) wdX12_passesOnce_42 (by decide) (fun c16 => ?_) (fun c16 => False.elim (by omega))
      refine lv_iload hx hb wdX12_passesOnce_160 (lv_at hl 0 rfl) ?_
      refine z_if_eq (tgt := 176) hx hb (by omega) wdX12_passesOnce_162 (by decide) (fun c17 => ?_) (fun c17 => ?_)
      · refine lv_iconst (v := zI 0) hx hb wdX12_passesOnce_176 rfl ?_
        have ht8 := t08 P o.1
        refine r_val (v := zI (t0P P o.1)) (congrArg zI (by omega)) ?_
        refine lv_istore (lv' := [(5, .int (zI (t0P P o.1))), (4, .int (zI (((lfP P) : Nat) : Int))), (3, .int (zI (P 0))), (2, .int (zI (((8 * r) : Nat) : Int))), (0, .ref (B + 146)), (1, .int (zI (r : Int)))]) hx hb wdX12_passesOnce_177 hl (by decide) rfl (fun ls hl => ?_)
        refine lp_X12_once_t (z9 := z9) (t0 := t0P P o.1) F (Nat.le_of_ble_eq_true rfl) (Nat.le_of_ble_eq_true rfl) hr8 hG hv0 hv1 (fun tz cc ff Nm o1 H locs ls x0 x1 x2 x3 w hl => ?_) o.1 (t0P P o.1) 0 o.1 M o (hR.e rfl (by omega)) tpI_0 (by omega) (by omega) FrC.rf hV (by omega) (by omega) (by omega) _ _ ls w (lv_sub hl [0, 1, 2, 3, 4, 5] rfl)
        exact e_v F w hr hlocks ⟨o1, cc, (paF_t hv0 hv1.1 hv1.2).trans x1, x0, x2, x3⟩ wdX12_passesOnce_222
      · refine lv_aload_n hx hb wdX12_passesOnce_165 rfl (lv_at hl 3 rfl) ?_
        refine f_12_2 F w (a := 146) rfl wtb_102 wdX12_passesOnce_166 ?_
        refine lv_iconst (v := zI 0) hx hb wdX12_passesOnce_169 rfl ?_
        refine g_iald F w (a := 148) rfl (j := 0) ⟨by decide, by decide⟩ (by omega) wdX12_passesOnce_170 ?_
        refine r_val (v := (zI ((o.1 : Nat) : Int))) (hW.1) ?_
        refine lv_iconst (v := zI 1) hx hb wdX12_passesOnce_171 rfl ?_
        refine z_isub (z := (((o.1 : Nat) : Int) - 1)) hx hb wdX12_passesOnce_172 (by omega) ?_
        refine lv_goto (tgt := 177) hx hb wdX12_passesOnce_173 (by decide) ?_
        have ht8 := t08 P o.1
        refine r_val (v := zI (t0P P o.1)) (congrArg zI (by omega)) ?_
        refine lv_istore (lv' := [(5, .int (zI (t0P P o.1))), (4, .int (zI (((lfP P) : Nat) : Int))), (3, .int (zI (P 0))), (2, .int (zI (((8 * r) : Nat) : Int))), (0, .ref (B + 146)), (1, .int (zI (r : Int)))]) hx hb wdX12_passesOnce_177 hl (by decide) rfl (fun ls hl => ?_)
        refine lp_X12_once_t (z9 := z9) (t0 := t0P P o.1) F (Nat.le_of_ble_eq_true rfl) (Nat.le_of_ble_eq_true rfl) hr8 hG hv0 hv1 (fun tz cc ff Nm o1 H locs ls x0 x1 x2 x3 w hl => ?_) o.1 (t0P P o.1) 0 o.1 M o (hR.e rfl (by omega)) tpI_0 (by omega) (by omega) FrC.rf hV (by omega) (by omega) (by omega) _ _ ls w (lv_sub hl [0, 1, 2, 3, 4, 5] rfl)
        exact e_v F w hr hlocks ⟨o1, cc, (paF_t hv0 hv1.1 hv1.2).trans x1, x0, x2, x3⟩ wdX12_passesOnce_222
theorem r_once {l : Launch} {D : va_G} {B : Nat} {cy : Nat → ClassId} {M : Mem} {q hv ed : Nat} {o : Wo} {z9 : Int} (hR : RW M q hv ed o z9) {r : Nat} {P : Nat → Int} (hr8 : r < 8) (hV : isV M r P) (hG : okG P) : Cv l D B cy yX12_passesOnce cX12_passesOnce 7 6 140 [.ref (B + 146), .int (zI (r : Int))] M (fun M1 => RQ q hv ed (paF P q hv ed o) 1884 z9 M M1) := by
  have hg := hG.2.1
  rcases (show P 0 = 0 ∨ P 0 = 8 ∨ P 0 = 9 ∨ (1 ≤ P 0 ∧ P 0 ≤ 7) by omega) with h | h | h | h
  · exact Cv_mono (s_X12_once_0 hR hr8 hV hG h) (by decide) (by decide) (fun M1 hp => hp)
  · exact Cv_mono (s_X12_once_8 hR hr8 hV hG h) (by decide) (by decide) (fun M1 hp => hp)
  · exact Cv_mono (s_X12_once_9 hR hr8 hV hG h) (by decide) (by decide) (fun M1 hp => hp)
  · exact Cv_mono (s_X12_once_t hR hr8 hV hG (v := (P 0).toNat) (by omega) (by omega)) (by decide) (by decide) (fun M1 hp => hp)
