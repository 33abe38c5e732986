theorem wdX12_sourcesBy_14 : decode cX12_sourcesBy 14 = .ok (.iload_n 3, 1) := dX12_sourcesBy_14
theorem wdX12_sourcesBy_15 : decode cX12_sourcesBy 15 = .ok (.iload_n 1, 1) := dX12_sourcesBy_15
theorem wdX12_sourcesBy_16 : decode cX12_sourcesBy 16 = .ok (.if_icmp .ge 13, 3) := dX12_sourcesBy_16
theorem wdX12_sourcesBy_19 : decode cX12_sourcesBy 19 = .ok (.iload_n 2, 1) := dX12_sourcesBy_19
theorem wdX12_sourcesBy_20 : decode cX12_sourcesBy 20 = .ok (.iconst 3, 1) := dX12_sourcesBy_20
theorem wdX12_sourcesBy_21 : decode cX12_sourcesBy 21 = .ok (.imul, 1) := dX12_sourcesBy_21
theorem wdX12_sourcesBy_22 : decode cX12_sourcesBy 22 = .ok (.istore_n 2, 1) := dX12_sourcesBy_22
theorem wdX12_sourcesBy_23 : decode cX12_sourcesBy 23 = .ok (.iinc 3 1, 3) := dX12_sourcesBy_23
theorem wdX12_sourcesBy_26 : decode cX12_sourcesBy 26 = .ok (.goto (-12), 3) := dX12_sourcesBy_26
set_option maxRecDepth 4000 in
theorem lp_X12_sourcesBy1 {p : Program} {l : Launch} {e : Env} {s : State} {m : MethodId} {args : Array Value} {below : List Frame} {meth : Method} {c : Code} {D : va_G} {B : Nat} {cy : Nat → ClassId} {H0 : Heap} {Q : State → Prop} {M : Mem} {R : Room} {n : Nat} (F : CallFix p m c cX12_sourcesBy 7 s args TB RX12) (hR1 : 0 ≤ R.frames) (hR2 : 0 ≤ R.locals) (hn : n ≤ 6) (kk : ∀ (i : Nat) (H : Heap) (locs : List Loc) (ls : Array Slot), (i = n) → Wd D B cy s H0 M H locs → lv_has ls 7 [(2, .int (zI (((p39 i) : Nat) : Int))), (0, .ref (B + 146)), (1, .int (zI (n : Int)))] → W p l e R s m args below meth c H locs 0 0 Q (F0 m 29 ls [])) : ∀ (f : Nat) (i : Nat), (i ≤ n) → (n ≤ i + f) → ∀ (H : Heap) (locs : List Loc) (ls : Array Slot), Wd D B cy s H0 M H locs → lv_has ls 7 [(3, .int (zI (i : Int))), (2, .int (zI (((p39 i) : Nat) : Int))), (0, .ref (B + 146)), (1, .int (zI (n : Int)))] → W p l e R s m args below meth c H locs 0 0 Q (F0 m 14 ls []) := by
  have hx := F.1
  have hb := F.2.1
  intro f
  induction f with
  | zero =>
    intro i i0 hf H locs ls w hl
    have hp3 := p3_b (i := i) (by omega)
    refine lv_iload_n hx hb wdX12_sourcesBy_14 rfl (lv_at hl 0 rfl) ?_
    refine lv_iload_n hx hb wdX12_sourcesBy_15 rfl (lv_at hl 3 rfl) ?_
    refine z_icmp_ge (tgt := 29) hx hb (by omega) (by omega) wdX12_sourcesBy_16 (by decide) (fun c1 => ?_) (fun c1 => False.elim (by omega))
    exact kk i _ _ ls (by omega) w (lv_sub hl [1, 2, 3] rfl)
  | succ f ih =>
    intro i i0 hf H locs ls w hl
    have hp3 := p3_b (i := i) (by omega)
    refine lv_iload_n hx hb wdX12_sourcesBy_14 rfl (lv_at hl 0 rfl) ?_
    refine lv_iload_n hx hb wdX12_sourcesBy_15 rfl (lv_at hl 3 rfl) ?_
    refine z_icmp_ge (tgt := 29) hx hb (by omega) (by omega) wdX12_sourcesBy_16 (by decide) (fun c1 => ?_) (fun c1 => ?_)
    · exact kk i _ _ ls (by omega) w (lv_sub hl [1, 2, 3] rfl)
    · refine lv_iload_n hx hb wdX12_sourcesBy_19 rfl (lv_at hl 1 rfl) ?_
      refine lv_iconst (v := zI 3) hx hb wdX12_sourcesBy_20 rfl ?_
      refine z_imul (z := ((((p39 i) * 3) : Nat) : Int)) hx hb wdX12_sourcesBy_21 (by omega) ?_
      refine lv_istore_n (lv' := [(2, .int (zI ((((p39 i) * 3) : Nat) : Int))), (3, .int (zI (i : Int))), (0, .ref (B + 146)), (1, .int (zI (n : Int)))]) hx hb wdX12_sourcesBy_22 rfl hl (by decide) rfl (fun ls hl => ?_)
      refine z_iinc (v := (((i + 1) : Nat) : Int)) (lv' := [(3, .int (zI (((i + 1) : Nat) : Int))), (2, .int (zI ((((p39 i) * 3) : Nat) : Int))), (0, .ref (B + 146)), (1, .int (zI (n : Int)))]) hx hb wdX12_sourcesBy_23 hl (k := 1) rfl (by omega) (by decide) rfl (fun ls hl => ?_)
      refine lv_goto (tgt := 14) hx hb wdX12_sourcesBy_26 (by decide) ?_
      replace hl : lv_has ls 7 [(3, .int (zI (((i + 1) : Nat) : Int))), (2, .int (zI (((p39 (i + 1)) : Nat) : Int))), (0, .ref (B + 146)), (1, .int (zI (n : Int)))] := by rw [p3_s]; exact hl
      exact ih (i + 1) (by omega) (by omega) _ _ ls w (lv_sub hl [0, 1, 2, 3] rfl)
theorem wdX12_sourcesBy_64 : decode cX12_sourcesBy 64 = .ok (.iload 6, 2) := dX12_sourcesBy_64
theorem wdX12_sourcesBy_66 : decode cX12_sourcesBy 66 = .ok (.iload_n 1, 1) := dX12_sourcesBy_66
theorem wdX12_sourcesBy_67 : decode cX12_sourcesBy 67 = .ok (.if_icmp .ge 31, 3) := dX12_sourcesBy_67
theorem wdX12_sourcesBy_70 : decode cX12_sourcesBy 70 = .ok (.iload 5, 2) := dX12_sourcesBy_70
theorem wdX12_sourcesBy_72 : decode cX12_sourcesBy 72 = .ok (.iconst 3, 1) := dX12_sourcesBy_72
theorem wdX12_sourcesBy_73 : decode cX12_sourcesBy 73 = .ok (.idiv, 1) := dX12_sourcesBy_73
theorem wdX12_sourcesBy_74 : decode cX12_sourcesBy 74 = .ok (.istore 5, 2) := dX12_sourcesBy_74
theorem wdX12_sourcesBy_76 : decode cX12_sourcesBy 76 = .ok (.aload_n 0, 1) := dX12_sourcesBy_76
theorem wdX12_sourcesBy_77 : decode cX12_sourcesBy 77 = .ok (.getfield 17, 3) := dX12_sourcesBy_77
theorem wdX12_sourcesBy_80 : decode cX12_sourcesBy 80 = .ok (.iload 6, 2) := dX12_sourcesBy_80
theorem wdX12_sourcesBy_82 : decode cX12_sourcesBy 82 = .ok (.iload 4, 2) := dX12_sourcesBy_82
theorem wdX12_sourcesBy_84 : decode cX12_sourcesBy 84 = .ok (.iload 5, 2) := dX12_sourcesBy_84
theorem wdX12_sourcesBy_86 : decode cX12_sourcesBy 86 = .ok (.idiv, 1) := dX12_sourcesBy_86
theorem wdX12_sourcesBy_87 : decode cX12_sourcesBy 87 = .ok (.iconst 3, 1) := dX12_sourcesBy_87
theorem wdX12_sourcesBy_88 : decode cX12_sourcesBy 88 = .ok (.irem, 1) := dX12_sourcesBy_88
theorem wdX12_sourcesBy_89 : decode cX12_sourcesBy 89 = .ok (.invokestatic 112, 3) := dX12_sourcesBy_89
theorem wdX12_sourcesBy_92 : decode cX12_sourcesBy 92 = .ok (.iinc 6 1, 3) := dX12_sourcesBy_92
theorem wdX12_sourcesBy_95 : decode cX12_sourcesBy 95 = .ok (.goto (-31), 3) := dX12_sourcesBy_95
set_option maxRecDepth 4000 in
theorem lp_X12_sourcesBy3 {p : Program} {l : Launch} {e : Env} {s : State} {m : MethodId} {args : Array Value} {below : List Frame} {meth : Method} {c : Code} {D : va_G} {B : Nat} {cy : Nat → ClassId} {H0 : Heap} {Q : State → Prop} {M : Mem} {R : Room} {Ps : Nat → Nat → Int} {mr q hv ed n cz : Nat} {o : Wo} (F : CallFix p m c cX12_sourcesBy 7 s args TB RX12) (hR1 : 1 ≤ R.frames) (hR2 : 23 ≤ R.locals) (hwf : wf o.1 q hv ed o.2.1 o.2.2) (hn : n ≤ 6) (hc : cz < 729) (kk : ∀ (j : Nat) (Nc : Mem) (H : Heap) (locs : List Loc) (ls : Array Slot), (isR Nc 148 n q hv ed (srK n cz) srL) → (Fr1 Nc M 148) → Wd D B cy s H0 Nc H locs → lv_has ls 7 [(4, .int (zI (cz : Int))), (3, .int (zI (((scF Ps mr (q, hv, ed, o) n cz) : Nat) : Int))), (2, .int (zI (((p39 n) : Nat) : Int))), (0, .ref (B + 146)), (1, .int (zI (n : Int)))] → W p l e R s m args below meth c H locs 0 0 Q (F0 m 98 ls [])) : ∀ (f : Nat) (j : Nat) (Nc : Mem), (j ≤ n) → (isR Nc 148 j q hv ed (srK n cz) srL) → (Fr1 Nc M 148) → (n ≤ j + f) → ∀ (H : Heap) (locs : List Loc) (ls : Array Slot), Wd D B cy s H0 Nc H locs → lv_has ls 7 [(6, .int (zI (j : Int))), (5, .int (zI (((p39 (n - j)) : Nat) : Int))), (4, .int (zI (cz : Int))), (3, .int (zI (((scF Ps mr (q, hv, ed, o) n cz) : Nat) : Int))), (2, .int (zI (((p39 n) : Nat) : Int))), (0, .ref (B + 146)), (1, .int (zI (n : Int)))] → W p l e R s m args below meth c H locs 0 0 Q (F0 m 64 ls []) := by
  have hx := F.1
  have hb := F.2.1
  intro f
  induction f with
  | zero =>
    intro j Nc i0 i1 i2 hf H locs ls w hl
    have hs3 := sr3_le cz (n - 1 - j)
    have hpj := p3_b (i := n - 1 - j) (by omega)
    have hpk := p3_b (i := n - j) (by omega)
    refine lv_iload hx hb wdX12_sourcesBy_64 (lv_at hl 0 rfl) ?_
    refine lv_iload_n hx hb wdX12_sourcesBy_66 rfl (lv_at hl 6 rfl) ?_
    refine z_icmp_ge (tgt := 98) hx hb (by omega) (by omega) wdX12_sourcesBy_67 (by decide) (fun c1 => ?_) (fun c1 => False.elim (by omega))
    exact kk j Nc _ _ ls (by have h9 := i1; rw [show j = n by omega] at h9; exact h9) i2 w (lv_sub hl [2, 3, 4, 5, 6] rfl)
  | succ f ih =>
    intro j Nc i0 i1 i2 hf H locs ls w hl
    have hs3 := sr3_le cz (n - 1 - j)
    have hpj := p3_b (i := n - 1 - j) (by omega)
    have hpk := p3_b (i := n - j) (by omega)
    refine lv_iload hx hb wdX12_sourcesBy_64 (lv_at hl 0 rfl) ?_
    refine lv_iload_n hx hb wdX12_sourcesBy_66 rfl (lv_at hl 6 rfl) ?_
    refine z_icmp_ge (tgt := 98) hx hb (by omega) (by omega) wdX12_sourcesBy_67 (by decide) (fun c1 => ?_) (fun c1 => ?_)
    · exact kk j Nc _ _ ls (by have h9 := i1; rw [show j = n by omega] at h9; exact h9) i2 w (lv_sub hl [2, 3, 4, 5, 6] rfl)
    · refine lv_iload hx hb wdX12_sourcesBy_70 (lv_at hl 1 rfl) ?_
      refine lv_iconst (v := zI 3) hx hb wdX12_sourcesBy_72 rfl ?_
      refine lv_idiv hx hb wdX12_sourcesBy_73 (nz_z (by omega) (by omega)) ?_
      refine r_val (v := zI ((((p39 (n - j)) / 3) : Nat) : Int)) (div_zI (by omega) (by omega)) ?_
      refine r_val (v := (zI (((p39 (n - 1 - j)) : Nat) : Int))) (congrArg (fun v9 : Nat => zI (v9 : Int)) (p3_d (by omega))) ?_
      refine lv_istore (lv' := [(5, .int (zI (((p39 (n - 1 - j)) : Nat) : Int))), (6, .int (zI (j : Int))), (4, .int (zI (cz : Int))), (3, .int (zI (((scF Ps mr (q, hv, ed, o) n cz) : Nat) : Int))), (2, .int (zI (((p39 n) : Nat) : Int))), (0, .ref (B + 146)), (1, .int (zI (n : Int)))]) hx hb wdX12_sourcesBy_74 hl (by decide) rfl (fun ls hl => ?_)
      refine lv_aload_n hx hb wdX12_sourcesBy_76 rfl (lv_at hl 5 rfl) ?_
      refine f_12_2 F w (a := 146) rfl wtb_102 wdX12_sourcesBy_77 ?_
      refine lv_iload hx hb wdX12_sourcesBy_80 (lv_at hl 1 rfl) ?_
      refine lv_iload hx hb wdX12_sourcesBy_82 (lv_at hl 2 rfl) ?_
      refine lv_iload hx hb wdX12_sourcesBy_84 (lv_at hl 0 rfl) ?_
      refine lv_idiv hx hb wdX12_sourcesBy_86 (nz_z (by omega) (by omega)) ?_
      refine r_val (v := zI (((cz / (p39 (n - 1 - j))) : Nat) : Int)) (div_zI (by omega) (by omega)) ?_
      refine r_val (v := (zI (((sr3 cz (n - 1 - j)) : Nat) : Int))) rfl ?_
      refine lv_iconst (v := zI 3) hx hb wdX12_sourcesBy_87 rfl ?_
      refine lv_irem hx hb wdX12_sourcesBy_88 (nz_z (by omega) (by omega)) ?_
      refine r_val (v := zI ((((sr3 cz (n - 1 - j)) % 3) : Nat) : Int)) (rem_zI (by omega) (by omega)) ?_
      refine k_Sv F w (As := [.ref (B + 148), .int (zI (j : Int)), .int (zI ((((sr3 cz (n - 1 - j)) % 3) : Nat) : Int))]) (rest := []) (s_X12_insert (a := 148) rfl i1 (wf_sr hwf (by omega)) (t := j) (x := sr3 cz (n - 1 - j) % 3) (Nat.le_refl _) (by omega) (by omega)) wgs_X12_112 whs_X12_insert ⟨(by omega), (by omega)⟩ hl.1 rfl (Nat.le_of_ble_eq_true rfl) ⟨Nat.zero_le _, Nat.zero_le _⟩ wdX12_sourcesBy_89 (fun Ma2 H locs hp w => ?_)
      rcases hp with ⟨hW3, hF3⟩
      refine z_iinc (v := (((j + 1) : Nat) : Int)) (lv' := [(6, .int (zI (((j + 1) : Nat) : Int))), (5, .int (zI (((p39 (n - 1 - j)) : Nat) : Int))), (4, .int (zI (cz : Int))), (3, .int (zI (((scF Ps mr (q, hv, ed, o) n cz) : Nat) : Int))), (2, .int (zI (((p39 n) : Nat) : Int))), (0, .ref (B + 146)), (1, .int (zI (n : Int)))]) hx hb wdX12_sourcesBy_92 hl (k := 1) rfl (by omega) (by decide) rfl (fun ls hl => ?_)
      refine lv_goto (tgt := 64) hx hb wdX12_sourcesBy_95 (by decide) ?_
      replace hl : lv_has ls 7 [(6, .int (zI (((j + 1) : Nat) : Int))), (5, .int (zI (((p39 (n - (j + 1))) : Nat) : Int))), (4, .int (zI (cz : Int))), (3, .int (zI (((scF Ps mr (q, hv, ed, o) n cz) : Nat) : Int))), (2, .int (zI (((p39 n) : Nat) : Int))), (0, .ref (B + 146)), (1, .int (zI (n : Int)))] := by rw [show n - (j + 1) = n - 1 - j by omega]; exact hl
      exact ih (j + 1) Ma2 (by omega) (hW3.cg sr_insN (fun k9 _ => sr_insL k9)) (Fr1.t2 i2 hF3) (by omega) _ _ ls w (lv_sub hl [0, 1, 2, 3, 4, 5, 6] rfl)
theorem wdX12_sourcesBy_101 : decode cX12_sourcesBy 101 = .ok (.iload 6, 2) := dX12_sourcesBy_101
theorem wdX12_sourcesBy_103 : decode cX12_sourcesBy 103 = .ok (.aload_n 0, 1) := dX12_sourcesBy_103
theorem wdX12_sourcesBy_104 : decode cX12_sourcesBy 104 = .ok (.getfield 239, 3) := dX12_sourcesBy_104
theorem wdX12_sourcesBy_107 : decode cX12_sourcesBy 107 = .ok (.if_icmp .ge 16, 3) := dX12_sourcesBy_107
theorem wdX12_sourcesBy_110 : decode cX12_sourcesBy 110 = .ok (.aload_n 0, 1) := dX12_sourcesBy_110
theorem wdX12_sourcesBy_111 : decode cX12_sourcesBy 111 = .ok (.iload 6, 2) := dX12_sourcesBy_111
theorem wdX12_sourcesBy_113 : decode cX12_sourcesBy 113 = .ok (.invokevirtual 166, 3) := dX12_sourcesBy_113
theorem wdX12_sourcesBy_116 : decode cX12_sourcesBy 116 = .ok (.pop, 1) := dX12_sourcesBy_116
theorem wdX12_sourcesBy_117 : decode cX12_sourcesBy 117 = .ok (.iinc 6 1, 3) := dX12_sourcesBy_117
theorem wdX12_sourcesBy_120 : decode cX12_sourcesBy 120 = .ok (.goto (-19), 3) := dX12_sourcesBy_120
set_option maxRecDepth 4000 in
theorem lp_X12_sourcesBy4 {p : Program} {l : Launch} {e : Env} {s : State} {m : MethodId} {args : Array Value} {below : List Frame} {meth : Method} {c : Code} {D : va_G} {B : Nat} {cy : Nat → ClassId} {H0 : Heap} {Q : State → Prop} {M : Mem} {R : Room} {Ps : Nat → Nat → Int} {mr k q hv ed n cz : Nat} {o : Wo} {Hs : Nat → Fw} (F : CallFix p m c cX12_sourcesBy 7 s args TB RX12) (hR1 : 8 ≤ R.frames) (hR2 : 189 ≤ R.locals) (hm8 : mr ≤ 8) (kk : ∀ (r : Nat) (z : Int) (Nd : Mem) (H : Heap) (locs : List Loc) (ls : Array Slot), (RW Nd q hv ed (sg9 Ps (q, hv, ed, srO n cz) mr) z) → (MS Nd Ps mr (q, hv, ed, o) Hs k) → (isDu Nd q (sg9 Ps (q, hv, ed, o) mr)) → (Nd.1 146 26 = zI (sfF Ps mr (q, hv, ed, o) n cz)) → Wd D B cy s H0 Nd H locs → lv_has ls 7 [(4, .int (zI (cz : Int))), (3, .int (zI (((scF Ps mr (q, hv, ed, o) n cz) : Nat) : Int))), (2, .int (zI (((p39 n) : Nat) : Int))), (0, .ref (B + 146)), (1, .int (zI (n : Int)))] → W p l e R s m args below meth c H locs 0 0 Q (F0 m 123 ls [])) : ∀ (f : Nat) (r : Nat) (z : Int) (Nd : Mem), (r ≤ mr) → (RW Nd q hv ed (sg9 Ps (q, hv, ed, srO n cz) r) z) → (MS Nd Ps mr (q, hv, ed, o) Hs k) → (isDu Nd q (sg9 Ps (q, hv, ed, o) mr)) → (Nd.1 146 26 = zI (sfF Ps mr (q, hv, ed, o) n cz)) → (mr ≤ r + f) → ∀ (H : Heap) (locs : List Loc) (ls : Array Slot), Wd D B cy s H0 Nd H locs → lv_has ls 7 [(6, .int (zI (r : Int))), (4, .int (zI (cz : Int))), (3, .int (zI (((scF Ps mr (q, hv, ed, o) n cz) : Nat) : Int))), (2, .int (zI (((p39 n) : Nat) : Int))), (0, .ref (B + 146)), (1, .int (zI (n : Int)))] → W p l e R s m args below meth c H locs 0 0 Q (F0 m 101 ls []) := by
  have hx := F.1
  have hb := F.2.1
  intro f
  induction f with
  | zero =>
    intro r z Nd i0 i1 i2 i3 i4 hf H locs ls w hl
    refine lv_iload hx hb wdX12_sourcesBy_101 (lv_at hl 0 rfl) ?_
    refine lv_aload_n hx hb wdX12_sourcesBy_103 rfl (lv_at hl 4 rfl) ?_
    refine f_12_5 F w (a := 146) rfl wtb_291 wdX12_sourcesBy_104 ?_
    refine r_val (v := (zI (mr : Int))) (i2.2.1) ?_
    refine z_icmp_ge (tgt := 123) hx hb (by omega) (by omega) wdX12_sourcesBy_107 (by decide) (fun c1 => ?_) (fun c1 => False.elim (by omega))
    exact kk r z Nd _ _ ls (by have h9 := i1; rw [show r = mr by omega] at h9; exact h9) i2 i3 i4 w (lv_sub hl [1, 2, 3, 4, 5] rfl)
  | succ f ih =>
    intro r z Nd i0 i1 i2 i3 i4 hf H locs ls w hl
    refine lv_iload hx hb wdX12_sourcesBy_101 (lv_at hl 0 rfl) ?_
    refine lv_aload_n hx hb wdX12_sourcesBy_103 rfl (lv_at hl 4 rfl) ?_
    refine f_12_5 F w (a := 146) rfl wtb_291 wdX12_sourcesBy_104 ?_
    refine r_val (v := (zI (mr : Int))) (i2.2.1) ?_
    refine z_icmp_ge (tgt := 123) hx hb (by omega) (by omega) wdX12_sourcesBy_107 (by decide) (fun c1 => ?_) (fun c1 => ?_)
    · exact kk r z Nd _ _ ls (by have h9 := i1; rw [show r = mr by omega] at h9; exact h9) i2 i3 i4 w (lv_sub hl [1, 2, 3, 4, 5] rfl)
    · refine lv_aload_n hx hb wdX12_sourcesBy_110 rfl (lv_at hl 4 rfl) ?_
      refine lv_iload hx hb wdX12_sourcesBy_111 (lv_at hl 0 rfl) ?_
      refine k_Vi F w (As := [.int (zI (r : Int))]) (rest := []) (a := 146) (kd_lt (a := 146) (show kd 146 = (12, 0, 0) from rfl) (by decide)) (sh_12 rfl _ _) rfl (s_X12_works i1 (r := r) (by omega) (i2.1.2 r (by omega)).1 (i2.1.2 r (by omega)).2) wgv_X12_166 whv_X12_works ⟨(by omega), (by omega)⟩ hl.1 rfl (Nat.le_of_ble_eq_true rfl) ⟨Nat.zero_le _, Nat.zero_le _⟩ wdX12_sourcesBy_113 (fun r Ma2 H locs hp w => ?_)
      rcases hp with ⟨oU, dU, pU, eU, rfl, ⟨zU, hRU⟩, hFU, hpU, hdU, hp20⟩
      have hSU := i2.fw hFU
      refine lv_pop hx hb wdX12_sourcesBy_116 rfl ?_
      refine z_iinc (v := (((r + 1) : Nat) : Int)) (lv' := [(6, .int (zI (((r + 1) : Nat) : Int))), (4, .int (zI (cz : Int))), (3, .int (zI (((scF Ps mr (q, hv, ed, o) n cz) : Nat) : Int))), (2, .int (zI (((p39 n) : Nat) : Int))), (0, .ref (B + 146)), (1, .int (zI (n : Int)))]) hx hb wdX12_sourcesBy_117 hl (k := 0) rfl (by omega) (by decide) rfl (fun ls hl => ?_)
      refine lv_goto (tgt := 101) hx hb wdX12_sourcesBy_120 (by decide) ?_
      exact ih (r + 1) zU Ma2 (by omega) (by rw [sg9_x eU]; exact hRU) hSU (i3.fr (hFU.1 157 (by decide) (by decide))) ((hFU.2.1 26 (by decide) (by decide)).trans i4) (by omega) _ _ ls w (lv_sub hl [0, 1, 2, 3, 4, 5] rfl)
theorem wdX12_sourcesBy_34 : decode cX12_sourcesBy 34 = .ok (.iload 4, 2) := dX12_sourcesBy_34
theorem wdX12_sourcesBy_36 : decode cX12_sourcesBy 36 = .ok (.iload_n 2, 1) := dX12_sourcesBy_36
theorem wdX12_sourcesBy_37 : decode cX12_sourcesBy 37 = .ok (.if_icmp .ge 115, 3) := dX12_sourcesBy_37
theorem wdX12_sourcesBy_40 : decode cX12_sourcesBy 40 = .ok (.aload_n 0, 1) := dX12_sourcesBy_40
theorem wdX12_sourcesBy_41 : decode cX12_sourcesBy 41 = .ok (.getfield 17, 3) := dX12_sourcesBy_41
theorem wdX12_sourcesBy_44 : decode cX12_sourcesBy 44 = .ok (.aload_n 0, 1) := dX12_sourcesBy_44
theorem wdX12_sourcesBy_45 : decode cX12_sourcesBy 45 = .ok (.getfield 13, 3) := dX12_sourcesBy_45
theorem wdX12_sourcesBy_48 : decode cX12_sourcesBy 48 = .ok (.invokestatic 162, 3) := dX12_sourcesBy_48
theorem wdX12_sourcesBy_51 : decode cX12_sourcesBy 51 = .ok (.aload_n 0, 1) := dX12_sourcesBy_51
theorem wdX12_sourcesBy_52 : decode cX12_sourcesBy 52 = .ok (.getfield 17, 3) := dX12_sourcesBy_52
theorem wdX12_sourcesBy_55 : decode cX12_sourcesBy 55 = .ok (.iconst 0, 1) := dX12_sourcesBy_55
theorem wdX12_sourcesBy_56 : decode cX12_sourcesBy 56 = .ok (.iconst 0, 1) := dX12_sourcesBy_56
theorem wdX12_sourcesBy_57 : decode cX12_sourcesBy 57 = .ok (.iastore, 1) := dX12_sourcesBy_57
theorem wdX12_sourcesBy_58 : decode cX12_sourcesBy 58 = .ok (.iload_n 2, 1) := dX12_sourcesBy_58
theorem wdX12_sourcesBy_59 : decode cX12_sourcesBy 59 = .ok (.istore 5, 2) := dX12_sourcesBy_59
theorem wdX12_sourcesBy_61 : decode cX12_sourcesBy 61 = .ok (.iconst 0, 1) := dX12_sourcesBy_61
theorem wdX12_sourcesBy_62 : decode cX12_sourcesBy 62 = .ok (.istore 6, 2) := dX12_sourcesBy_62
theorem wdX12_sourcesBy_98 : decode cX12_sourcesBy 98 = .ok (.iconst 0, 1) := dX12_sourcesBy_98
theorem wdX12_sourcesBy_99 : decode cX12_sourcesBy 99 = .ok (.istore 6, 2) := dX12_sourcesBy_99
theorem wdX12_sourcesBy_123 : decode cX12_sourcesBy 123 = .ok (.aload_n 0, 1) := dX12_sourcesBy_123
theorem wdX12_sourcesBy_124 : decode cX12_sourcesBy 124 = .ok (.invokevirtual 306, 3) := dX12_sourcesBy_124
theorem wdX12_sourcesBy_127 : decode cX12_sourcesBy 127 = .ok (.ifCond .ne 6, 3) := dX12_sourcesBy_127
theorem wdX12_sourcesBy_133 : decode cX12_sourcesBy 133 = .ok (.iload_n 3, 1) := dX12_sourcesBy_133
theorem wdX12_sourcesBy_134 : decode cX12_sourcesBy 134 = .ok (.ifCond .ne 9, 3) := dX12_sourcesBy_134
theorem wdX12_sourcesBy_143 : decode cX12_sourcesBy 143 = .ok (.iinc 3 1, 3) := dX12_sourcesBy_143
theorem wdX12_sourcesBy_146 : decode cX12_sourcesBy 146 = .ok (.iinc 4 1, 3) := dX12_sourcesBy_146
theorem wdX12_sourcesBy_149 : decode cX12_sourcesBy 149 = .ok (.goto (-115), 3) := dX12_sourcesBy_149
theorem wdX12_sourcesBy_137 : decode cX12_sourcesBy 137 = .ok (.aload_n 0, 1) := dX12_sourcesBy_137
theorem wdX12_sourcesBy_138 : decode cX12_sourcesBy 138 = .ok (.iload 4, 2) := dX12_sourcesBy_138
theorem wdX12_sourcesBy_140 : decode cX12_sourcesBy 140 = .ok (.putfield 318, 3) := dX12_sourcesBy_140
theorem wtb_461 : Cond.fieldLink "ToneLinesModel" 318 "ToneLinesModel" "firstSource" "I" ∈ TB := tb_708
theorem wdX12_sourcesBy_130 : decode cX12_sourcesBy 130 = .ok (.goto 16, 3) := dX12_sourcesBy_130
set_option maxRecDepth 4000 in
theorem lp_X12_sourcesBy2 {p : Program} {l : Launch} {e : Env} {s : State} {m : MethodId} {args : Array Value} {below : List Frame} {meth : Method} {c : Code} {D : va_G} {B : Nat} {cy : Nat → ClassId} {H0 : Heap} {Q : State → Prop} {M : Mem} {R : Room} {Ps : Nat → Nat → Int} {mr k q hv ed n : Nat} {o : Wo} {Hs : Nat → Fw} (F : CallFix p m c cX12_sourcesBy 7 s args TB RX12) (hR1 : 8 ≤ R.frames) (hR2 : 189 ≤ R.locals) (hm8 : mr ≤ 8) (hn : n ≤ 6) (hokm : okW q (sg9 Ps (q, hv, ed, o) mr)) (hwf : wf o.1 q hv ed o.2.1 o.2.2) (kk : ∀ (cz : Nat) (Nm : Mem) (H : Heap) (locs : List Loc) (ls : Array Slot), (cz = p39 n) → (Nm.1 146 26 = zI (sfF Ps mr (q, hv, ed, o) n (p39 n))) → Wd D B cy s H0 Nm H locs → lv_has ls 7 [(3, .int (zI (((scF Ps mr (q, hv, ed, o) n cz) : Nat) : Int)))] → W p l e R s m args below meth c H locs 0 0 Q (F0 m 152 ls [])) : ∀ (f : Nat) (cz : Nat) (Nm : Mem), (cz ≤ p39 n) → (MS Nm Ps mr (q, hv, ed, o) Hs k) → (isDu Nm q (sg9 Ps (q, hv, ed, o) mr)) → (Nm.1 146 26 = zI (sfF Ps mr (q, hv, ed, o) n cz)) → (p39 n ≤ cz + f) → ∀ (H : Heap) (locs : List Loc) (ls : Array Slot), Wd D B cy s H0 Nm H locs → lv_has ls 7 [(4, .int (zI (cz : Int))), (3, .int (zI (((scF Ps mr (q, hv, ed, o) n cz) : Nat) : Int))), (2, .int (zI (((p39 n) : Nat) : Int))), (0, .ref (B + 146)), (1, .int (zI (n : Int)))] → W p l e R s m args below meth c H locs 0 0 Q (F0 m 34 ls []) := by
  have hx := F.1
  have hb := F.2.1
  have hpn := p3_b hn
  intro f
  induction f with
  | zero =>
    intro cz Nm i0 i1 i2 i3 hf H locs ls w hl
    have hsc := sc_le (Ps := Ps) (m := mr) (n := n) (x := (q, hv, ed, o)) cz
    have hsf := sf_b (Ps := Ps) (m := mr) (n := n) (x := (q, hv, ed, o)) cz
    refine lv_iload hx hb wdX12_sourcesBy_34 (lv_at hl 0 rfl) ?_
    refine lv_iload_n hx hb wdX12_sourcesBy_36 rfl (lv_at hl 2 rfl) ?_
    refine z_icmp_ge (tgt := 152) hx hb (by omega) (by omega) wdX12_sourcesBy_37 (by decide) (fun c1 => ?_) (fun c1 => False.elim (by omega))
    exact kk cz Nm _ _ ls (by omega) (by have h9 := i3; rw [show cz = p39 n by omega] at h9; exact h9) w (lv_sub hl [1] rfl)
  | succ f ih =>
    intro cz Nm i0 i1 i2 i3 hf H locs ls w hl
    have hsc := sc_le (Ps := Ps) (m := mr) (n := n) (x := (q, hv, ed, o)) cz
    have hsf := sf_b (Ps := Ps) (m := mr) (n := n) (x := (q, hv, ed, o)) cz
    refine lv_iload hx hb wdX12_sourcesBy_34 (lv_at hl 0 rfl) ?_
    refine lv_iload_n hx hb wdX12_sourcesBy_36 rfl (lv_at hl 2 rfl) ?_
    refine z_icmp_ge (tgt := 152) hx hb (by omega) (by omega) wdX12_sourcesBy_37 (by decide) (fun c1 => ?_) (fun c1 => ?_)
    · exact kk cz Nm _ _ ls (by omega) (by have h9 := i3; rw [show cz = p39 n by omega] at h9; exact h9) w (lv_sub hl [1] rfl)
    · refine lv_aload_n hx hb wdX12_sourcesBy_40 rfl (lv_at hl 3 rfl) ?_
      refine f_12_2 F w (a := 146) rfl wtb_102 wdX12_sourcesBy_41 ?_
      refine lv_aload_n hx hb wdX12_sourcesBy_44 rfl (lv_at hl 3 rfl) ?_
      refine f_12_1 F w (a := 146) rfl wtb_179 wdX12_sourcesBy_45 ?_
      refine k_Sv F w (As := [.ref (B + 148), .ref (B + 147)]) (rest := []) (s_X12_copy (a := 148) (b := 147) rfl rfl (by decide) i1.T.1 i1.T.wf) wgs_X12_162 whs_X12_copy ⟨(by omega), (by omega)⟩ hl.1 rfl (Nat.le_of_ble_eq_true rfl) ⟨Nat.zero_le _, Nat.zero_le _⟩ wdX12_sourcesBy_48 (fun Ma2 H locs hp w => ?_)
      rcases hp with ⟨hW2, hF2⟩
      refine lv_aload_n hx hb wdX12_sourcesBy_51 rfl (lv_at hl 3 rfl) ?_
      refine f_12_2 F w (a := 146) rfl wtb_102 wdX12_sourcesBy_52 ?_
      refine lv_iconst (v := zI 0) hx hb wdX12_sourcesBy_55 rfl ?_
      refine lv_iconst (v := zI 0) hx hb wdX12_sourcesBy_56 rfl ?_
      refine g_iast F w (a := 148) rfl (j := 0) ⟨by decide, by decide⟩ (by omega) wdX12_sourcesBy_57 (fun H locs w => ?_)
      refine lv_iload_n hx hb wdX12_sourcesBy_58 rfl (lv_at hl 2 rfl) ?_
      refine lv_istore (lv' := [(5, .int (zI (((p39 n) : Nat) : Int))), (4, .int (zI (cz : Int))), (3, .int (zI (((scF Ps mr (q, hv, ed, o) n cz) : Nat) : Int))), (2, .int (zI (((p39 n) : Nat) : Int))), (0, .ref (B + 146)), (1, .int (zI (n : Int)))]) hx hb wdX12_sourcesBy_59 hl (by decide) rfl (fun ls hl => ?_)
      refine lv_iconst (v := zI 0) hx hb wdX12_sourcesBy_61 rfl ?_
      refine lv_istore (lv' := [(6, .int (zI 0)), (5, .int (zI (((p39 n) : Nat) : Int))), (4, .int (zI (cz : Int))), (3, .int (zI (((scF Ps mr (q, hv, ed, o) n cz) : Nat) : Int))), (2, .int (zI (((p39 n) : Nat) : Int))), (0, .ref (B + 146)), (1, .int (zI (n : Int)))]) hx hb wdX12_sourcesBy_62 hl (by decide) rfl (fun ls hl => ?_)
      replace hl : lv_has ls 7 [(6, .int (zI 0)), (5, .int (zI (((p39 (n - 0)) : Nat) : Int))), (4, .int (zI (cz : Int))), (3, .int (zI (((scF Ps mr (q, hv, ed, o) n cz) : Nat) : Int))), (2, .int (zI (((p39 n) : Nat) : Int))), (0, .ref (B + 146)), (1, .int (zI (n : Int)))] := by rw [Nat.sub_zero]; exact hl
      refine lp_X12_sourcesBy3  F (by omega) (by omega) hwf hn (by omega) (fun j Nc H locs ls x0 x1 w hl => ?_) n 0 (st Ma2 148 0 (zI 0)) (Nat.zero_le _) (R_z hW2) (Fr1.t2 hF2 Fr1.s) (by omega) _ _ ls w (lv_sub hl [0, 1, 2, 3, 4, 5, 6] rfl)
      have hS3 := i1.fw (FrQ9.of1 x1)
      have hD3 := i2.fr (x1.1 157 (by decide))
      have hf3 := (congrFun (x1.1 146 (by decide)) 26).trans i3
      obtain ⟨z9, hR0⟩ := RW.sr x0 hwf.2.1 (by omega) hwf.2.2.1 hwf.2.2.2.1
      refine lv_iconst (v := zI 0) hx hb wdX12_sourcesBy_98 rfl ?_
      refine lv_istore (lv' := [(6, .int (zI 0)), (4, .int (zI (cz : Int))), (3, .int (zI (((scF Ps mr (q, hv, ed, o) n cz) : Nat) : Int))), (2, .int (zI (((p39 n) : Nat) : Int))), (0, .ref (B + 146)), (1, .int (zI (n : Int)))]) hx hb wdX12_sourcesBy_99 hl (by decide) rfl (fun ls hl => ?_)
      refine lp_X12_sourcesBy4 (M := M) F (by omega) (by omega) hm8 (fun r z Nd H locs ls x0 x1 x2 x3 w hl => ?_) mr 0 z9 Nc (by omega) hR0 hS3 hD3 hf3 (by omega) _ _ ls w (lv_sub hl [0, 1, 2, 3, 4, 5] rfl)
      refine lv_aload_n hx hb wdX12_sourcesBy_123 rfl (lv_at hl 3 rfl) ?_
      refine k_Vi F w (As := []) (rest := []) (a := 146) (kd_lt (a := 146) (show kd 146 = (12, 0, 0) from rfl) (by decide)) (sh_12 rfl _ _) rfl (k_isDue x0 x2 hokm) wgv_X12_306 whv_X12_isDue ⟨(by omega), (by omega)⟩ hl.1 rfl (Nat.le_of_ble_eq_true rfl) ⟨Nat.zero_le _, Nat.zero_le _⟩ wdX12_sourcesBy_124 (fun r Ma3 H locs hp w => ?_)
      rcases hp with ⟨⟨hra, rfl⟩ | ⟨hra, rfl⟩, hMe⟩
      · rw [hMe] at w
        have hrd : rdE (q, hv, ed, o).1 (srW Ps mr (q, hv, ed, o) n cz) (sg9 Ps (q, hv, ed, o) mr) := hra
        refine z_if_ne (tgt := 133) hx hb (by omega) wdX12_sourcesBy_127 (by decide) (fun c4 => ?_) (fun c4 => False.elim (by omega))
        refine lv_iload_n hx hb wdX12_sourcesBy_133 rfl (lv_at hl 1 rfl) ?_
        refine z_if_ne (tgt := 143) hx hb (by omega) wdX12_sourcesBy_134 (by decide) (fun c5 => ?_) (fun c5 => ?_)
        · refine z_iinc (v := ((((scF Ps mr (q, hv, ed, o) n cz) + 1) : Nat) : Int)) (lv' := [(3, .int (zI ((((scF Ps mr (q, hv, ed, o) n cz) + 1) : Nat) : Int))), (4, .int (zI (cz : Int))), (2, .int (zI (((p39 n) : Nat) : Int))), (0, .ref (B + 146)), (1, .int (zI (n : Int)))]) hx hb wdX12_sourcesBy_143 hl (k := 1) rfl (by omega) (by decide) rfl (fun ls hl => ?_)
          refine z_iinc (v := (((cz + 1) : Nat) : Int)) (lv' := [(4, .int (zI (((cz + 1) : Nat) : Int))), (3, .int (zI ((((scF Ps mr (q, hv, ed, o) n cz) + 1) : Nat) : Int))), (2, .int (zI (((p39 n) : Nat) : Int))), (0, .ref (B + 146)), (1, .int (zI (n : Int)))]) hx hb wdX12_sourcesBy_146 hl (k := 1) rfl (by omega) (by decide) rfl (fun ls hl => ?_)
          refine lv_goto (tgt := 34) hx hb wdX12_sourcesBy_149 (by decide) ?_
          replace hl : lv_has ls 7 [(4, .int (zI (((cz + 1) : Nat) : Int))), (3, .int (zI (((scF Ps mr (q, hv, ed, o) n (cz + 1)) : Nat) : Int))), (2, .int (zI (((p39 n) : Nat) : Int))), (0, .ref (B + 146)), (1, .int (zI (n : Int)))] := by rw [sc_y (Ps := Ps) (m := mr) (n := n) (c := cz) (x := (q, hv, ed, o)) hrd]; exact hl
          exact ih (cz + 1) Nd (by omega) x1 x2 (by rw [sf_1 (Ps := Ps) (m := mr) (n := n) (c := cz) (x := (q, hv, ed, o)) (by omega)]; exact x3) (by omega) _ _ ls w (lv_sub hl [0, 1, 2, 3, 4] rfl)
        · refine lv_aload_n hx hb wdX12_sourcesBy_137 rfl (lv_at hl 3 rfl) ?_
          refine lv_iload hx hb wdX12_sourcesBy_138 (lv_at hl 0 rfl) ?_
          refine u_12_26 F w (a := 146) rfl wtb_461 wdX12_sourcesBy_140 (fun H locs w => ?_)
          refine z_iinc (v := ((((scF Ps mr (q, hv, ed, o) n cz) + 1) : Nat) : Int)) (lv' := [(3, .int (zI ((((scF Ps mr (q, hv, ed, o) n cz) + 1) : Nat) : Int))), (4, .int (zI (cz : Int))), (2, .int (zI (((p39 n) : Nat) : Int))), (0, .ref (B + 146)), (1, .int (zI (n : Int)))]) hx hb wdX12_sourcesBy_143 hl (k := 1) rfl (by omega) (by decide) rfl (fun ls hl => ?_)
          refine z_iinc (v := (((cz + 1) : Nat) : Int)) (lv' := [(4, .int (zI (((cz + 1) : Nat) : Int))), (3, .int (zI ((((scF Ps mr (q, hv, ed, o) n cz) + 1) : Nat) : Int))), (2, .int (zI (((p39 n) : Nat) : Int))), (0, .ref (B + 146)), (1, .int (zI (n : Int)))]) hx hb wdX12_sourcesBy_146 hl (k := 1) rfl (by omega) (by decide) rfl (fun ls hl => ?_)
          refine lv_goto (tgt := 34) hx hb wdX12_sourcesBy_149 (by decide) ?_
          replace hl : lv_has ls 7 [(4, .int (zI (((cz + 1) : Nat) : Int))), (3, .int (zI (((scF Ps mr (q, hv, ed, o) n (cz + 1)) : Nat) : Int))), (2, .int (zI (((p39 n) : Nat) : Int))), (0, .ref (B + 146)), (1, .int (zI (n : Int)))] := by rw [sc_y (Ps := Ps) (m := mr) (n := n) (c := cz) (x := (q, hv, ed, o)) hrd]; exact hl
          exact ih (cz + 1) (st Nd 146 26 (zI (cz : Int))) (by omega) x1.s26 (x2.fr (st_ob (by decide))) (by rw [sf_0 (Ps := Ps) (m := mr) (n := n) (c := cz) (x := (q, hv, ed, o)) hrd (by omega)]; exact st_at) (by omega) _ _ ls w (lv_sub hl [0, 1, 2, 3, 4] rfl)
      · rw [hMe] at w
        have hrd : ¬ rdE (q, hv, ed, o).1 (srW Ps mr (q, hv, ed, o) n cz) (sg9 Ps (q, hv, ed, o) mr) := hra
        refine z_if_ne (tgt := 133) hx hb (by omega) wdX12_sourcesBy_127 (by decide) (fun c6 => False.elim (by omega)) (fun c6 => ?_)
        refine lv_goto (tgt := 146) hx hb wdX12_sourcesBy_130 (by decide) ?_
        refine z_iinc (v := (((cz + 1) : Nat) : Int)) (lv' := [(4, .int (zI (((cz + 1) : Nat) : Int))), (3, .int (zI (((scF Ps mr (q, hv, ed, o) n cz) : Nat) : Int))), (2, .int (zI (((p39 n) : Nat) : Int))), (0, .ref (B + 146)), (1, .int (zI (n : Int)))]) hx hb wdX12_sourcesBy_146 hl (k := 0) rfl (by omega) (by decide) rfl (fun ls hl => ?_)
        refine lv_goto (tgt := 34) hx hb wdX12_sourcesBy_149 (by decide) ?_
        replace hl : lv_has ls 7 [(4, .int (zI (((cz + 1) : Nat) : Int))), (3, .int (zI (((scF Ps mr (q, hv, ed, o) n (cz + 1)) : Nat) : Int))), (2, .int (zI (((p39 n) : Nat) : Int))), (0, .ref (B + 146)), (1, .int (zI (n : Int)))] := by rw [sc_n (Ps := Ps) (m := mr) (n := n) (c := cz) (x := (q, hv, ed, o)) hrd]; exact hl
        exact ih (cz + 1) Nd (by omega) x1 x2 (by rw [sf_n (Ps := Ps) (m := mr) (n := n) (c := cz) (x := (q, hv, ed, o)) hrd]; exact x3) (by omega) _ _ ls w (lv_sub hl [0, 1, 2, 3, 4] rfl)
theorem wdX12_sourcesBy_0 : decode cX12_sourcesBy 0 = .ok (.aload_n 0, 1) := dX12_sourcesBy_0
theorem wdX12_sourcesBy_1 : decode cX12_sourcesBy 1 = .ok (.invokevirtual 303, 3) := dX12_sourcesBy_1
theorem wdX12_sourcesBy_4 : decode cX12_sourcesBy 4 = .ok (.aload_n 0, 1) := dX12_sourcesBy_4
theorem wdX12_sourcesBy_5 : decode cX12_sourcesBy 5 = .ok (.bipush (-2), 2) := dX12_sourcesBy_5
theorem wdX12_sourcesBy_7 : decode cX12_sourcesBy 7 = .ok (.putfield 318, 3) := dX12_sourcesBy_7
theorem wdX12_sourcesBy_10 : decode cX12_sourcesBy 10 = .ok (.iconst 1, 1) := dX12_sourcesBy_10
theorem wdX12_sourcesBy_11 : decode cX12_sourcesBy 11 = .ok (.istore_n 2, 1) := dX12_sourcesBy_11
theorem wdX12_sourcesBy_12 : decode cX12_sourcesBy 12 = .ok (.iconst 0, 1) := dX12_sourcesBy_12
theorem wdX12_sourcesBy_13 : decode cX12_sourcesBy 13 = .ok (.istore_n 3, 1) := dX12_sourcesBy_13
theorem wdX12_sourcesBy_29 : decode cX12_sourcesBy 29 = .ok (.iconst 0, 1) := dX12_sourcesBy_29
theorem wdX12_sourcesBy_30 : decode cX12_sourcesBy 30 = .ok (.istore_n 3, 1) := dX12_sourcesBy_30
theorem wdX12_sourcesBy_31 : decode cX12_sourcesBy 31 = .ok (.iconst 0, 1) := dX12_sourcesBy_31
theorem wdX12_sourcesBy_32 : decode cX12_sourcesBy 32 = .ok (.istore 4, 2) := dX12_sourcesBy_32
theorem wdX12_sourcesBy_152 : decode cX12_sourcesBy 152 = .ok (.iload_n 3, 1) := dX12_sourcesBy_152
theorem wdX12_sourcesBy_153 : decode cX12_sourcesBy 153 = .ok (.ireturn, 1) := dX12_sourcesBy_153
set_option maxRecDepth 4000 in
theorem k_sourcesBy {l : Launch} {D : va_G} {B : Nat} {cy : Nat → ClassId} {M : Mem} {Ps : Nat → Nat → Int} {mr k q hv ed : Nat} {o : Wo} {Hs : Nat → Fw} (hS : MS M Ps mr (q, hv, ed, o) Hs k) {n : Nat} (hn : n ≤ 6) : Ci l D B cy yX12_sourcesBy cX12_sourcesBy 7 (some .int) 10 233 [.ref (B + 146), .int (zI (n : Int))] M (fun r M1 => r = zI (((scF Ps mr (q, hv, ed, o) n (p39 n)) : Nat) : Int) ∧ M1.1 146 26 = zI (sfF Ps mr (q, hv, ed, o) n (p39 n))) := by
  refine s_any (by decide) (Nat.le_of_ble_eq_true rfl) ?_
  intro p e s m below meth c ls F hr hlocks w hl
  have F : CallFix p m c cX12_sourcesBy 7 s _ TB RX12 := F
  have hx := F.1
  have hb := F.2.1
  have hl : lv_has ls 7 [(0, .ref (B + 146)), (1, .int (zI (n : Int)))] := hl
  have hm8 := hS.1.1
  have hk12 := hS.2.2.2.2.1
  have hC : TW M q hv ed o := hS.T
  have hW : isR M 147 o.1 q hv ed o.2.1 o.2.2 := hC.1
  have hwf := hC.wf
  have hKL := hwf.2.2.2.2
  have hn12 := hwf.1
  have hq12 := hwf.2.1
  have hhv := hwf.2.2.1
  have hed := hwf.2.2.2.1
  have hokm : okW q (sg9 Ps (q, hv, ed, o) mr) := (dvF_l lkB.rf lkB.rf hC.2.1 mr (fun j hj => (hS.1.2 j hj).2)).2
  have hpn := p3_b hn
  refine lv_aload_n hx hb wdX12_sourcesBy_0 rfl (lv_at hl 0 rfl) ?_
  refine k_Vv F w (As := []) (rest := []) (a := 146) (kd_lt (a := 146) (show kd 146 = (12, 0, 0) from rfl) (by decide)) (sh_12 rfl _ _) rfl (k_laysDue hS) wgv_X12_303 whv_X12_laysDue ⟨(Nat.le_of_ble_eq_true rfl), (Nat.le_of_ble_eq_true rfl)⟩ hl.1 rfl (Nat.le_of_ble_eq_true rfl) ⟨Nat.zero_le _, Nat.zero_le _⟩ wdX12_sourcesBy_1 (fun Ma1 H locs hp w => ?_)
  rcases hp with ⟨hD1, hS1⟩
  refine lv_aload_n hx hb wdX12_sourcesBy_4 rfl (lv_at hl 0 rfl) ?_
  refine lv_bipush (v := zI (-2)) hx hb wdX12_sourcesBy_5 (by decide) ?_
  refine u_12_26 F w (a := 146) rfl wtb_461 wdX12_sourcesBy_7 (fun H locs w => ?_)
  refine lv_iconst (v := zI 1) hx hb wdX12_sourcesBy_10 rfl ?_
  refine lv_istore_n (lv' := [(2, .int (zI 1)), (0, .ref (B + 146)), (1, .int (zI (n : Int)))]) hx hb wdX12_sourcesBy_11 rfl hl (by decide) rfl (fun ls hl => ?_)
  refine lv_iconst (v := zI 0) hx hb wdX12_sourcesBy_12 rfl ?_
  refine lv_istore_n (lv' := [(3, .int (zI 0)), (2, .int (zI 1)), (0, .ref (B + 146)), (1, .int (zI (n : Int)))]) hx hb wdX12_sourcesBy_13 rfl hl (by decide) rfl (fun ls hl => ?_)
  replace hl : lv_has ls 7 [(3, .int (zI 0)), (2, .int (zI (((p39 0) : Nat) : Int))), (0, .ref (B + 146)), (1, .int (zI (n : Int)))] := by rw [show p39 0 = 1 from rfl]; exact hl
  refine lp_X12_sourcesBy1  F (Nat.le_of_ble_eq_true rfl) (Nat.le_of_ble_eq_true rfl) hn (fun i H locs ls x0 w hl => ?_) n 0 (by omega) (by omega) _ _ ls w (lv_sub hl [0, 1, 2, 3] rfl)
  rw [x0] at hl
  refine lv_iconst (v := zI 0) hx hb wdX12_sourcesBy_29 rfl ?_
  refine lv_istore_n (lv' := [(3, .int (zI 0)), (2, .int (zI (((p39 n) : Nat) : Int))), (0, .ref (B + 146)), (1, .int (zI (n : Int)))]) hx hb wdX12_sourcesBy_30 rfl hl (by decide) rfl (fun ls hl => ?_)
  refine lv_iconst (v := zI 0) hx hb wdX12_sourcesBy_31 rfl ?_
  refine lv_istore (lv' := [(4, .int (zI 0)), (3, .int (zI 0)), (2, .int (zI (((p39 n) : Nat) : Int))), (0, .ref (B + 146)), (1, .int (zI (n : Int)))]) hx hb wdX12_sourcesBy_32 hl (by decide) rfl (fun ls hl => ?_)
  replace hl : lv_has ls 7 [(4, .int (zI 0)), (3, .int (zI (((scF Ps mr (q, hv, ed, o) n 0) : Nat) : Int))), (2, .int (zI (((p39 n) : Nat) : Int))), (0, .ref (B + 146)), (1, .int (zI (n : Int)))] := by rw [scF]; exact hl
  refine lp_X12_sourcesBy2 (M := M) F (Nat.le_of_ble_eq_true rfl) (Nat.le_of_ble_eq_true rfl) hm8 hn hokm hwf (fun cz Nm H locs ls x0 x1 w hl => ?_) (p39 n) 0 (st Ma1 146 26 (zI (-2))) (Nat.zero_le _) hS1.s26 (hD1.fr (st_ob (by decide))) (by rw [sfF]; exact st_at) (by omega) _ _ ls w (lv_sub hl [0, 1, 2, 3, 4] rfl)
  rw [x0] at hl
  refine lv_iload_n hx hb wdX12_sourcesBy_152 rfl (lv_at hl 0 rfl) ?_
  exact e_i F w hr hlocks ⟨rfl, x1⟩ wdX12_sourcesBy_153
theorem wtk_X12_sourcesBy : Cond.code yX12_sourcesBy cX12_sourcesBy 7 (some .int) ∈ TB := tk_X12_sourcesBy
theorem wgc_X12_sourcesBy : GoodIn TB (cw yX12_sourcesBy cX12_sourcesBy 7 (some .int)) := goodIn_c2 wtk_X12_sourcesBy
theorem wtb_462 : Cond.methodLink "ToneLinesModel" 321 yX12_sourcesBy ∈ TB := tb_709
theorem wtb_463 : Cond.instanceMethod yX12_sourcesBy ∈ TB := tb_710
theorem wtb_464 : Cond.selects "ToneLinesModel" yX12_sourcesBy yX12_sourcesBy ∈ TB := tb_711
theorem wgv_X12_321 : GoodIn TB (wsV RX12 321 RX12 yX12_sourcesBy (cw yX12_sourcesBy cX12_sourcesBy 7 (some .int))) := goodIn_4 wtb_462 wtb_463 wtb_464 wtb_105 wgc_X12_sourcesBy
theorem whv_X12_sourcesBy : yX12_sourcesBy.cls = RX12 ∧ yX12_sourcesBy.cls ≠ "java/lang/invoke/MethodHandle" ∧ yX12_sourcesBy.cls ≠ "java/lang/invoke/VarHandle" ∧ (parseMethodDescriptor yX12_sourcesBy.desc).map (fun d => d.parameters.length) = some 1 := hv_X12_sourcesBy
theorem wdX12_source_0 : decode cX12_source 0 = .ok (.iload_n 1, 1) := dX12_source_0
theorem wdX12_source_1 : decode cX12_source 1 = .ok (.iconst 0, 1) := dX12_source_1
theorem wdX12_source_2 : decode cX12_source 2 = .ok (.bipush 6, 2) := dX12_source_2
theorem wdX12_source_4 : decode cX12_source 4 = .ok (.invokestatic 55, 3) := dX12_source_4
theorem wdX12_source_7 : decode cX12_source 7 = .ok (.ifCond .ne 5, 3) := dX12_source_7
theorem wdX12_source_12 : decode cX12_source 12 = .ok (.aload_n 0, 1) := dX12_source_12
theorem wdX12_source_13 : decode cX12_source 13 = .ok (.iload_n 1, 1) := dX12_source_13
theorem wdX12_source_14 : decode cX12_source 14 = .ok (.invokevirtual 321, 3) := dX12_source_14
theorem wdX12_source_17 : decode cX12_source 17 = .ok (.pop, 1) := dX12_source_17
theorem wdX12_source_18 : decode cX12_source 18 = .ok (.aload_n 0, 1) := dX12_source_18
theorem wdX12_source_19 : decode cX12_source 19 = .ok (.getfield 318, 3) := dX12_source_19
theorem wdX12_source_22 : decode cX12_source 22 = .ok (.ireturn, 1) := dX12_source_22
theorem wdX12_source_10 : decode cX12_source 10 = .ok (.iconst (-1), 1) := dX12_source_10
theorem wdX12_source_11 : decode cX12_source 11 = .ok (.ireturn, 1) := dX12_source_11
set_option maxRecDepth 4000 in
theorem k_source {l : Launch} {D : va_G} {B : Nat} {cy : Nat → ClassId} {M : Mem} {Ps : Nat → Nat → Int} {mr k q hv ed : Nat} {o : Wo} {Hs : Nat → Fw} (hS : MS M Ps mr (q, hv, ed, o) Hs k) {n9 : Int} (hn8 : rg n9) : Ci l D B cy yX12_source cX12_source 2 (some .int) 11 259 [.ref (B + 146), .int (zI n9)] M (fun r M1 => r = zI (sfA Ps mr n9 (q, hv, ed, o))) := by
  refine s_any (by decide) (Nat.le_of_ble_eq_true rfl) ?_
  intro p e s m below meth c ls F hr hlocks w hl
  have F : CallFix p m c cX12_source 2 s _ TB RX12 := F
  have hx := F.1
  have hb := F.2.1
  have hl : lv_has ls 2 [(0, .ref (B + 146)), (1, .int (zI n9))] := hl
  have hm8 := hS.1.1
  have hk12 := hS.2.2.2.2.1
  have hC : TW M q hv ed o := hS.T
  have hW : isR M 147 o.1 q hv ed o.2.1 o.2.2 := hC.1
  have hwf := hC.wf
  have hKL := hwf.2.2.2.2
  have hn12 := hwf.1
  have hq12 := hwf.2.1
  have hhv := hwf.2.2.1
  have hed := hwf.2.2.2.1
  refine lv_iload_n hx hb wdX12_source_0 rfl (lv_at hl 1 rfl) ?_
  refine lv_iconst (v := zI 0) hx hb wdX12_source_1 rfl ?_
  refine lv_bipush (v := zI 6) hx hb wdX12_source_2 (by decide) ?_
  refine k_Si F w (As := [.int (zI n9), .int (zI 0), .int (zI 6)]) (rest := []) (s_X12_in (v := n9) (a := 0) (b := 6) (by omega) (by omega) (by omega)) wgs_X12_55 whs_X12_in ⟨(Nat.le_of_ble_eq_true rfl), (Nat.le_of_ble_eq_true rfl)⟩ hl.1 rfl (Nat.le_of_ble_eq_true rfl) ⟨Nat.zero_le _, Nat.zero_le _⟩ wdX12_source_4 (fun r Ma2 H locs hp w => ?_)
  rcases hp with ⟨⟨hb1, rfl⟩ | ⟨hb1, rfl⟩, hMe⟩
  · rw [hMe] at w
    refine z_if_ne (tgt := 12) hx hb (by omega) wdX12_source_7 (by decide) (fun c3 => ?_) (fun c3 => False.elim (by omega))
    obtain ⟨nn, rfl⟩ : ∃ n8 : Nat, n9 = (n8 : Int) := ⟨Int.toNat n9, by omega⟩
    refine lv_aload_n hx hb wdX12_source_12 rfl (lv_at hl 0 rfl) ?_
    refine lv_iload_n hx hb wdX12_source_13 rfl (lv_at hl 1 rfl) ?_
    refine k_Vi F w (As := [.int (zI (nn : Int))]) (rest := []) (a := 146) (kd_lt (a := 146) (show kd 146 = (12, 0, 0) from rfl) (by decide)) (sh_12 rfl _ _) rfl (k_sourcesBy hS (n := nn) (by omega)) wgv_X12_321 whv_X12_sourcesBy ⟨(Nat.le_of_ble_eq_true rfl), (Nat.le_of_ble_eq_true rfl)⟩ hl.1 rfl (Nat.le_of_ble_eq_true rfl) ⟨Nat.zero_le _, Nat.zero_le _⟩ wdX12_source_14 (fun r Ma4 H locs hp w => ?_)
    rcases hp with ⟨rfl, hfs⟩
    have hsc := sc_le (Ps := Ps) (m := mr) (n := nn) (x := (q, hv, ed, o)) (p39 nn)
    have hpn := p3_b (i := nn) (by omega)
    refine lv_pop hx hb wdX12_source_17 rfl ?_
    refine lv_aload_n hx hb wdX12_source_18 rfl (lv_at hl 0 rfl) ?_
    refine f_12_26 F w (a := 146) rfl wtb_461 wdX12_source_19 ?_
    refine r_val (v := (zI (sfF Ps mr (q, hv, ed, o) nn (p39 nn)))) (hfs) ?_
    exact e_i F w hr hlocks (congrArg zI (sfA_y (by omega)).symm) wdX12_source_22
  · rw [hMe] at w
    refine z_if_ne (tgt := 12) hx hb (by omega) wdX12_source_7 (by decide) (fun c5 => False.elim (by omega)) (fun c5 => ?_)
    refine lv_iconst (v := zI (-1)) hx hb wdX12_source_10 rfl ?_
    exact e_i F w hr hlocks (congrArg zI (sfA_n (by omega)).symm) wdX12_source_11
