theorem wdX12_docks_14 : decode cX12_docks 14 = .ok (.aload_n 0, 1) := dq0 kk_42 (by decide +kernel)
theorem wdX12_docks_15 : decode cX12_docks 15 = .ok (.getfield 17, 3) := dqV kk_180 (by decide +kernel)
theorem wdX12_docks_18 : decode cX12_docks 18 = .ok (.iload_n 3, 1) := dq0 kk_29 (by decide +kernel)
theorem wdX12_docks_19 : decode cX12_docks 19 = .ok (.invokestatic 105, 3) := dqV kk_184 (by decide +kernel)
theorem wtk_X12_isTone : Cond.code yX12_isTone cX12_isTone 2 (some .boolean) ∈ TB := tbm (tc6 (List.mem_of_getElem? (i := 2) rfl)) rfl
theorem wgc_X12_isTone : GoodIn TB (cw yX12_isTone cX12_isTone 2 (some .boolean)) := goodIn_c2 wtk_X12_isTone
theorem wtb_118 : Cond.methodLink "ToneLinesModel" 105 yX12_isTone ∈ TB := tbm (tc6 (List.mem_of_getElem? (i := 0) rfl)) rfl
theorem wtb_119 : Cond.static yX12_isTone ∈ TB := tbm (tc6 (List.mem_of_getElem? (i := 1) rfl)) rfl
theorem wgs_X12_105 : GoodIn TB (va_wsS RX12 105 yX12_isTone (cw yX12_isTone cX12_isTone 2 (some .boolean))) := goodIn_3 wtb_118 wtb_119 wtb_105 wgc_X12_isTone
theorem whs_X12_isTone : yX12_isTone.cls ≠ "java/lang/invoke/MethodHandle" ∧ yX12_isTone.cls ≠ "java/lang/invoke/VarHandle" ∧ (parseMethodDescriptor yX12_isTone.desc).map (fun d => d.parameters.length) = some 2 := by decide +kernel
theorem wdX12_docks_22 : decode cX12_docks 22 = .ok (.ifCond .eq 32, 3) := dqT kk_153 (by decide +kernel)
theorem wdX12_docks_25 : decode cX12_docks 25 = .ok (.aload_n 0, 1) := dq0 kk_42 (by decide +kernel)
theorem wdX12_docks_26 : decode cX12_docks 26 = .ok (.getfield 17, 3) := dqV kk_180 (by decide +kernel)
theorem wdX12_docks_29 : decode cX12_docks 29 = .ok (.bipush 13, 2) := dqS kk_16 (by decide +kernel)
theorem wdX12_docks_31 : decode cX12_docks 31 = .ok (.iload_n 3, 1) := dq0 kk_29 (by decide +kernel)
theorem wdX12_docks_32 : decode cX12_docks 32 = .ok (.iadd, 1) := dq0 kk_96 (by decide +kernel)
theorem wdX12_docks_33 : decode cX12_docks 33 = .ok (.iaload, 1) := dq0 kk_46 (by decide +kernel)
theorem wdX12_docks_34 : decode cX12_docks 34 = .ok (.ifCond .ne 20, 3) := dqT kk_154 (by decide +kernel)
theorem wdX12_docks_37 : decode cX12_docks 37 = .ok (.iload_n 2, 1) := dq0 kk_28 (by decide +kernel)
theorem wdX12_docks_38 : decode cX12_docks 38 = .ok (.ifCond .eq 9, 3) := dqT kk_153 (by decide +kernel)
theorem wdX12_docks_47 : decode cX12_docks 47 = .ok (.iload_n 3, 1) := dq0 kk_29 (by decide +kernel)
theorem wdX12_docks_48 : decode cX12_docks 48 = .ok (.iconst 1, 1) := dq0 kk_4 (by decide +kernel)
theorem wdX12_docks_49 : decode cX12_docks 49 = .ok (.iadd, 1) := dq0 kk_96 (by decide +kernel)
theorem wdX12_docks_50 : decode cX12_docks 50 = .ok (.istore_n 3, 1) := dq0 kk_62 (by decide +kernel)
theorem wdX12_docks_51 : decode cX12_docks 51 = .ok (.goto (-37), 3) := dqT kk_167 (by decide +kernel)
set_option maxRecDepth 4000 in
theorem lp_X12_docks_0 {p : Program} {l : Launch} {e : Env} {s : State} {m : MethodId} {args : Array Value} {below : List Frame} {meth : Method} {c : Code} {D : va_G} {B : Nat} {cy : Nat → ClassId} {H0 : Heap} {Q : State → Prop} {M : Mem} {R : Room} {q hv ed t x : Nat} {o : Wo} {z9 : Int} (F : CallFix p m c cX12_docks 5 s args TB RX12) (hR1 : 2 ≤ R.frames) (hR2 : 43 ≤ R.locals) (hR : RW M q hv ed o z9) (ht : t < o.1) (hxv : x = 0) (kk : ∀ (k : Nat) (H : Heap) (locs : List Loc) (ls : Array Slot), (t < k ∧ k ≤ o.1) → (∀ i, t < i → i < k → o.2.2 i = 0) → (k < o.1 → o.2.2 k ≠ 0) → Wd D B cy s H0 M H locs → lv_has ls 5 [(3, .int (zI (k : Int))), (0, .ref (B + 146)), (1, .int (zI (t : Int))), (2, .int (zI (x : Int)))] → W p l e R s m args below meth c H locs 0 0 Q (F0 m 54 ls [])) : ∀ (f : Nat) (k : Nat), (t < k ∧ k ≤ o.1) → (∀ i, t < i → i < k → o.2.2 i = 0) → (o.1 ≤ k + f) → ∀ (H : Heap) (locs : List Loc) (ls : Array Slot), Wd D B cy s H0 M H locs → lv_has ls 5 [(3, .int (zI (k : Int))), (0, .ref (B + 146)), (1, .int (zI (t : Int))), (2, .int (zI (x : Int)))] → W p l e R s m args below meth c H locs 0 0 Q (F0 m 14 ls []) := by
  have hx := F.1
  have hb := F.2.1
  have hW := hR.1
  have hwf := hR.wf
  have hKL := hwf.2.2.2.2
  have hn12 := hwf.1
  have hq12 := hwf.2.1
  have hhv := hwf.2.2.1
  have hed := hwf.2.2.2.1
  have hc := hR.2.2.2.2
  intro f
  induction f with
  | zero =>
    intro k i0 i1 hf H locs ls w hl
    refine lv_aload_n hx hb wdX12_docks_14 rfl (lv_at hl 1 rfl) ?_
    refine f_12_2 F w (a := 146) rfl wtb_102 wdX12_docks_15 ?_
    refine lv_iload_n hx hb wdX12_docks_18 rfl (lv_at hl 0 rfl) ?_
    refine k_Si F w (As := [.ref (B + 148), .int (zI (k : Int))]) (rest := []) (s_X12_isTone (a := 148) rfl hW hwf (t := (k : Int)) (by omega)) wgs_X12_105 whs_X12_isTone ⟨(by omega), (by omega)⟩ hl.1 rfl (Nat.le_of_ble_eq_true rfl) ⟨Nat.zero_le _, Nat.zero_le _⟩ wdX12_docks_19 (fun r Ma2 H locs hp w => ?_)
    rcases hp with ⟨⟨k1, ek1, hk1, rfl⟩ | ⟨nk1, rfl⟩, hMe⟩
    · obtain rfl : k = k1 := by omega
      rw [hMe] at w
      refine z_if_eq (tgt := 54) hx hb (by omega) wdX12_docks_22 (by decide) (fun c3 => False.elim (by omega)) (fun c3 => ?_)
      refine lv_aload_n hx hb wdX12_docks_25 rfl (lv_at hl 1 rfl) ?_
      refine f_12_2 F w (a := 146) rfl wtb_102 wdX12_docks_26 ?_
      refine lv_bipush (v := zI 13) hx hb wdX12_docks_29 (by decide) ?_
      refine lv_iload_n hx hb wdX12_docks_31 rfl (lv_at hl 0 rfl) ?_
      refine z_iadd (z := (((13 + k) : Nat) : Int)) hx hb wdX12_docks_32 (by omega) ?_
      refine g_iald F w (a := 148) rfl (j := (13 + k)) (ix_n (by omega)) (by omega) wdX12_docks_33 ?_
      have hL3 := (hKL k (by omega)).2
      refine r_val (v := (zI (((o.2.2 k) : Nat) : Int))) (hW.2.2.2.2.2 k (by omega)) ?_
      refine z_if_ne (tgt := 54) hx hb (by omega) wdX12_docks_34 (by decide) (fun c4 => ?_) (fun c4 => ?_)
      · exact kk k _ _ ls i0 i1 (fun _ => by omega) w (lv_sub hl [0, 1, 2, 3] rfl)
      · refine lv_iload_n hx hb wdX12_docks_37 rfl (lv_at hl 3 rfl) ?_
        refine z_if_eq (tgt := 47) hx hb (by omega) wdX12_docks_38 (by decide) (fun c5 => ?_) (fun c5 => False.elim (by omega))
        refine lv_iload_n hx hb wdX12_docks_47 rfl (lv_at hl 0 rfl) ?_
        refine lv_iconst (v := zI 1) hx hb wdX12_docks_48 rfl ?_
        refine z_iadd (z := (((k + 1) : Nat) : Int)) hx hb wdX12_docks_49 (by omega) ?_
        refine lv_istore_n (lv' := [(3, .int (zI (((k + 1) : Nat) : Int))), (0, .ref (B + 146)), (1, .int (zI (t : Int))), (2, .int (zI (x : Int)))]) hx hb wdX12_docks_50 rfl hl (by decide) rfl (fun ls hl => ?_)
        refine lv_goto (tgt := 14) hx hb wdX12_docks_51 (by decide) ?_
        exact False.elim (by omega)
    · rw [hMe] at w
      refine z_if_eq (tgt := 54) hx hb (by omega) wdX12_docks_22 (by decide) (fun c6 => ?_) (fun c6 => False.elim (by omega))
      exact kk k _ _ ls i0 i1 (fun _ => by omega) w (lv_sub hl [0, 1, 2, 3] rfl)
  | succ f ih =>
    intro k i0 i1 hf H locs ls w hl
    refine lv_aload_n hx hb wdX12_docks_14 rfl (lv_at hl 1 rfl) ?_
    refine f_12_2 F w (a := 146) rfl wtb_102 wdX12_docks_15 ?_
    refine lv_iload_n hx hb wdX12_docks_18 rfl (lv_at hl 0 rfl) ?_
    refine k_Si F w (As := [.ref (B + 148), .int (zI (k : Int))]) (rest := []) (s_X12_isTone (a := 148) rfl hW hwf (t := (k : Int)) (by omega)) wgs_X12_105 whs_X12_isTone ⟨(by omega), (by omega)⟩ hl.1 rfl (Nat.le_of_ble_eq_true rfl) ⟨Nat.zero_le _, Nat.zero_le _⟩ wdX12_docks_19 (fun r Ma2 H locs hp w => ?_)
    rcases hp with ⟨⟨k1, ek1, hk1, rfl⟩ | ⟨nk1, rfl⟩, hMe⟩
    · obtain rfl : k = k1 := by omega
      rw [hMe] at w
      refine z_if_eq (tgt := 54) hx hb (by omega) wdX12_docks_22 (by decide) (fun c3 => False.elim (by omega)) (fun c3 => ?_)
      refine lv_aload_n hx hb wdX12_docks_25 rfl (lv_at hl 1 rfl) ?_
      refine f_12_2 F w (a := 146) rfl wtb_102 wdX12_docks_26 ?_
      refine lv_bipush (v := zI 13) hx hb wdX12_docks_29 (by decide) ?_
      refine lv_iload_n hx hb wdX12_docks_31 rfl (lv_at hl 0 rfl) ?_
      refine z_iadd (z := (((13 + k) : Nat) : Int)) hx hb wdX12_docks_32 (by omega) ?_
      refine g_iald F w (a := 148) rfl (j := (13 + k)) (ix_n (by omega)) (by omega) wdX12_docks_33 ?_
      have hL3 := (hKL k (by omega)).2
      refine r_val (v := (zI (((o.2.2 k) : Nat) : Int))) (hW.2.2.2.2.2 k (by omega)) ?_
      refine z_if_ne (tgt := 54) hx hb (by omega) wdX12_docks_34 (by decide) (fun c4 => ?_) (fun c4 => ?_)
      · exact kk k _ _ ls i0 i1 (fun _ => by omega) w (lv_sub hl [0, 1, 2, 3] rfl)
      · refine lv_iload_n hx hb wdX12_docks_37 rfl (lv_at hl 3 rfl) ?_
        refine z_if_eq (tgt := 47) hx hb (by omega) wdX12_docks_38 (by decide) (fun c5 => ?_) (fun c5 => False.elim (by omega))
        refine lv_iload_n hx hb wdX12_docks_47 rfl (lv_at hl 0 rfl) ?_
        refine lv_iconst (v := zI 1) hx hb wdX12_docks_48 rfl ?_
        refine z_iadd (z := (((k + 1) : Nat) : Int)) hx hb wdX12_docks_49 (by omega) ?_
        refine lv_istore_n (lv' := [(3, .int (zI (((k + 1) : Nat) : Int))), (0, .ref (B + 146)), (1, .int (zI (t : Int))), (2, .int (zI (x : Int)))]) hx hb wdX12_docks_50 rfl hl (by decide) rfl (fun ls hl => ?_)
        refine lv_goto (tgt := 14) hx hb wdX12_docks_51 (by decide) ?_
        exact ih (k + 1) (by omega) (fun i h1 h2 => by by_cases h9 : i = k; (subst h9; omega); exact i1 i h1 (by omega)) (by omega) _ _ ls w (lv_sub hl [0, 1, 2, 3] rfl)
    · rw [hMe] at w
      refine z_if_eq (tgt := 54) hx hb (by omega) wdX12_docks_22 (by decide) (fun c6 => ?_) (fun c6 => False.elim (by omega))
      exact kk k _ _ ls i0 i1 (fun _ => by omega) w (lv_sub hl [0, 1, 2, 3] rfl)
theorem wdX12_docks_0 : decode cX12_docks 0 = .ok (.iload_n 2, 1) := dq0 kk_28 (by decide +kernel)
theorem wdX12_docks_1 : decode cX12_docks 1 = .ok (.ifCond .eq 9, 3) := dqT kk_153 (by decide +kernel)
theorem wdX12_docks_10 : decode cX12_docks 10 = .ok (.iload_n 1, 1) := dq0 kk_27 (by decide +kernel)
theorem wdX12_docks_11 : decode cX12_docks 11 = .ok (.iconst 1, 1) := dq0 kk_4 (by decide +kernel)
theorem wdX12_docks_12 : decode cX12_docks 12 = .ok (.iadd, 1) := dq0 kk_96 (by decide +kernel)
theorem wdX12_docks_13 : decode cX12_docks 13 = .ok (.istore_n 3, 1) := dq0 kk_62 (by decide +kernel)
theorem wdX12_docks_54 : decode cX12_docks 54 = .ok (.aload_n 0, 1) := dq0 kk_42 (by decide +kernel)
theorem wdX12_docks_55 : decode cX12_docks 55 = .ok (.getfield 17, 3) := dqV kk_180 (by decide +kernel)
theorem wdX12_docks_58 : decode cX12_docks 58 = .ok (.iload_n 3, 1) := dq0 kk_29 (by decide +kernel)
theorem wdX12_docks_59 : decode cX12_docks 59 = .ok (.invokestatic 105, 3) := dqV kk_184 (by decide +kernel)
theorem wdX12_docks_62 : decode cX12_docks 62 = .ok (.ifCond .ne 4, 3) := dqT kk_154 (by decide +kernel)
theorem wdX12_docks_66 : decode cX12_docks 66 = .ok (.iload_n 2, 1) := dq0 kk_28 (by decide +kernel)
theorem wdX12_docks_67 : decode cX12_docks 67 = .ok (.ifCond .eq 18, 3) := dqT kk_153 (by decide +kernel)
theorem wdX12_docks_85 : decode cX12_docks 85 = .ok (.aload_n 0, 1) := dq0 kk_42 (by decide +kernel)
theorem wdX12_docks_86 : decode cX12_docks 86 = .ok (.getfield 17, 3) := dqV kk_180 (by decide +kernel)
theorem wdX12_docks_89 : decode cX12_docks 89 = .ok (.bipush 13, 2) := dqS kk_16 (by decide +kernel)
theorem wdX12_docks_91 : decode cX12_docks 91 = .ok (.iload_n 3, 1) := dq0 kk_29 (by decide +kernel)
theorem wdX12_docks_92 : decode cX12_docks 92 = .ok (.iadd, 1) := dq0 kk_96 (by decide +kernel)
theorem wdX12_docks_93 : decode cX12_docks 93 = .ok (.iaload, 1) := dq0 kk_46 (by decide +kernel)
theorem wdX12_docks_94 : decode cX12_docks 94 = .ok (.invokestatic 63, 3) := dqV kk_184 (by decide +kernel)
theorem wdX12_docks_97 : decode cX12_docks 97 = .ok (.istore 4, 2) := dqU kk_54 (by decide +kernel)
theorem wdX12_docks_99 : decode cX12_docks 99 = .ok (.aload_n 0, 1) := dq0 kk_42 (by decide +kernel)
theorem wdX12_docks_100 : decode cX12_docks 100 = .ok (.getfield 17, 3) := dqV kk_180 (by decide +kernel)
theorem wdX12_docks_103 : decode cX12_docks 103 = .ok (.iload_n 1, 1) := dq0 kk_27 (by decide +kernel)
theorem wdX12_docks_104 : decode cX12_docks 104 = .ok (.iload 4, 2) := dqU kk_21 (by decide +kernel)
theorem wdX12_docks_106 : decode cX12_docks 106 = .ok (.invokestatic 86, 3) := dqV kk_184 (by decide +kernel)
theorem wtk_X12_isOpen : Cond.code yX12_isOpen cX12_isOpen 5 (some .boolean) ∈ TB := tk_X12_isOpen
theorem wgc_X12_isOpen : GoodIn TB (cw yX12_isOpen cX12_isOpen 5 (some .boolean)) := goodIn_c2 wtk_X12_isOpen
theorem wtb_120 : Cond.methodLink "ToneLinesModel" 86 yX12_isOpen ∈ TB := tb_54
theorem wtb_121 : Cond.static yX12_isOpen ∈ TB := tb_55
theorem wgs_X12_86 : GoodIn TB (va_wsS RX12 86 yX12_isOpen (cw yX12_isOpen cX12_isOpen 5 (some .boolean))) := goodIn_3 wtb_120 wtb_121 wtb_105 wgc_X12_isOpen
theorem whs_X12_isOpen : yX12_isOpen.cls ≠ "java/lang/invoke/MethodHandle" ∧ yX12_isOpen.cls ≠ "java/lang/invoke/VarHandle" ∧ (parseMethodDescriptor yX12_isOpen.desc).map (fun d => d.parameters.length) = some 3 := hs_X12_isOpen
theorem wdX12_docks_109 : decode cX12_docks 109 = .ok (.ifCond .eq 10, 3) := dqT kk_153 (by decide +kernel)
theorem wdX12_docks_112 : decode cX12_docks 112 = .ok (.aload_n 0, 1) := dq0 kk_42 (by decide +kernel)
theorem wdX12_docks_113 : decode cX12_docks 113 = .ok (.iload_n 1, 1) := dq0 kk_27 (by decide +kernel)
theorem wdX12_docks_114 : decode cX12_docks 114 = .ok (.iload 4, 2) := dqU kk_21 (by decide +kernel)
theorem wdX12_docks_116 : decode cX12_docks 116 = .ok (.invokevirtual 90, 3) := dqV kk_182 (by decide +kernel)
theorem wtk_X12_comes : Cond.code yX12_comes cX12_comes 3 none ∈ TB := tk_X12_comes
theorem wgc_X12_comes : GoodIn TB (cw yX12_comes cX12_comes 3 none) := goodIn_c2 wtk_X12_comes
theorem wtb_122 : Cond.methodLink "ToneLinesModel" 90 yX12_comes ∈ TB := tb_56
theorem wtb_123 : Cond.instanceMethod yX12_comes ∈ TB := tb_57
theorem wtb_124 : Cond.selects "ToneLinesModel" yX12_comes yX12_comes ∈ TB := tb_58
theorem wgv_X12_90 : GoodIn TB (wsV RX12 90 RX12 yX12_comes (cw yX12_comes cX12_comes 3 none)) := goodIn_4 wtb_122 wtb_123 wtb_124 wtb_105 wgc_X12_comes
theorem whv_X12_comes : yX12_comes.cls = RX12 ∧ yX12_comes.cls ≠ "java/lang/invoke/MethodHandle" ∧ yX12_comes.cls ≠ "java/lang/invoke/VarHandle" ∧ (parseMethodDescriptor yX12_comes.desc).map (fun d => d.parameters.length) = some 2 := hv_X12_comes
theorem wdX12_docks_119 : decode cX12_docks 119 = .ok (.return_, 1) := dq0 kk_177 (by decide +kernel)
theorem wdX12_docks_65 : decode cX12_docks 65 = .ok (.return_, 1) := dq0 kk_177 (by decide +kernel)
set_option maxRecDepth 4000 in
theorem s_X12_docks_0 {l : Launch} {D : va_G} {B : Nat} {cy : Nat → ClassId} {M : Mem} {q hv ed : Nat} {o : Wo} {z9 : Int} (hR : RW M q hv ed o z9) {t x : Nat} (ht : t < o.1) (hxv : x = 0) (h0 : o.2.2 t = 0) : Cv l D B cy yX12_docks cX12_docks 5 3 66 [.ref (B + 146), .int (zI (t : Int)), .int (zI (x : Int))] M (fun M1 => RQ q hv ed (dkG q t x o) 1 z9 M M1) := by
  refine s_any (by decide) (Nat.le_of_ble_eq_true rfl) ?_
  intro p e s m below meth c ls F hr hlocks w hl
  have F : CallFix p m c cX12_docks 5 s _ TB RX12 := F
  have hx := F.1
  have hb := F.2.1
  have hl : lv_has ls 5 [(0, .ref (B + 146)), (1, .int (zI (t : Int))), (2, .int (zI (x : Int)))] := hl
  have hW := hR.1
  have hwf := hR.wf
  have hKL := hwf.2.2.2.2
  have hn12 := hwf.1
  have hq12 := hwf.2.1
  have hhv := hwf.2.2.1
  have hed := hwf.2.2.2.1
  have hc := hR.2.2.2.2
  refine lv_iload_n hx hb wdX12_docks_0 rfl (lv_at hl 2 rfl) ?_
  refine z_if_eq (tgt := 10) hx hb (by omega) wdX12_docks_1 (by decide) (fun c1 => ?_) (fun c1 => False.elim (by omega))
  refine lv_iload_n hx hb wdX12_docks_10 rfl (lv_at hl 1 rfl) ?_
  refine lv_iconst (v := zI 1) hx hb wdX12_docks_11 rfl ?_
  refine z_iadd (z := (((t + 1) : Nat) : Int)) hx hb wdX12_docks_12 (by omega) ?_
  refine lv_istore_n (lv' := [(3, .int (zI (((t + 1) : Nat) : Int))), (0, .ref (B + 146)), (1, .int (zI (t : Int))), (2, .int (zI (x : Int)))]) hx hb wdX12_docks_13 rfl hl (by decide) rfl (fun ls hl => ?_)
  refine lp_X12_docks_0  F (Nat.le_of_ble_eq_true rfl) (Nat.le_of_ble_eq_true rfl) hR ht hxv (fun k H locs ls x0 x1 x2 w hl => ?_) 12 (t + 1) (by omega) (fun i h1 h2 => by omega) (by omega) _ _ ls w (lv_sub hl [0, 1, 2, 3] rfl)
  refine lv_aload_n hx hb wdX12_docks_54 rfl (lv_at hl 1 rfl) ?_
  refine f_12_2 F w (a := 146) rfl wtb_102 wdX12_docks_55 ?_
  refine lv_iload_n hx hb wdX12_docks_58 rfl (lv_at hl 0 rfl) ?_
  refine k_Si F w (As := [.ref (B + 148), .int (zI (k : Int))]) (rest := []) (s_X12_isTone (a := 148) rfl hW hwf (t := (k : Int)) (by omega)) wgs_X12_105 whs_X12_isTone ⟨(Nat.le_of_ble_eq_true rfl), (Nat.le_of_ble_eq_true rfl)⟩ hl.1 rfl (Nat.le_of_ble_eq_true rfl) ⟨Nat.zero_le _, Nat.zero_le _⟩ wdX12_docks_59 (fun r Ma3 H locs hp w => ?_)
  rcases hp with ⟨⟨k2, ek2, hk2, rfl⟩ | ⟨nk2, rfl⟩, hMe⟩
  · obtain rfl : k = k2 := by omega
    rw [hMe] at w
    refine z_if_ne (tgt := 66) hx hb (by omega) wdX12_docks_62 (by decide) (fun c4 => ?_) (fun c4 => False.elim (by omega))
    refine lv_iload_n hx hb wdX12_docks_66 rfl (lv_at hl 3 rfl) ?_
    refine z_if_eq (tgt := 85) hx hb (by omega) wdX12_docks_67 (by decide) (fun c5 => ?_) (fun c5 => False.elim (by omega))
    refine lv_aload_n hx hb wdX12_docks_85 rfl (lv_at hl 1 rfl) ?_
    refine f_12_2 F w (a := 146) rfl wtb_102 wdX12_docks_86 ?_
    refine lv_bipush (v := zI 13) hx hb wdX12_docks_89 (by decide) ?_
    refine lv_iload_n hx hb wdX12_docks_91 rfl (lv_at hl 0 rfl) ?_
    refine z_iadd (z := (((13 + k) : Nat) : Int)) hx hb wdX12_docks_92 (by omega) ?_
    refine g_iald F w (a := 148) rfl (j := (13 + k)) (ix_n (by omega)) (by omega) wdX12_docks_93 ?_
    have hL5 := (hKL k (by omega)).2
    refine r_val (v := (zI (((o.2.2 k) : Nat) : Int))) (hW.2.2.2.2.2 k (by omega)) ?_
    refine x_Si F w (As := [.int (zI (((o.2.2 k) : Nat) : Int))]) (rest := []) (s_X12_firstOf (m9 := (o.2.2 k)) (by omega)) wgs_X12_63 whs_X12_firstOf ⟨(Nat.le_of_ble_eq_true rfl), (Nat.le_of_ble_eq_true rfl)⟩ hl.1 rfl (Nat.le_of_ble_eq_true rfl) ⟨Nat.zero_le _, Nat.zero_le _⟩ wdX12_docks_94 (fun H locs w => ?_)
    have hw5 := lowI_rg (o.2.2 k) (by omega)
    have h0t : o.2.2 k ≠ 0 := x2 (by omega)
    refine r_val (v := zI ((low (o.2.2 k) : Nat) : Int)) (congrArg zI (lowI_nz h0t)) ?_
    have he6 := (low_t (o.2.2 k) (by omega) h0t).2
    refine lv_istore (lv' := [(4, .int (zI (((low (o.2.2 k)) : Nat) : Int))), (3, .int (zI (k : Int))), (0, .ref (B + 146)), (1, .int (zI (t : Int))), (2, .int (zI (x : Int)))]) hx hb wdX12_docks_97 hl (by decide) rfl (fun ls hl => ?_)
    refine lv_aload_n hx hb wdX12_docks_99 rfl (lv_at hl 2 rfl) ?_
    refine f_12_2 F w (a := 146) rfl wtb_102 wdX12_docks_100 ?_
    refine lv_iload_n hx hb wdX12_docks_103 rfl (lv_at hl 3 rfl) ?_
    refine lv_iload hx hb wdX12_docks_104 (lv_at hl 0 rfl) ?_
    refine k_Si F w (As := [.ref (B + 148), .int (zI (t : Int)), .int (zI (((low (o.2.2 k)) : Nat) : Int))]) (rest := []) (s_X12_isOpen (a := 148) rfl hW hwf (t := t) (j := (low (o.2.2 k))) (by omega) (by omega)) wgs_X12_86 whs_X12_isOpen ⟨(Nat.le_of_ble_eq_true rfl), (Nat.le_of_ble_eq_true rfl)⟩ hl.1 rfl (Nat.le_of_ble_eq_true rfl) ⟨Nat.zero_le _, Nat.zero_le _⟩ wdX12_docks_106 (fun r Ma8 H locs hp w => ?_)
    rcases hp with ⟨⟨ho7, rfl⟩ | ⟨ho7, rfl⟩, hMe⟩
    · rw [hMe] at w
      refine z_if_eq (tgt := 119) hx hb (by omega) wdX12_docks_109 (by decide) (fun c9 => False.elim (by omega)) (fun c9 => ?_)
      refine lv_aload_n hx hb wdX12_docks_112 rfl (lv_at hl 2 rfl) ?_
      refine lv_iload_n hx hb wdX12_docks_113 rfl (lv_at hl 3 rfl) ?_
      refine lv_iload hx hb wdX12_docks_114 (lv_at hl 0 rfl) ?_
      refine k_Vv F w (As := [.int (zI (t : Int)), .int (zI (((low (o.2.2 k)) : Nat) : Int))]) (rest := []) (a := 146) (kd_lt (a := 146) (show kd 146 = (12, 0, 0) from rfl) (by decide)) (sh_12 rfl _ _) rfl (s_X12_comes hW hwf hc (t := t) (j := (low (o.2.2 k))) (by omega) (by omega)) wgv_X12_90 whv_X12_comes ⟨(Nat.le_of_ble_eq_true rfl), (Nat.le_of_ble_eq_true rfl)⟩ hl.1 rfl (Nat.le_of_ble_eq_true rfl) ⟨Nat.zero_le _, Nat.zero_le _⟩ wdX12_docks_116 (fun Ma10 H locs hp w => ?_)
      rcases hp with ⟨hW2, hc2, hF2⟩
      exact e_v F w hr hlocks (⟨_, _, by subst hxv; rw [dkG_0 h0]; exact dkF_y (dk_r (k := k) (by omega) h0t (by omega) x1 (lowI_nz h0t) ho7), ⟨hW2, (okW_line hR.2.1 (Nat.or_lt_two_pow (hR.2.1.2.2 t ht).2 (Nat.pow_lt_pow_right (by decide) (low_q (by omega) h0t (hR.2.1.2.2 k (by omega)).2)))), hhv, hed, hc2⟩, hF2, Nat.le_refl _⟩) wdX12_docks_119
    · rw [hMe] at w
      refine z_if_eq (tgt := 119) hx hb (by omega) wdX12_docks_109 (by decide) (fun c11 => ?_) (fun c11 => False.elim (by omega))
      exact e_v F w hr hlocks (RQ.id hR (by subst hxv; rw [dkG_0 h0]; exact dkF_n (dk_rn hR.2.1 x1 (by omega) x2 (by omega) (fun hk8 s8 e8 hs8 ho8 => ho7 (by rw [lowI_nz h0t] at e8; rw [show low (o.2.2 k) = s8 by omega]; exact ho8))))) wdX12_docks_119
  · rw [hMe] at w
    refine z_if_ne (tgt := 66) hx hb (by omega) wdX12_docks_62 (by decide) (fun c12 => False.elim (by omega)) (fun c12 => ?_)
    exact e_v F w hr hlocks (RQ.id hR (by subst hxv; rw [dkG_0 h0]; exact dkF_n (dk_rn hR.2.1 x1 (by omega) x2 (by omega) (fun hk8 => by omega)))) wdX12_docks_65
theorem wdX12_docks_41 : decode cX12_docks 41 = .ok (.iload_n 3, 1) := dq0 kk_29 (by decide +kernel)
theorem wdX12_docks_42 : decode cX12_docks 42 = .ok (.iconst 1, 1) := dq0 kk_4 (by decide +kernel)
theorem wdX12_docks_43 : decode cX12_docks 43 = .ok (.isub, 1) := dq0 kk_100 (by decide +kernel)
theorem wdX12_docks_44 : decode cX12_docks 44 = .ok (.goto 6, 3) := dqT kk_167 (by decide +kernel)
set_option maxRecDepth 4000 in
theorem lp_X12_docks_1 {p : Program} {l : Launch} {e : Env} {s : State} {m : MethodId} {args : Array Value} {below : List Frame} {meth : Method} {c : Code} {D : va_G} {B : Nat} {cy : Nat → ClassId} {H0 : Heap} {Q : State → Prop} {M : Mem} {R : Room} {q hv ed t x : Nat} {o : Wo} {z9 : Int} (F : CallFix p m c cX12_docks 5 s args TB RX12) (hR1 : 2 ≤ R.frames) (hR2 : 43 ≤ R.locals) (hR : RW M q hv ed o z9) (ht : t < o.1) (hxv : x = 1) (kk : ∀ (k : Nat) (H : Heap) (locs : List Loc) (ls : Array Slot), (k ≤ t) → (∀ i, k ≤ i → i < t → o.2.2 i = 0) → (0 < k → o.2.2 (k - 1) ≠ 0) → Wd D B cy s H0 M H locs → lv_has ls 5 [(3, .int (zI ((k : Int) - 1))), (0, .ref (B + 146)), (1, .int (zI (t : Int))), (2, .int (zI (x : Int)))] → W p l e R s m args below meth c H locs 0 0 Q (F0 m 54 ls [])) : ∀ (f : Nat) (k : Nat), (k ≤ t) → (∀ i, k ≤ i → i < t → o.2.2 i = 0) → (k ≤ f) → ∀ (H : Heap) (locs : List Loc) (ls : Array Slot), Wd D B cy s H0 M H locs → lv_has ls 5 [(3, .int (zI ((k : Int) - 1))), (0, .ref (B + 146)), (1, .int (zI (t : Int))), (2, .int (zI (x : Int)))] → W p l e R s m args below meth c H locs 0 0 Q (F0 m 14 ls []) := by
  have hx := F.1
  have hb := F.2.1
  have hW := hR.1
  have hwf := hR.wf
  have hKL := hwf.2.2.2.2
  have hn12 := hwf.1
  have hq12 := hwf.2.1
  have hhv := hwf.2.2.1
  have hed := hwf.2.2.2.1
  have hc := hR.2.2.2.2
  intro f
  induction f with
  | zero =>
    intro k i0 i1 hf H locs ls w hl
    refine lv_aload_n hx hb wdX12_docks_14 rfl (lv_at hl 1 rfl) ?_
    refine f_12_2 F w (a := 146) rfl wtb_102 wdX12_docks_15 ?_
    refine lv_iload_n hx hb wdX12_docks_18 rfl (lv_at hl 0 rfl) ?_
    refine k_Si F w (As := [.ref (B + 148), .int (zI ((k : Int) - 1))]) (rest := []) (s_X12_isTone (a := 148) rfl hW hwf (t := ((k : Int) - 1)) (by omega)) wgs_X12_105 whs_X12_isTone ⟨(by omega), (by omega)⟩ hl.1 rfl (Nat.le_of_ble_eq_true rfl) ⟨Nat.zero_le _, Nat.zero_le _⟩ wdX12_docks_19 (fun r Ma2 H locs hp w => ?_)
    rcases hp with ⟨⟨k1, ek1, hk1, rfl⟩ | ⟨nk1, rfl⟩, hMe⟩
    · rw [hMe] at w
      rw [show ((k : Int) - 1) = ((k - 1 : Nat) : Int) by omega] at hl
      refine z_if_eq (tgt := 54) hx hb (by omega) wdX12_docks_22 (by decide) (fun c3 => False.elim (by omega)) (fun c3 => ?_)
      refine lv_aload_n hx hb wdX12_docks_25 rfl (lv_at hl 1 rfl) ?_
      refine f_12_2 F w (a := 146) rfl wtb_102 wdX12_docks_26 ?_
      refine lv_bipush (v := zI 13) hx hb wdX12_docks_29 (by decide) ?_
      refine lv_iload_n hx hb wdX12_docks_31 rfl (lv_at hl 0 rfl) ?_
      refine z_iadd (z := (((13 + (k - 1)) : Nat) : Int)) hx hb wdX12_docks_32 (by omega) ?_
      refine g_iald F w (a := 148) rfl (j := (13 + (k - 1))) (ix_n (by omega)) (by omega) wdX12_docks_33 ?_
      have hL3 := (hKL (k - 1) (by omega)).2
      refine r_val (v := (zI (((o.2.2 (k - 1)) : Nat) : Int))) (hW.2.2.2.2.2 (k - 1) (by omega)) ?_
      refine z_if_ne (tgt := 54) hx hb (by omega) wdX12_docks_34 (by decide) (fun c4 => ?_) (fun c4 => ?_)
      · rw [show ((k - 1 : Nat) : Int) = ((k : Int) - 1) by omega] at hl
        exact kk k _ _ ls i0 i1 (fun _ => by omega) w (lv_sub hl [0, 1, 2, 3] rfl)
      · refine lv_iload_n hx hb wdX12_docks_37 rfl (lv_at hl 3 rfl) ?_
        refine z_if_eq (tgt := 47) hx hb (by omega) wdX12_docks_38 (by decide) (fun c5 => False.elim (by omega)) (fun c5 => ?_)
        refine lv_iload_n hx hb wdX12_docks_41 rfl (lv_at hl 0 rfl) ?_
        refine lv_iconst (v := zI 1) hx hb wdX12_docks_42 rfl ?_
        refine z_isub (z := ((((k - 1) : Nat) : Int) - 1)) hx hb wdX12_docks_43 (by omega) ?_
        refine lv_goto (tgt := 50) hx hb wdX12_docks_44 (by decide) ?_
        refine r_val (v := zI (((k - 1 : Nat) : Int) - 1)) (congrArg zI (by omega)) ?_
        refine lv_istore_n (lv' := [(3, .int (zI (((k - 1 : Nat) : Int) - 1))), (0, .ref (B + 146)), (1, .int (zI (t : Int))), (2, .int (zI (x : Int)))]) hx hb wdX12_docks_50 rfl hl (by decide) rfl (fun ls hl => ?_)
        refine lv_goto (tgt := 14) hx hb wdX12_docks_51 (by decide) ?_
        exact False.elim (by omega)
    · rw [hMe] at w
      refine z_if_eq (tgt := 54) hx hb (by omega) wdX12_docks_22 (by decide) (fun c6 => ?_) (fun c6 => False.elim (by omega))
      exact kk k _ _ ls i0 i1 (fun _ => by omega) w (lv_sub hl [0, 1, 2, 3] rfl)
  | succ f ih =>
    intro k i0 i1 hf H locs ls w hl
    refine lv_aload_n hx hb wdX12_docks_14 rfl (lv_at hl 1 rfl) ?_
    refine f_12_2 F w (a := 146) rfl wtb_102 wdX12_docks_15 ?_
    refine lv_iload_n hx hb wdX12_docks_18 rfl (lv_at hl 0 rfl) ?_
    refine k_Si F w (As := [.ref (B + 148), .int (zI ((k : Int) - 1))]) (rest := []) (s_X12_isTone (a := 148) rfl hW hwf (t := ((k : Int) - 1)) (by omega)) wgs_X12_105 whs_X12_isTone ⟨(by omega), (by omega)⟩ hl.1 rfl (Nat.le_of_ble_eq_true rfl) ⟨Nat.zero_le _, Nat.zero_le _⟩ wdX12_docks_19 (fun r Ma2 H locs hp w => ?_)
    rcases hp with ⟨⟨k1, ek1, hk1, rfl⟩ | ⟨nk1, rfl⟩, hMe⟩
    · rw [hMe] at w
      rw [show ((k : Int) - 1) = ((k - 1 : Nat) : Int) by omega] at hl
      refine z_if_eq (tgt := 54) hx hb (by omega) wdX12_docks_22 (by decide) (fun c3 => False.elim (by omega)) (fun c3 => ?_)
      refine lv_aload_n hx hb wdX12_docks_25 rfl (lv_at hl 1 rfl) ?_
      refine f_12_2 F w (a := 146) rfl wtb_102 wdX12_docks_26 ?_
      refine lv_bipush (v := zI 13) hx hb wdX12_docks_29 (by decide) ?_
      refine lv_iload_n hx hb wdX12_docks_31 rfl (lv_at hl 0 rfl) ?_
      refine z_iadd (z := (((13 + (k - 1)) : Nat) : Int)) hx hb wdX12_docks_32 (by omega) ?_
      refine g_iald F w (a := 148) rfl (j := (13 + (k - 1))) (ix_n (by omega)) (by omega) wdX12_docks_33 ?_
      have hL3 := (hKL (k - 1) (by omega)).2
      refine r_val (v := (zI (((o.2.2 (k - 1)) : Nat) : Int))) (hW.2.2.2.2.2 (k - 1) (by omega)) ?_
      refine z_if_ne (tgt := 54) hx hb (by omega) wdX12_docks_34 (by decide) (fun c4 => ?_) (fun c4 => ?_)
      · rw [show ((k - 1 : Nat) : Int) = ((k : Int) - 1) by omega] at hl
        exact kk k _ _ ls i0 i1 (fun _ => by omega) w (lv_sub hl [0, 1, 2, 3] rfl)
      · refine lv_iload_n hx hb wdX12_docks_37 rfl (lv_at hl 3 rfl) ?_
        refine z_if_eq (tgt := 47) hx hb (by omega) wdX12_docks_38 (by decide) (fun c5 => False.elim (by omega)) (fun c5 => ?_)
        refine lv_iload_n hx hb wdX12_docks_41 rfl (lv_at hl 0 rfl) ?_
        refine lv_iconst (v := zI 1) hx hb wdX12_docks_42 rfl ?_
        refine z_isub (z := ((((k - 1) : Nat) : Int) - 1)) hx hb wdX12_docks_43 (by omega) ?_
        refine lv_goto (tgt := 50) hx hb wdX12_docks_44 (by decide) ?_
        refine r_val (v := zI (((k - 1 : Nat) : Int) - 1)) (congrArg zI (by omega)) ?_
        refine lv_istore_n (lv' := [(3, .int (zI (((k - 1 : Nat) : Int) - 1))), (0, .ref (B + 146)), (1, .int (zI (t : Int))), (2, .int (zI (x : Int)))]) hx hb wdX12_docks_50 rfl hl (by decide) rfl (fun ls hl => ?_)
        refine lv_goto (tgt := 14) hx hb wdX12_docks_51 (by decide) ?_
        exact ih (k - 1) (by omega) (fun i h1 h2 => by by_cases h9 : i = k - 1; (subst h9; omega); exact i1 i (by omega) h2) (by omega) _ _ ls w (lv_sub hl [0, 1, 2, 3] rfl)
    · rw [hMe] at w
      refine z_if_eq (tgt := 54) hx hb (by omega) wdX12_docks_22 (by decide) (fun c6 => ?_) (fun c6 => False.elim (by omega))
      exact kk k _ _ ls i0 i1 (fun _ => by omega) w (lv_sub hl [0, 1, 2, 3] rfl)
theorem wdX12_docks_4 : decode cX12_docks 4 = .ok (.iload_n 1, 1) := dq0 kk_27 (by decide +kernel)
theorem wdX12_docks_5 : decode cX12_docks 5 = .ok (.iconst 1, 1) := dq0 kk_4 (by decide +kernel)
theorem wdX12_docks_6 : decode cX12_docks 6 = .ok (.isub, 1) := dq0 kk_100 (by decide +kernel)
theorem wdX12_docks_7 : decode cX12_docks 7 = .ok (.goto 6, 3) := dqT kk_167 (by decide +kernel)
theorem wdX12_docks_70 : decode cX12_docks 70 = .ok (.aload_n 0, 1) := dq0 kk_42 (by decide +kernel)
theorem wdX12_docks_71 : decode cX12_docks 71 = .ok (.getfield 17, 3) := dqV kk_180 (by decide +kernel)
theorem wdX12_docks_74 : decode cX12_docks 74 = .ok (.bipush 13, 2) := dqS kk_16 (by decide +kernel)
theorem wdX12_docks_76 : decode cX12_docks 76 = .ok (.iload_n 3, 1) := dq0 kk_29 (by decide +kernel)
theorem wdX12_docks_77 : decode cX12_docks 77 = .ok (.iadd, 1) := dq0 kk_96 (by decide +kernel)
theorem wdX12_docks_78 : decode cX12_docks 78 = .ok (.iaload, 1) := dq0 kk_46 (by decide +kernel)
theorem wdX12_docks_79 : decode cX12_docks 79 = .ok (.invokestatic 59, 3) := dqV kk_184 (by decide +kernel)
theorem wdX12_docks_82 : decode cX12_docks 82 = .ok (.goto 15, 3) := dqT kk_167 (by decide +kernel)
set_option maxRecDepth 4000 in
theorem s_X12_docks_1 {l : Launch} {D : va_G} {B : Nat} {cy : Nat → ClassId} {M : Mem} {q hv ed : Nat} {o : Wo} {z9 : Int} (hR : RW M q hv ed o z9) {t x : Nat} (ht : t < o.1) (hxv : x = 1) (h0 : o.2.2 t = 0) : Cv l D B cy yX12_docks cX12_docks 5 3 66 [.ref (B + 146), .int (zI (t : Int)), .int (zI (x : Int))] M (fun M1 => RQ q hv ed (dkG q t x o) 1 z9 M M1) := by
  refine s_any (by decide) (Nat.le_of_ble_eq_true rfl) ?_
  intro p e s m below meth c ls F hr hlocks w hl
  have F : CallFix p m c cX12_docks 5 s _ TB RX12 := F
  have hx := F.1
  have hb := F.2.1
  have hl : lv_has ls 5 [(0, .ref (B + 146)), (1, .int (zI (t : Int))), (2, .int (zI (x : Int)))] := hl
  have hW := hR.1
  have hwf := hR.wf
  have hKL := hwf.2.2.2.2
  have hn12 := hwf.1
  have hq12 := hwf.2.1
  have hhv := hwf.2.2.1
  have hed := hwf.2.2.2.1
  have hc := hR.2.2.2.2
  refine lv_iload_n hx hb wdX12_docks_0 rfl (lv_at hl 2 rfl) ?_
  refine z_if_eq (tgt := 10) hx hb (by omega) wdX12_docks_1 (by decide) (fun c1 => False.elim (by omega)) (fun c1 => ?_)
  refine lv_iload_n hx hb wdX12_docks_4 rfl (lv_at hl 1 rfl) ?_
  refine lv_iconst (v := zI 1) hx hb wdX12_docks_5 rfl ?_
  refine z_isub (z := ((t : Int) - 1)) hx hb wdX12_docks_6 (by omega) ?_
  refine lv_goto (tgt := 13) hx hb wdX12_docks_7 (by decide) ?_
  refine r_val (v := zI ((t : Int) - 1)) (congrArg zI (by omega)) ?_
  refine lv_istore_n (lv' := [(3, .int (zI ((t : Int) - 1))), (0, .ref (B + 146)), (1, .int (zI (t : Int))), (2, .int (zI (x : Int)))]) hx hb wdX12_docks_13 rfl hl (by decide) rfl (fun ls hl => ?_)
  refine lp_X12_docks_1  F (Nat.le_of_ble_eq_true rfl) (Nat.le_of_ble_eq_true rfl) hR ht hxv (fun k H locs ls x0 x1 x2 w hl => ?_) 12 t (by omega) (fun i h1 h2 => by omega) (by omega) _ _ ls w (lv_sub hl [0, 1, 2, 3] rfl)
  refine lv_aload_n hx hb wdX12_docks_54 rfl (lv_at hl 1 rfl) ?_
  refine f_12_2 F w (a := 146) rfl wtb_102 wdX12_docks_55 ?_
  refine lv_iload_n hx hb wdX12_docks_58 rfl (lv_at hl 0 rfl) ?_
  refine k_Si F w (As := [.ref (B + 148), .int (zI ((k : Int) - 1))]) (rest := []) (s_X12_isTone (a := 148) rfl hW hwf (t := ((k : Int) - 1)) (by omega)) wgs_X12_105 whs_X12_isTone ⟨(Nat.le_of_ble_eq_true rfl), (Nat.le_of_ble_eq_true rfl)⟩ hl.1 rfl (Nat.le_of_ble_eq_true rfl) ⟨Nat.zero_le _, Nat.zero_le _⟩ wdX12_docks_59 (fun r Ma3 H locs hp w => ?_)
  rcases hp with ⟨⟨k2, ek2, hk2, rfl⟩ | ⟨nk2, rfl⟩, hMe⟩
  · rw [hMe] at w
    rw [show ((k : Int) - 1) = ((k - 1 : Nat) : Int) by omega] at hl
    refine z_if_ne (tgt := 66) hx hb (by omega) wdX12_docks_62 (by decide) (fun c4 => ?_) (fun c4 => False.elim (by omega))
    refine lv_iload_n hx hb wdX12_docks_66 rfl (lv_at hl 3 rfl) ?_
    refine z_if_eq (tgt := 85) hx hb (by omega) wdX12_docks_67 (by decide) (fun c5 => False.elim (by omega)) (fun c5 => ?_)
    refine lv_aload_n hx hb wdX12_docks_70 rfl (lv_at hl 1 rfl) ?_
    refine f_12_2 F w (a := 146) rfl wtb_102 wdX12_docks_71 ?_
    refine lv_bipush (v := zI 13) hx hb wdX12_docks_74 (by decide) ?_
    refine lv_iload_n hx hb wdX12_docks_76 rfl (lv_at hl 0 rfl) ?_
    refine z_iadd (z := (((13 + (k - 1)) : Nat) : Int)) hx hb wdX12_docks_77 (by omega) ?_
    refine g_iald F w (a := 148) rfl (j := (13 + (k - 1))) (ix_n (by omega)) (by omega) wdX12_docks_78 ?_
    have hL5 := (hKL (k - 1) (by omega)).2
    refine r_val (v := (zI (((o.2.2 (k - 1)) : Nat) : Int))) (hW.2.2.2.2.2 (k - 1) (by omega)) ?_
    refine x_Si F w (As := [.int (zI (((o.2.2 (k - 1)) : Nat) : Int))]) (rest := []) (s_X12_lastOf (m9 := (o.2.2 (k - 1))) (by omega)) wgs_X12_59 whs_X12_lastOf ⟨(Nat.le_of_ble_eq_true rfl), (Nat.le_of_ble_eq_true rfl)⟩ hl.1 rfl (Nat.le_of_ble_eq_true rfl) ⟨Nat.zero_le _, Nat.zero_le _⟩ wdX12_docks_79 (fun H locs w => ?_)
    have hw5 := higI_rg (o.2.2 (k - 1)) (by omega)
    have h0t : o.2.2 (k - 1) ≠ 0 := x2 (by omega)
    refine r_val (v := zI ((hig (o.2.2 (k - 1)) : Nat) : Int)) (congrArg zI (higI_nz h0t)) ?_
    have he6 := (hig_t (o.2.2 (k - 1)) (by omega) h0t).2
    refine lv_goto (tgt := 97) hx hb wdX12_docks_82 (by decide) ?_
    refine lv_istore (lv' := [(4, .int (zI (((hig (o.2.2 (k - 1))) : Nat) : Int))), (3, .int (zI (((k - 1) : Nat) : Int))), (0, .ref (B + 146)), (1, .int (zI (t : Int))), (2, .int (zI (x : Int)))]) hx hb wdX12_docks_97 hl (by decide) rfl (fun ls hl => ?_)
    refine lv_aload_n hx hb wdX12_docks_99 rfl (lv_at hl 2 rfl) ?_
    refine f_12_2 F w (a := 146) rfl wtb_102 wdX12_docks_100 ?_
    refine lv_iload_n hx hb wdX12_docks_103 rfl (lv_at hl 3 rfl) ?_
    refine lv_iload hx hb wdX12_docks_104 (lv_at hl 0 rfl) ?_
    refine k_Si F w (As := [.ref (B + 148), .int (zI (t : Int)), .int (zI (((hig (o.2.2 (k - 1))) : Nat) : Int))]) (rest := []) (s_X12_isOpen (a := 148) rfl hW hwf (t := t) (j := (hig (o.2.2 (k - 1)))) (by omega) (by omega)) wgs_X12_86 whs_X12_isOpen ⟨(Nat.le_of_ble_eq_true rfl), (Nat.le_of_ble_eq_true rfl)⟩ hl.1 rfl (Nat.le_of_ble_eq_true rfl) ⟨Nat.zero_le _, Nat.zero_le _⟩ wdX12_docks_106 (fun r Ma8 H locs hp w => ?_)
    rcases hp with ⟨⟨ho7, rfl⟩ | ⟨ho7, rfl⟩, hMe⟩
    · rw [hMe] at w
      refine z_if_eq (tgt := 119) hx hb (by omega) wdX12_docks_109 (by decide) (fun c9 => False.elim (by omega)) (fun c9 => ?_)
      refine lv_aload_n hx hb wdX12_docks_112 rfl (lv_at hl 2 rfl) ?_
      refine lv_iload_n hx hb wdX12_docks_113 rfl (lv_at hl 3 rfl) ?_
      refine lv_iload hx hb wdX12_docks_114 (lv_at hl 0 rfl) ?_
      refine k_Vv F w (As := [.int (zI (t : Int)), .int (zI (((hig (o.2.2 (k - 1))) : Nat) : Int))]) (rest := []) (a := 146) (kd_lt (a := 146) (show kd 146 = (12, 0, 0) from rfl) (by decide)) (sh_12 rfl _ _) rfl (s_X12_comes hW hwf hc (t := t) (j := (hig (o.2.2 (k - 1)))) (by omega) (by omega)) wgv_X12_90 whv_X12_comes ⟨(Nat.le_of_ble_eq_true rfl), (Nat.le_of_ble_eq_true rfl)⟩ hl.1 rfl (Nat.le_of_ble_eq_true rfl) ⟨Nat.zero_le _, Nat.zero_le _⟩ wdX12_docks_116 (fun Ma10 H locs hp w => ?_)
      rcases hp with ⟨hW2, hc2, hF2⟩
      exact e_v F w hr hlocks (⟨_, _, by subst hxv; rw [dkG_0 h0]; exact dkF_y (dk_l (k := k - 1) (by omega) h0t (by omega) (fun i h1 h2 => x1 i (by omega) h2) (higI_nz h0t) ho7), ⟨hW2, (okW_line hR.2.1 (Nat.or_lt_two_pow (hR.2.1.2.2 t ht).2 (Nat.pow_lt_pow_right (by decide) (hig_q (by omega) h0t (hR.2.1.2.2 (k - 1) (by omega)).2)))), hhv, hed, hc2⟩, hF2, Nat.le_refl _⟩) wdX12_docks_119
    · rw [hMe] at w
      refine z_if_eq (tgt := 119) hx hb (by omega) wdX12_docks_109 (by decide) (fun c11 => ?_) (fun c11 => False.elim (by omega))
      exact e_v F w hr hlocks (RQ.id hR (by subst hxv; rw [dkG_0 h0]; exact dkF_n (dk_ln hR.2.1 x1 (by omega) ht x2 (fun hk8 s8 e8 hs8 ho8 => ho7 (by rw [higI_nz h0t] at e8; rw [show hig (o.2.2 (k - 1)) = s8 by omega]; exact ho8))))) wdX12_docks_119
  · rw [hMe] at w
    refine z_if_ne (tgt := 66) hx hb (by omega) wdX12_docks_62 (by decide) (fun c12 => False.elim (by omega)) (fun c12 => ?_)
    exact e_v F w hr hlocks (RQ.id hR (by subst hxv; rw [dkG_0 h0]; exact dkF_n (dk_ln hR.2.1 x1 (by omega) ht x2 (fun hk8 => by omega)))) wdX12_docks_65
