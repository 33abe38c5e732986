theorem okW_line {q t v : Nat} {o : Wo} (h : okW q o) (hv : v < 2 ^ q) : okW q (o.1, o.2.1, updF o.2.2 t v) := ⟨h.1, h.2.1, fun k hk => ⟨(h.2.2 k hk).1, by
  show updF o.2.2 t v k < 2 ^ q
  unfold updF
  by_cases h1 : k = t
  · rw [if_pos h1]; exact hv
  · rw [if_neg h1]; exact (h.2.2 k hk).2⟩⟩
theorem okW_kind {q t v : Nat} {o : Wo} (h : okW q o) (hv : v ≤ 2) : okW q (o.1, updF o.2.1 t v, o.2.2) := ⟨h.1, h.2.1, fun k hk => ⟨by
  show updF o.2.1 t v k ≤ 2
  unfold updF
  by_cases h1 : k = t
  · rw [if_pos h1]; exact hv
  · rw [if_neg h1]; exact (h.2.2 k hk).1, (h.2.2 k hk).2⟩⟩
theorem okW_rem {q t : Nat} {o : Wo} (h : okW q o) (ht : t < o.1) : okW q (o.1 - 1, remF o.2.1 t, remF o.2.2 t) := ⟨by have := h.1; show o.1 - 1 ≤ 12; omega, h.2.1, fun k hk => by
  have hk : k < o.1 - 1 := hk
  show remF o.2.1 t k ≤ 2 ∧ remF o.2.2 t k < 2 ^ q
  unfold remF
  by_cases h1 : k < t
  · rw [if_pos h1, if_pos h1]; exact h.2.2 k (by omega)
  · rw [if_neg h1, if_neg h1]; exact h.2.2 (k + 1) (by omega)⟩
theorem okW_ins {q t x : Nat} {o : Wo} (h : okW q o) (hn : o.1 < 12) (ht : t ≤ o.1) (hx : x ≤ 2) : okW q (o.1 + 1, insF o.2.1 t x, insF o.2.2 t 0) := ⟨by show o.1 + 1 ≤ 12; omega, h.2.1, fun k hk => by
  have hk : k < o.1 + 1 := hk
  show insF o.2.1 t x k ≤ 2 ∧ insF o.2.2 t 0 k < 2 ^ q
  unfold insF
  by_cases h1 : k < t
  · rw [if_pos h1, if_pos h1]; exact h.2.2 k (by omega)
  · rw [if_neg h1, if_neg h1]
    by_cases h2 : k = t
    · rw [if_pos h2, if_pos h2]; exact ⟨hx, Nat.two_pow_pos q⟩
    · rw [if_neg h2, if_neg h2]; exact h.2.2 (k - 1) (by omega)⟩
theorem andn_lt {m b q : Nat} (h : m < 2 ^ q) : andn m b < 2 ^ q := Nat.lt_of_le_of_lt (andn_le m b) h
def fuO (t : Nat) (o : Wo) : Wo := (o.1 - 1, remF o.2.1 (t + 1), remF (updF o.2.2 t (o.2.2 t ||| andn (o.2.2 (t + 1)) (o.2.2 t))) (t + 1))
theorem okW_fu {q t : Nat} {o : Wo} (h : okW q o) (ht : t + 1 < o.1) : okW q (fuO t o) := okW_rem (o := (o.1, o.2.1, updF o.2.2 t (o.2.2 t ||| andn (o.2.2 (t + 1)) (o.2.2 t)))) (okW_line h (Nat.or_lt_two_pow (h.2.2 t (by omega)).2 (andn_lt (h.2.2 (t + 1) ht).2))) ht
theorem fu_y {k t : Nat} {o : Wo} (h : t + 1 < o.1) (h1 : o.2.1 (t + 1) = o.2.1 t) : fuF (k + 1) t o = ((fuF k t (fuO t o)).1, (fuF k t (fuO t o)).2 + pop (andn (o.2.2 (t + 1)) (o.2.2 t)) + 1) := by
  rw [fuF, if_pos ⟨h, h1⟩]
  rfl
theorem fu_n {k t : Nat} {o : Wo} (h : ¬ (t + 1 < o.1 ∧ o.2.1 (t + 1) = o.2.1 t)) : fuF k t o = (o, 0) := by
  cases k with
  | zero => rfl
  | succ k => rw [fuF, if_neg h]
/-- what the loop has done so far -/
def fuI (j0 t j cc : Nat) (o o1 : Wo) : Prop := fuF j0 t o = ((fuF j t o1).1, (fuF j t o1).2 + cc)
theorem fuI_0 {j t : Nat} {o : Wo} : fuI j t j 0 o o := by unfold fuI; rfl
theorem fuI_s {j0 t j cc : Nat} {o o1 : Wo} (h : fuI j0 t (j + 1) cc o o1) (h1 : t + 1 < o1.1) (h2 : o1.2.1 (t + 1) = o1.2.1 t) : fuI j0 t j (cc + (pop (andn (o1.2.2 (t + 1)) (o1.2.2 t)) + 1)) o (fuO t o1) := by
  unfold fuI at *
  rw [h, fu_y h1 h2]
  refine Prod.ext rfl ?_
  show _ + pop _ + 1 + cc = _ + (cc + (pop _ + 1))
  omega
theorem fuI_e {j0 t j cc : Nat} {o o1 : Wo} (h : fuI j0 t j cc o o1) (h1 : j = 0 ∨ ¬ (t + 1 < o1.1 ∧ o1.2.1 (t + 1) = o1.2.1 t)) : fuF j0 t o = (o1, cc) := by
  unfold fuI at h
  rcases h1 with h1 | h1
  · rw [h, h1]; exact Prod.ext rfl (Nat.zero_add cc)
  · rw [h, fu_n h1]; exact Prod.ext rfl (Nat.zero_add cc)
theorem isW.e {M : Mem} {a n q hv ed : Nat} {K L K2 L2 : Nat → Nat} (h : isW M a n q hv ed K L) (e1 : K = K2) (e2 : L = L2) : isW M a n q hv ed K2 L2 := e1 ▸ e2 ▸ h
theorem wdX1_fuse_12 : decode cX1_fuse 12 = .ok (.iload 4, 2) := dqU kk_21 (by decide +kernel)
theorem wdX1_fuse_14 : decode cX1_fuse 14 = .ok (.ifCond .le 85, 3) := dqT kk_158 (by decide +kernel)
theorem wdX1_fuse_17 : decode cX1_fuse 17 = .ok (.aload_n 1, 1) := dq0 kk_43 (by decide +kernel)
theorem wdX1_fuse_18 : decode cX1_fuse 18 = .ok (.iload_n 2, 1) := dq0 kk_28 (by decide +kernel)
theorem wdX1_fuse_19 : decode cX1_fuse 19 = .ok (.iconst 1, 1) := dq0 kk_4 (by decide +kernel)
theorem wdX1_fuse_20 : decode cX1_fuse 20 = .ok (.iadd, 1) := dq0 kk_96 (by decide +kernel)
theorem wdX1_fuse_21 : decode cX1_fuse 21 = .ok (.invokevirtual 47, 3) := dqV kk_182 (by decide +kernel)
theorem wtk_X9_hasTone : Cond.code yX9_hasTone cX9_hasTone 2 (some .boolean) ∈ TB := tk_X9_hasTone
theorem wgc_X9_hasTone : GoodIn TB (cw yX9_hasTone cX9_hasTone 2 (some .boolean)) := goodIn_c2 wtk_X9_hasTone
theorem wtb_22 : Cond.methodLink "ToneLines$Doer" 47 yX9_hasTone ∈ TB := tb_77
theorem wtb_23 : Cond.instanceMethod yX9_hasTone ∈ TB := tb_3
theorem wtb_24 : Cond.selects "ToneLines$Word" yX9_hasTone yX9_hasTone ∈ TB := tb_4
theorem wgv_X1_47 : GoodIn TB (wsV RX1 47 RX9 yX9_hasTone (cw yX9_hasTone cX9_hasTone 2 (some .boolean))) := goodIn_4 wtb_22 wtb_23 wtb_24 wtb_3 wgc_X9_hasTone
theorem whv_X9_hasTone : yX9_hasTone.cls = RX9 ∧ yX9_hasTone.cls ≠ "java/lang/invoke/MethodHandle" ∧ yX9_hasTone.cls ≠ "java/lang/invoke/VarHandle" ∧ (parseMethodDescriptor yX9_hasTone.desc).map (fun d => d.parameters.length) = some 1 := hv_X9_hasTone
theorem wdX1_fuse_24 : decode cX1_fuse 24 = .ok (.ifCond .eq 75, 3) := dqT kk_153 (by decide +kernel)
theorem wdX1_fuse_27 : decode cX1_fuse 27 = .ok (.aload_n 1, 1) := dq0 kk_43 (by decide +kernel)
theorem wdX1_fuse_28 : decode cX1_fuse 28 = .ok (.iload_n 2, 1) := dq0 kk_28 (by decide +kernel)
theorem wdX1_fuse_29 : decode cX1_fuse 29 = .ok (.invokevirtual 94, 3) := dqV kk_182 (by decide +kernel)
theorem wtb_25 : Cond.methodLink "ToneLines$Doer" 94 yX9_kindOf ∈ TB := tb_82
theorem wgv_X1_94 : GoodIn TB (wsV RX1 94 RX9 yX9_kindOf (cw yX9_kindOf cX9_kindOf 2 (some .int))) := goodIn_4 wtb_25 wtb_16 wtb_17 wtb_3 wgc_X9_kindOf
theorem wdX1_fuse_32 : decode cX1_fuse 32 = .ok (.aload_n 1, 1) := dq0 kk_43 (by decide +kernel)
theorem wdX1_fuse_33 : decode cX1_fuse 33 = .ok (.getfield 140, 3) := dqV kk_180 (by decide +kernel)
theorem wtb_26 : Cond.fieldLink "ToneLines$Doer" 140 "ToneLines$Word" "kinds" "[I" ∈ TB := tb_85
theorem wdX1_fuse_36 : decode cX1_fuse 36 = .ok (.iload_n 2, 1) := dq0 kk_28 (by decide +kernel)
theorem wdX1_fuse_37 : decode cX1_fuse 37 = .ok (.iconst 1, 1) := dq0 kk_4 (by decide +kernel)
theorem wdX1_fuse_38 : decode cX1_fuse 38 = .ok (.iadd, 1) := dq0 kk_96 (by decide +kernel)
theorem wdX1_fuse_39 : decode cX1_fuse 39 = .ok (.iaload, 1) := dq0 kk_46 (by decide +kernel)
theorem wdX1_fuse_40 : decode cX1_fuse 40 = .ok (.if_icmp .eq 6, 3) := dqT kk_159 (by decide +kernel)
theorem wdX1_fuse_46 : decode cX1_fuse 46 = .ok (.aload_n 1, 1) := dq0 kk_43 (by decide +kernel)
theorem wdX1_fuse_47 : decode cX1_fuse 47 = .ok (.getfield 50, 3) := dqV kk_180 (by decide +kernel)
theorem wtb_27 : Cond.fieldLink "ToneLines$Doer" 50 "ToneLines$Word" "lines" "[I" ∈ TB := tb_78
theorem wdX1_fuse_50 : decode cX1_fuse 50 = .ok (.iload_n 2, 1) := dq0 kk_28 (by decide +kernel)
theorem wdX1_fuse_51 : decode cX1_fuse 51 = .ok (.iconst 1, 1) := dq0 kk_4 (by decide +kernel)
theorem wdX1_fuse_52 : decode cX1_fuse 52 = .ok (.iadd, 1) := dq0 kk_96 (by decide +kernel)
theorem wdX1_fuse_53 : decode cX1_fuse 53 = .ok (.iaload, 1) := dq0 kk_46 (by decide +kernel)
theorem wdX1_fuse_54 : decode cX1_fuse 54 = .ok (.aload_n 1, 1) := dq0 kk_43 (by decide +kernel)
theorem wdX1_fuse_55 : decode cX1_fuse 55 = .ok (.getfield 50, 3) := dqV kk_180 (by decide +kernel)
theorem wdX1_fuse_58 : decode cX1_fuse 58 = .ok (.iload_n 2, 1) := dq0 kk_28 (by decide +kernel)
theorem wdX1_fuse_59 : decode cX1_fuse 59 = .ok (.iaload, 1) := dq0 kk_46 (by decide +kernel)
theorem wdX1_fuse_60 : decode cX1_fuse 60 = .ok (.iconst (-1), 1) := dq0 kk_2 (by decide +kernel)
theorem wdX1_fuse_61 : decode cX1_fuse 61 = .ok (.ixor, 1) := dq0 kk_130 (by decide +kernel)
theorem wdX1_fuse_62 : decode cX1_fuse 62 = .ok (.iand, 1) := dq0 kk_126 (by decide +kernel)
theorem wdX1_fuse_63 : decode cX1_fuse 63 = .ok (.istore 5, 2) := dqU kk_54 (by decide +kernel)
theorem wdX1_fuse_65 : decode cX1_fuse 65 = .ok (.aload_n 1, 1) := dq0 kk_43 (by decide +kernel)
theorem wdX1_fuse_66 : decode cX1_fuse 66 = .ok (.getfield 50, 3) := dqV kk_180 (by decide +kernel)
theorem wdX1_fuse_69 : decode cX1_fuse 69 = .ok (.iload_n 2, 1) := dq0 kk_28 (by decide +kernel)
theorem wdX1_fuse_70 : decode cX1_fuse 70 = .ok (.dup2, 1) := dq0 kk_92 (by decide +kernel)
theorem wdX1_fuse_71 : decode cX1_fuse 71 = .ok (.iaload, 1) := dq0 kk_46 (by decide +kernel)
theorem wdX1_fuse_72 : decode cX1_fuse 72 = .ok (.iload 5, 2) := dqU kk_21 (by decide +kernel)
theorem wdX1_fuse_74 : decode cX1_fuse 74 = .ok (.ior, 1) := dq0 kk_128 (by decide +kernel)
theorem wdX1_fuse_75 : decode cX1_fuse 75 = .ok (.iastore, 1) := dq0 kk_79 (by decide +kernel)
theorem wdX1_fuse_76 : decode cX1_fuse 76 = .ok (.aload_n 1, 1) := dq0 kk_43 (by decide +kernel)
theorem wdX1_fuse_77 : decode cX1_fuse 77 = .ok (.iload_n 2, 1) := dq0 kk_28 (by decide +kernel)
theorem wdX1_fuse_78 : decode cX1_fuse 78 = .ok (.iconst 1, 1) := dq0 kk_4 (by decide +kernel)
theorem wdX1_fuse_79 : decode cX1_fuse 79 = .ok (.iadd, 1) := dq0 kk_96 (by decide +kernel)
theorem wdX1_fuse_80 : decode cX1_fuse 80 = .ok (.invokevirtual 136, 3) := dqV kk_182 (by decide +kernel)
theorem wtk_X9_removeTone : Cond.code yX9_removeTone cX9_removeTone 3 none ∈ TB := tk_X9_removeTone
theorem wgc_X9_removeTone : GoodIn TB (cw yX9_removeTone cX9_removeTone 3 none) := goodIn_c2 wtk_X9_removeTone
theorem wtb_28 : Cond.methodLink "ToneLines$Doer" 136 yX9_removeTone ∈ TB := tb_86
theorem wtb_29 : Cond.instanceMethod yX9_removeTone ∈ TB := tb_87
theorem wtb_30 : Cond.selects "ToneLines$Word" yX9_removeTone yX9_removeTone ∈ TB := tb_88
theorem wgv_X1_136 : GoodIn TB (wsV RX1 136 RX9 yX9_removeTone (cw yX9_removeTone cX9_removeTone 3 none)) := goodIn_4 wtb_28 wtb_29 wtb_30 wtb_3 wgc_X9_removeTone
theorem whv_X9_removeTone : yX9_removeTone.cls = RX9 ∧ yX9_removeTone.cls ≠ "java/lang/invoke/MethodHandle" ∧ yX9_removeTone.cls ≠ "java/lang/invoke/VarHandle" ∧ (parseMethodDescriptor yX9_removeTone.desc).map (fun d => d.parameters.length) = some 1 := hv_X9_removeTone
theorem wdX1_fuse_83 : decode cX1_fuse 83 = .ok (.iload_n 3, 1) := dq0 kk_29 (by decide +kernel)
theorem wdX1_fuse_84 : decode cX1_fuse 84 = .ok (.iload 5, 2) := dqU kk_21 (by decide +kernel)
theorem wdX1_fuse_86 : decode cX1_fuse 86 = .ok (.invokestatic 67, 3) := dqV kk_184 (by decide +kernel)
theorem wtb_31 : Cond.methodLink "ToneLines$Doer" 67 yJ6_bitCount_0f7a4 ∈ TB := tbm (tc4 (List.mem_of_getElem? (i := 6) rfl)) rfl
theorem wgs_X1_67 : GoodIn TB (va_wsS RX1 67 yJ6_bitCount_0f7a4 (cw yJ6_bitCount_0f7a4 cJ6_bitCount_0f7a4 1 (some .int))) := goodIn_3 wtb_31 wtb_13 wtb_14 wgc_J6_bitCount_0f7a4
theorem wdX1_fuse_89 : decode cX1_fuse 89 = .ok (.iconst 1, 1) := dq0 kk_4 (by decide +kernel)
theorem wdX1_fuse_90 : decode cX1_fuse 90 = .ok (.iadd, 1) := dq0 kk_96 (by decide +kernel)
theorem wdX1_fuse_91 : decode cX1_fuse 91 = .ok (.iadd, 1) := dq0 kk_96 (by decide +kernel)
theorem wdX1_fuse_92 : decode cX1_fuse 92 = .ok (.istore_n 3, 1) := dq0 kk_62 (by decide +kernel)
theorem wdX1_fuse_93 : decode cX1_fuse 93 = .ok (.iinc 4 (-1), 3) := dqI kk_132 (by decide +kernel)
theorem wdX1_fuse_96 : decode cX1_fuse 96 = .ok (.goto (-84), 3) := dqT kk_167 (by decide +kernel)
theorem wdX1_fuse_43 : decode cX1_fuse 43 = .ok (.goto 56, 3) := dqT kk_167 (by decide +kernel)
set_option maxRecDepth 4000 in
theorem lp_X1_fuse {p : Program} {l : Launch} {e : Env} {s : State} {m : MethodId} {args : Array Value} {below : List Frame} {meth : Method} {c : Code} {D : va_G} {B : Nat} {cy : Nat → ClassId} {H0 : Heap} {Q : State → Prop} {M : Mem} {R : Room} {a q hv ed t : Nat} {o : Wo} (F : CallFix p m c cX1_fuse 6 s args TB RX1) (hR1 : 2 ≤ R.frames) (hR2 : 43 ≤ R.locals) (hk : kd a = (9, 0, 0)) (kk : ∀ (j : Nat) (cc : Nat) (Nm : Mem) (o1 : Wo) (H : Heap) (locs : List Loc) (ls : Array Slot), (CW Nm a q hv ed o1) → (fuF (o.1 - 1 - t) t o = (o1, cc)) → (Fr3 Nm M a) → (cc ≤ 156) → Wd D B cy s H0 Nm H locs → lv_has ls 6 [(3, .int (zI (cc : Int)))] → W p l e R s m args below meth c H locs 0 0 Q (F0 m 99 ls [])) : ∀ (f : Nat) (j : Nat) (cc : Nat) (Nm : Mem) (o1 : Wo), (j + t + 1 = o1.1) → (CW Nm a q hv ed o1) → (fuI (o.1 - 1 - t) t j cc o o1) → (cc + 13 * j ≤ 156) → (Fr3 Nm M a) → (j ≤ f) → ∀ (H : Heap) (locs : List Loc) (ls : Array Slot), Wd D B cy s H0 Nm H locs → lv_has ls 6 [(4, .int (zI (j : Int))), (3, .int (zI (cc : Int))), (0, .ref (B + 23)), (1, .ref (B + a)), (2, .int (zI (t : Int)))] → W p l e R s m args below meth c H locs 0 0 Q (F0 m 12 ls []) := by
  have hx := F.1
  have hb := F.2.1
  intro f
  induction f with
  | zero =>
    intro j cc Nm o1 i0 i1 i2 i3 i4 hf H locs ls w hl
    have hW1 := i1.1
    have hwf1 := i1.wf
    have hKL1 := hwf1.2.2.2.2
    have hn1 := hwf1.1
    refine lv_iload hx hb wdX1_fuse_12 (lv_at hl 0 rfl) ?_
    refine z_if_le (tgt := 99) hx hb (by omega) wdX1_fuse_14 (by decide) (fun c1 => ?_) (fun c1 => False.elim (by omega))
    exact kk j cc Nm o1 _ _ ls i1 (fuI_e i2 (by omega)) i4 (by omega) w (lv_sub hl [1] rfl)
  | succ f ih =>
    intro j cc Nm o1 i0 i1 i2 i3 i4 hf H locs ls w hl
    have hW1 := i1.1
    have hwf1 := i1.wf
    have hKL1 := hwf1.2.2.2.2
    have hn1 := hwf1.1
    refine lv_iload hx hb wdX1_fuse_12 (lv_at hl 0 rfl) ?_
    refine z_if_le (tgt := 99) hx hb (by omega) wdX1_fuse_14 (by decide) (fun c1 => ?_) (fun c1 => ?_)
    · exact kk j cc Nm o1 _ _ ls i1 (fuI_e i2 (by omega)) i4 (by omega) w (lv_sub hl [1] rfl)
    · refine lv_aload_n hx hb wdX1_fuse_17 rfl (lv_at hl 3 rfl) ?_
      refine lv_iload_n hx hb wdX1_fuse_18 rfl (lv_at hl 4 rfl) ?_
      refine lv_iconst (v := zI 1) hx hb wdX1_fuse_19 rfl ?_
      refine z_iadd (z := (((t + 1) : Nat) : Int)) hx hb wdX1_fuse_20 (by omega) ?_
      refine k_Vi F w (As := [.int (zI (((t + 1) : Nat) : Int))]) (rest := []) (a := a) (kd_lt (a := a) hk (by decide)) (sh_9 hk _ _) rfl (s_X9_hasTone hk hW1 hwf1 (by omega)) wgv_X1_47 whv_X9_hasTone ⟨(by omega), (by omega)⟩ hl.1 rfl (Nat.le_of_ble_eq_true rfl) ⟨Nat.zero_le _, Nat.zero_le _⟩ wdX1_fuse_21 (fun r Ma3 H locs hp w => ?_)
      rcases hp with ⟨⟨k2, ek2, hk2, rfl⟩ | ⟨nk2, rfl⟩, hMe⟩
      · rw [hMe] at w
        refine z_if_eq (tgt := 99) hx hb (by omega) wdX1_fuse_24 (by decide) (fun c4 => False.elim (by omega)) (fun c4 => ?_)
        refine lv_aload_n hx hb wdX1_fuse_27 rfl (lv_at hl 3 rfl) ?_
        refine lv_iload_n hx hb wdX1_fuse_28 rfl (lv_at hl 4 rfl) ?_
        refine k_Vi F w (As := [.int (zI (t : Int))]) (rest := []) (a := a) (kd_lt (a := a) hk (by decide)) (sh_9 hk _ _) rfl (s_X9_kindOf hk hW1 hwf1 (by omega)) wgv_X1_94 whv_X9_kindOf ⟨(by omega), (by omega)⟩ hl.1 rfl (Nat.le_of_ble_eq_true rfl) ⟨Nat.zero_le _, Nat.zero_le _⟩ wdX1_fuse_29 (fun r Ma6 H locs hp w => ?_)
        rcases hp with ⟨⟨k5, ek5, hk5, rfl⟩ | ⟨nk5, rfl⟩, hMe⟩
        · obtain rfl : t = k5 := by omega
          rw [hMe] at w
          have gk5 := (hKL1 t (by omega)).1
          refine lv_aload_n hx hb wdX1_fuse_32 rfl (lv_at hl 3 rfl) ?_
          refine f_9_4 F w (a := a) hk wtb_26 wdX1_fuse_33 ?_
          refine lv_iload_n hx hb wdX1_fuse_36 rfl (lv_at hl 4 rfl) ?_
          refine lv_iconst (v := zI 1) hx hb wdX1_fuse_37 rfl ?_
          refine z_iadd (z := (((t + 1) : Nat) : Int)) hx hb wdX1_fuse_38 (by omega) ?_
          refine g_iald F w (a := (a + 1)) (kd_w1 hk) (j := (t + 1)) (ix_n (by omega)) (by omega) wdX1_fuse_39 ?_
          have hK6 := (hKL1 (t + 1) (by omega)).1
          refine r_val (v := (zI (((o1.2.1 (t + 1)) : Nat) : Int))) (hW1.2.2.2.2.1 (t + 1) (by omega)) ?_
          refine z_icmp_eq (tgt := 46) hx hb (by omega) (by omega) wdX1_fuse_40 (by decide) (fun c7 => ?_) (fun c7 => ?_)
          · refine lv_aload_n hx hb wdX1_fuse_46 rfl (lv_at hl 3 rfl) ?_
            refine f_9_5 F w (a := a) hk wtb_27 wdX1_fuse_47 ?_
            refine lv_iload_n hx hb wdX1_fuse_50 rfl (lv_at hl 4 rfl) ?_
            refine lv_iconst (v := zI 1) hx hb wdX1_fuse_51 rfl ?_
            refine z_iadd (z := (((t + 1) : Nat) : Int)) hx hb wdX1_fuse_52 (by omega) ?_
            refine g_iald F w (a := (a + 2)) (kd_w2 hk) (j := (t + 1)) (ix_n (by omega)) (by omega) wdX1_fuse_53 ?_
            have hL7 := (hKL1 (t + 1) (by omega)).2
            refine r_val (v := (zI (((o1.2.2 (t + 1)) : Nat) : Int))) (hW1.2.2.2.2.2 (t + 1) (by omega)) ?_
            refine lv_aload_n hx hb wdX1_fuse_54 rfl (lv_at hl 3 rfl) ?_
            refine f_9_5 F w (a := a) hk wtb_27 wdX1_fuse_55 ?_
            refine lv_iload_n hx hb wdX1_fuse_58 rfl (lv_at hl 4 rfl) ?_
            refine g_iald F w (a := (a + 2)) (kd_w2 hk) (j := t) (ix_n (by omega)) (by omega) wdX1_fuse_59 ?_
            have hL7 := (hKL1 t (by omega)).2
            refine r_val (v := (zI (((o1.2.2 t) : Nat) : Int))) (hW1.2.2.2.2.2 t (by omega)) ?_
            refine lv_iconst (v := zI (-1)) hx hb wdX1_fuse_60 rfl ?_
            refine lv_ixor hx hb wdX1_fuse_61 ?_
            refine lv_iand hx hb wdX1_fuse_62 ?_
            refine r_val (v := (zI (((andn (o1.2.2 (t + 1)) (o1.2.2 t)) : Nat) : Int))) (zb_andn _ _) ?_
            have q9 := andn_le (o1.2.2 (t + 1)) (o1.2.2 t)
            refine lv_istore (lv' := [(5, .int (zI (((andn (o1.2.2 (t + 1)) (o1.2.2 t)) : Nat) : Int))), (4, .int (zI (j : Int))), (3, .int (zI (cc : Int))), (0, .ref (B + 23)), (1, .ref (B + a)), (2, .int (zI (t : Int)))]) hx hb wdX1_fuse_63 hl (by decide) rfl (fun ls hl => ?_)
            refine lv_aload_n hx hb wdX1_fuse_65 rfl (lv_at hl 4 rfl) ?_
            refine f_9_5 F w (a := a) hk wtb_27 wdX1_fuse_66 ?_
            refine lv_iload_n hx hb wdX1_fuse_69 rfl (lv_at hl 5 rfl) ?_
            refine lv_dup2_11 hx hb wdX1_fuse_70 rfl rfl ?_
            refine g_iald F w (a := (a + 2)) (kd_w2 hk) (j := t) (ix_n (by omega)) (by omega) wdX1_fuse_71 ?_
            have hL9 := (hKL1 t (by omega)).2
            refine r_val (v := (zI (((o1.2.2 t) : Nat) : Int))) (hW1.2.2.2.2.2 t (by omega)) ?_
            refine lv_iload hx hb wdX1_fuse_72 (lv_at hl 0 rfl) ?_
            refine lv_ior hx hb wdX1_fuse_74 ?_
            refine r_val (v := (zI ((((o1.2.2 t) ||| (andn (o1.2.2 (t + 1)) (o1.2.2 t))) : Nat) : Int))) (zb_or (o1.2.2 t) (andn (o1.2.2 (t + 1)) (o1.2.2 t))) ?_
            have q10 := or_lt12 (a := (o1.2.2 t)) (b := (andn (o1.2.2 (t + 1)) (o1.2.2 t))) (by omega) (by omega)
            refine g_iast F w (a := (a + 2)) (kd_w2 hk) (j := t) (ix_n (by omega)) (by omega) wdX1_fuse_75 (fun H locs w => ?_)
            refine lv_aload_n hx hb wdX1_fuse_76 rfl (lv_at hl 4 rfl) ?_
            refine lv_iload_n hx hb wdX1_fuse_77 rfl (lv_at hl 5 rfl) ?_
            refine lv_iconst (v := zI 1) hx hb wdX1_fuse_78 rfl ?_
            refine z_iadd (z := (((t + 1) : Nat) : Int)) hx hb wdX1_fuse_79 (by omega) ?_
            refine k_Vv F w (As := [.int (zI (((t + 1) : Nat) : Int))]) (rest := []) (a := a) (kd_lt (a := a) hk (by decide)) (sh_9 hk _ _) rfl (s_X9_removeTone hk (wlineW hW1) (wf_upd hwf1 (by omega)) (t := t + 1) (by omega)) wgv_X1_136 whv_X9_removeTone ⟨(by omega), (by omega)⟩ hl.1 rfl (Nat.le_of_ble_eq_true rfl) ⟨Nat.zero_le _, Nat.zero_le _⟩ wdX1_fuse_80 (fun Ma11 H locs hp w => ?_)
            rcases hp with ⟨hW2, hF2⟩
            refine lv_iload_n hx hb wdX1_fuse_83 rfl (lv_at hl 2 rfl) ?_
            refine lv_iload hx hb wdX1_fuse_84 (lv_at hl 0 rfl) ?_
            refine x_Si F w (As := [.int (zI (((andn (o1.2.2 (t + 1)) (o1.2.2 t)) : Nat) : Int))]) (rest := [.int (zI (cc : Int))]) (s_bitCountN (m := (andn (o1.2.2 (t + 1)) (o1.2.2 t))) (by omega)) wgs_X1_67 whs_J6_bitCount_0f7a4 ⟨(by omega), (by omega)⟩ hl.1 rfl (Nat.le_of_ble_eq_true rfl) ⟨Nat.zero_le _, Nat.zero_le _⟩ wdX1_fuse_86 (fun H locs w => ?_)
            have hp11 := (pop_le (andn (o1.2.2 (t + 1)) (o1.2.2 t)) (by omega)).1
            refine lv_iconst (v := zI 1) hx hb wdX1_fuse_89 rfl ?_
            refine z_iadd (z := ((((pop (andn (o1.2.2 (t + 1)) (o1.2.2 t))) + 1) : Nat) : Int)) hx hb wdX1_fuse_90 (by omega) ?_
            refine z_iadd (z := (((cc + ((pop (andn (o1.2.2 (t + 1)) (o1.2.2 t))) + 1)) : Nat) : Int)) hx hb wdX1_fuse_91 (by omega) ?_
            refine lv_istore_n (lv' := [(3, .int (zI (((cc + ((pop (andn (o1.2.2 (t + 1)) (o1.2.2 t))) + 1)) : Nat) : Int))), (5, .int (zI (((andn (o1.2.2 (t + 1)) (o1.2.2 t)) : Nat) : Int))), (4, .int (zI (j : Int))), (0, .ref (B + 23)), (1, .ref (B + a)), (2, .int (zI (t : Int)))]) hx hb wdX1_fuse_92 rfl hl (by decide) rfl (fun ls hl => ?_)
            refine z_iinc (v := ((j : Int) - 1)) (lv' := [(4, .int (zI ((j : Int) - 1))), (3, .int (zI (((cc + ((pop (andn (o1.2.2 (t + 1)) (o1.2.2 t))) + 1)) : Nat) : Int))), (5, .int (zI (((andn (o1.2.2 (t + 1)) (o1.2.2 t)) : Nat) : Int))), (0, .ref (B + 23)), (1, .ref (B + a)), (2, .int (zI (t : Int)))]) hx hb wdX1_fuse_93 hl (k := 2) rfl (by omega) (by decide) rfl (fun ls hl => ?_)
            refine lv_goto (tgt := 12) hx hb wdX1_fuse_96 (by decide) ?_
            obtain ⟨j, rfl⟩ : ∃ j9, j = j9 + 1 := ⟨j - 1, by omega⟩
            rw [show (((j + 1 : Nat) : Int) - 1) = (j : Int) by omega] at hl
            exact ih j (cc + (pop (andn (o1.2.2 (t + 1)) (o1.2.2 t)) + 1)) Ma11 (fuO t o1) (by show j + t + 1 = o1.1 - 1; omega) ⟨hW2, okW_fu i1.2.1 (by omega), i1.2.2⟩ (fuI_s i2 (by omega) (by omega)) (by omega) (Fr3.tr (wlineF i4) hF2) (by omega) _ _ ls w (lv_sub hl [0, 1, 3, 4, 5] rfl)
          · refine lv_goto (tgt := 99) hx hb wdX1_fuse_43 (by decide) ?_
            exact kk j cc Nm o1 _ _ ls i1 (fuI_e i2 (by omega)) i4 (by omega) w (lv_sub hl [1] rfl)
        · exact False.elim (by omega)
      · exact False.elim (by omega)
theorem wdX1_fuse_0 : decode cX1_fuse 0 = .ok (.iconst 0, 1) := dq0 kk_3 (by decide +kernel)
theorem wdX1_fuse_1 : decode cX1_fuse 1 = .ok (.istore_n 3, 1) := dq0 kk_62 (by decide +kernel)
theorem wdX1_fuse_2 : decode cX1_fuse 2 = .ok (.aload_n 1, 1) := dq0 kk_43 (by decide +kernel)
theorem wdX1_fuse_3 : decode cX1_fuse 3 = .ok (.getfield 53, 3) := dqV kk_180 (by decide +kernel)
theorem wtb_32 : Cond.fieldLink "ToneLines$Doer" 53 "ToneLines$Word" "tones" "I" ∈ TB := tb_62
theorem wdX1_fuse_6 : decode cX1_fuse 6 = .ok (.iconst 1, 1) := dq0 kk_4 (by decide +kernel)
theorem wdX1_fuse_7 : decode cX1_fuse 7 = .ok (.isub, 1) := dq0 kk_100 (by decide +kernel)
theorem wdX1_fuse_8 : decode cX1_fuse 8 = .ok (.iload_n 2, 1) := dq0 kk_28 (by decide +kernel)
theorem wdX1_fuse_9 : decode cX1_fuse 9 = .ok (.isub, 1) := dq0 kk_100 (by decide +kernel)
theorem wdX1_fuse_10 : decode cX1_fuse 10 = .ok (.istore 4, 2) := dqU kk_54 (by decide +kernel)
theorem wdX1_fuse_99 : decode cX1_fuse 99 = .ok (.iload_n 3, 1) := dq0 kk_29 (by decide +kernel)
theorem wdX1_fuse_100 : decode cX1_fuse 100 = .ok (.ireturn, 1) := dq0 kk_172 (by decide +kernel)
set_option maxRecDepth 4000 in
theorem s_X1_fuse {l : Launch} {D : va_G} {B : Nat} {cy : Nat → ClassId} {M : Mem} {a q hv ed : Nat} {o : Wo} (hk : kd a = (9, 0, 0)) (hC : CW M a q hv ed o) {t : Nat} (ht : t < o.1) : Ci l D B cy yX1_fuse cX1_fuse 6 (some .int) 2 43 [.ref (B + 23), .ref (B + a), .int (zI (t : Int))] M (fun r M1 => ∃ o1 cc, fuF (o.1 - 1 - t) t o = (o1, cc) ∧ r = zI ((cc : Nat) : Int) ∧ CW M1 a q hv ed o1 ∧ Fr3 M1 M a ∧ cc ≤ 156) := by
  refine s_any (by decide) (Nat.le_of_ble_eq_true rfl) ?_
  intro p e s m below meth c ls F hr hlocks w hl
  have F : CallFix p m c cX1_fuse 6 s _ TB RX1 := F
  have hx := F.1
  have hb := F.2.1
  have hl : lv_has ls 6 [(0, .ref (B + 23)), (1, .ref (B + a)), (2, .int (zI (t : Int)))] := hl
  have hW := hC.1
  have hwf := hC.wf
  have hKL := hwf.2.2.2.2
  have hn12 := hwf.1
  have hq12 := hwf.2.1
  refine lv_iconst (v := zI 0) hx hb wdX1_fuse_0 rfl ?_
  refine lv_istore_n (lv' := [(3, .int (zI 0)), (0, .ref (B + 23)), (1, .ref (B + a)), (2, .int (zI (t : Int)))]) hx hb wdX1_fuse_1 rfl hl (by decide) rfl (fun ls hl => ?_)
  refine lv_aload_n hx hb wdX1_fuse_2 rfl (lv_at hl 2 rfl) ?_
  refine f_9_0 F w (a := a) hk wtb_32 wdX1_fuse_3 ?_
  refine r_val (v := (zI ((o.1 : Nat) : Int))) (hW.1) ?_
  refine lv_iconst (v := zI 1) hx hb wdX1_fuse_6 rfl ?_
  refine z_isub (z := (((o.1 : Nat) : Int) - 1)) hx hb wdX1_fuse_7 (by omega) ?_
  refine lv_iload_n hx hb wdX1_fuse_8 rfl (lv_at hl 3 rfl) ?_
  refine z_isub (z := ((((o.1 : Nat) : Int) - 1) - (t : Int))) hx hb wdX1_fuse_9 (by omega) ?_
  refine r_val (v := zI ((o.1 - 1 - t : Nat) : Int)) (congrArg zI (by omega)) ?_
  refine lv_istore (lv' := [(4, .int (zI (((o.1 - 1 - t) : Nat) : Int))), (3, .int (zI 0)), (0, .ref (B + 23)), (1, .ref (B + a)), (2, .int (zI (t : Int)))]) hx hb wdX1_fuse_10 hl (by decide) rfl (fun ls hl => ?_)
  refine lp_X1_fuse  F (Nat.le_of_ble_eq_true rfl) (Nat.le_of_ble_eq_true rfl) hk (fun j cc Nm o1 H locs ls x0 x1 x2 x3 w hl => ?_) (o.1 - 1 - t) (o.1 - 1 - t) 0 M o (by omega) hC fuI_0 (by omega) Fr3.rf (by omega) _ _ ls w (lv_sub hl [0, 1, 2, 3, 4] rfl)
  refine lv_iload_n hx hb wdX1_fuse_99 rfl (lv_at hl 0 rfl) ?_
  exact e_i F w hr hlocks ⟨o1, cc, x1, rfl, x0, x2, x3⟩ wdX1_fuse_100
