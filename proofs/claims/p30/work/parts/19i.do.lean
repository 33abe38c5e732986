theorem spr_nz {n q ed t x : Nat} : ∀ (T : Nat) (L : Nat → Nat), L t ≠ 0 → (spr n q ed t x T L).1 t ≠ 0
  | 0, L, h => h
  | T + 1, L, h => by
    rw [spr]
    by_cases h1 : pb (stpP n q ed L t x (nj L t x)) = true
    · rw [if_pos h1]
      exact spr_nz T _ (by rw [updF_t]; exact or_nz h)
    · rw [if_neg h1]; exact h
theorem spF_nz {q ed t x n9 : Nat} {o o1 : Wo} {cc : Nat} (h : spF q ed t x n9 o = (o1, cc)) (hc : 0 < cc) : o1.2.2 t ≠ 0 := by
  unfold spF at h
  by_cases h0 : o.2.2 t = 0
  · rw [if_pos h0] at h
    have := congrArg Prod.snd h
    have : 0 = cc := this
    omega
  · rw [if_neg h0] at h
    have e : o1 = (o.1, o.2.1, (spr o.1 q ed t x n9 o.2.2).1) := (congrArg Prod.fst h).symm
    rw [e]
    exact spr_nz n9 o.2.2 h0
theorem spF_n {q ed t x n9 : Nat} {o o1 : Wo} {cc : Nat} (h : spF q ed t x n9 o = (o1, cc)) : o1.1 = o.1 := by
  unfold spF at h
  by_cases h0 : o.2.2 t = 0
  · rw [if_pos h0] at h; exact (congrArg (fun z : Wo × Nat => z.1.1) h).symm
  · rw [if_neg h0] at h; exact (congrArg (fun z : Wo × Nat => z.1.1) h).symm
theorem shF_0 {q ed t x : Nat} {o o1 : Wo} (h : spF q ed t x 1 o = (o1, 0)) : shF q ed t x o = (o1, 0) := by unfold shF; rw [h, if_pos rfl]
theorem shF_z {q ed t x dd : Nat} {o o1 : Wo} (h : spF q ed t x 1 o = (o1, dd)) (hd : dd = 0) : shF q ed t x o = (o1, dd) := by rw [hd] at h ⊢; exact shF_0 h
theorem shF_1 {q ed t x cc dd : Nat} {o o1 o2 : Wo} (h : spF q ed t x 1 o = (o1, cc)) (hc : 0 < cc) (h1 : lvF t x o1 = (o2, dd)) : shF q ed t x o = (o2, cc + dd) := by
  unfold shF
  rw [h, if_neg (by show ¬ cc = 0; omega), h1]
theorem trV_1 {x y n9 q ed t : Nat} {o : Wo} : trV 1 x y n9 q ed t o = spF q ed t x n9 o := rfl
theorem trV_2 {x y n9 q ed t : Nat} {o : Wo} : trV 2 x y n9 q ed t o = shF q ed t x o := rfl
theorem trV_3 {x y n9 q ed t : Nat} {o : Wo} : trV 3 x y n9 q ed t o = ctF t y o := rfl
theorem trV_4 {x y n9 q ed t : Nat} {o : Wo} : trV 4 x y n9 q ed t o = dkG q t x o := rfl
theorem trV_5 {x y n9 q ed t : Nat} {o : Wo} : trV 5 x y n9 q ed t o = drF t o := rfl
theorem trV_6 {x y n9 q ed t : Nat} {o : Wo} : trV 6 x y n9 q ed t o = fuF (o.1 - 1 - t) t o := rfl
theorem trV_7 {x y n9 q ed t : Nat} {o : Wo} : trV 7 x y n9 q ed t o = tuF t n9 o := rfl
theorem nx_l {v x cc : Nat} {t : Int} (h : x = 1) : t - 1 = nxT v x cc t := by unfold nxT; rw [if_pos h]
theorem nx_0 {v x cc : Nat} {t : Int} (h : x ≠ 1) (h1 : v = 5) (h2 : 0 < cc) : t = nxT v x cc t := by unfold nxT; rw [if_neg h, if_pos ⟨h1, h2⟩]
theorem nx_r {v x cc : Nat} {t : Int} (h : x ≠ 1) (h1 : ¬ (v = 5 ∧ 0 < cc)) : t + 1 = nxT v x cc t := by unfold nxT; rw [if_neg h, if_neg h1]
theorem nx_b (v x cc : Nat) (t : Int) : t - 1 ≤ nxT v x cc t ∧ nxT v x cc t ≤ t + 1 := by
  unfold nxT
  by_cases h : x = 1
  · rw [if_pos h]; omega
  · rw [if_neg h]
    by_cases h1 : v = 5 ∧ 0 < cc
    · rw [if_pos h1]; omega
    · rw [if_neg h1]; omega
theorem wdX1_passOverTones_65 : decode cX1_passOverTones 65 = .ok (.iload 10, 2) := dqU kk_21 (by decide +kernel)
theorem wdX1_passOverTones_67 : decode cX1_passOverTones 67 = .ok (.iload 7, 2) := dqU kk_21 (by decide +kernel)
theorem wdX1_passOverTones_69 : decode cX1_passOverTones 69 = .ok (.if_icmp .ge 246, 3) := dqT kk_162 (by decide +kernel)
theorem wdX1_passOverTones_72 : decode cX1_passOverTones 72 = .ok (.aload_n 2, 1) := dq0 kk_44 (by decide +kernel)
theorem wdX1_passOverTones_73 : decode cX1_passOverTones 73 = .ok (.iload 8, 2) := dqU kk_21 (by decide +kernel)
theorem wdX1_passOverTones_75 : decode cX1_passOverTones 75 = .ok (.invokevirtual 47, 3) := dqV kk_182 (by decide +kernel)
theorem wdX1_passOverTones_78 : decode cX1_passOverTones 78 = .ok (.ifCond .eq 237, 3) := dqT kk_153 (by decide +kernel)
theorem wdX1_passOverTones_81 : decode cX1_passOverTones 81 = .ok (.iconst 0, 1) := dq0 kk_3 (by decide +kernel)
theorem wdX1_passOverTones_82 : decode cX1_passOverTones 82 = .ok (.istore 11, 2) := dqU kk_54 (by decide +kernel)
theorem wdX1_passOverTones_84 : decode cX1_passOverTones 84 = .ok (.aload_n 1, 1) := dq0 kk_43 (by decide +kernel)
theorem wdX1_passOverTones_85 : decode cX1_passOverTones 85 = .ok (.aload_n 2, 1) := dq0 kk_44 (by decide +kernel)
theorem wdX1_passOverTones_86 : decode cX1_passOverTones 86 = .ok (.iload 8, 2) := dqU kk_21 (by decide +kernel)
theorem wdX1_passOverTones_88 : decode cX1_passOverTones 88 = .ok (.invokevirtual 94, 3) := dqV kk_182 (by decide +kernel)
theorem wdX1_passOverTones_91 : decode cX1_passOverTones 91 = .ok (.invokevirtual 97, 3) := dqV kk_182 (by decide +kernel)
theorem wtk_X4_isOf : Cond.code yX4_isOf cX4_isOf 2 (some .boolean) ∈ TB := tbm (tc4 (List.mem_of_getElem? (i := 44) rfl)) rfl
theorem wgc_X4_isOf : GoodIn TB (cw yX4_isOf cX4_isOf 2 (some .boolean)) := goodIn_c2 wtk_X4_isOf
theorem wtb_59 : Cond.methodLink "ToneLines$Doer" 97 yX4_isOf ∈ TB := tbm (tc4 (List.mem_of_getElem? (i := 41) rfl)) rfl
theorem wtb_60 : Cond.instanceMethod yX4_isOf ∈ TB := tbm (tc4 (List.mem_of_getElem? (i := 42) rfl)) rfl
theorem wtb_61 : Cond.selects "ToneLines$Rule" yX4_isOf yX4_isOf ∈ TB := tbm (tc4 (List.mem_of_getElem? (i := 43) rfl)) rfl
theorem wgv_X1_97 : GoodIn TB (wsV RX1 97 RX4 yX4_isOf (cw yX4_isOf cX4_isOf 2 (some .boolean))) := goodIn_4 wtb_59 wtb_60 wtb_61 wtb_21 wgc_X4_isOf
theorem whv_X4_isOf : yX4_isOf.cls = RX4 ∧ yX4_isOf.cls ≠ "java/lang/invoke/MethodHandle" ∧ yX4_isOf.cls ≠ "java/lang/invoke/VarHandle" ∧ (parseMethodDescriptor yX4_isOf.desc).map (fun d => d.parameters.length) = some 1 := by decide +kernel
theorem wdX1_passOverTones_94 : decode cX1_passOverTones 94 = .ok (.ifCond .eq 155, 3) := dqT kk_153 (by decide +kernel)
theorem wdX1_passOverTones_97 : decode cX1_passOverTones 97 = .ok (.aload_n 1, 1) := dq0 kk_43 (by decide +kernel)
theorem wdX1_passOverTones_98 : decode cX1_passOverTones 98 = .ok (.aload_n 2, 1) := dq0 kk_44 (by decide +kernel)
theorem wdX1_passOverTones_99 : decode cX1_passOverTones 99 = .ok (.iload 8, 2) := dqU kk_21 (by decide +kernel)
theorem wdX1_passOverTones_101 : decode cX1_passOverTones 101 = .ok (.invokevirtual 100, 3) := dqV kk_182 (by decide +kernel)
theorem wtk_X4_admits : Cond.code yX4_admits cX4_admits 5 (some .boolean) ∈ TB := tbm (tc4 (List.mem_of_getElem? (i := 48) rfl)) rfl
theorem wgc_X4_admits : GoodIn TB (cw yX4_admits cX4_admits 5 (some .boolean)) := goodIn_c2 wtk_X4_admits
theorem wtb_62 : Cond.methodLink "ToneLines$Doer" 100 yX4_admits ∈ TB := tbm (tc4 (List.mem_of_getElem? (i := 45) rfl)) rfl
theorem wtb_63 : Cond.instanceMethod yX4_admits ∈ TB := tbm (tc4 (List.mem_of_getElem? (i := 46) rfl)) rfl
theorem wtb_64 : Cond.selects "ToneLines$Rule" yX4_admits yX4_admits ∈ TB := tbm (tc4 (List.mem_of_getElem? (i := 47) rfl)) rfl
theorem wgv_X1_100 : GoodIn TB (wsV RX1 100 RX4 yX4_admits (cw yX4_admits cX4_admits 5 (some .boolean))) := goodIn_4 wtb_62 wtb_63 wtb_64 wtb_21 wgc_X4_admits
theorem whv_X4_admits : yX4_admits.cls = RX4 ∧ yX4_admits.cls ≠ "java/lang/invoke/MethodHandle" ∧ yX4_admits.cls ≠ "java/lang/invoke/VarHandle" ∧ (parseMethodDescriptor yX4_admits.desc).map (fun d => d.parameters.length) = some 2 := by decide +kernel
theorem wdX1_passOverTones_104 : decode cX1_passOverTones 104 = .ok (.ifCond .eq 145, 3) := dqT kk_153 (by decide +kernel)
theorem wdX1_passOverTones_107 : decode cX1_passOverTones 107 = .ok (.iload_n 3, 1) := dq0 kk_29 (by decide +kernel)
theorem wdX1_passOverTones_108 : decode cX1_passOverTones 108 = .ok (.tableswitch 141 1 7 #[44, 60, 75, 89, 103, 115, 127], 44) := by decide +kernel
theorem wdX1_passOverTones_152 : decode cX1_passOverTones 152 = .ok (.aload_n 0, 1) := dq0 kk_42 (by decide +kernel)
theorem wdX1_passOverTones_153 : decode cX1_passOverTones 153 = .ok (.aload_n 2, 1) := dq0 kk_44 (by decide +kernel)
theorem wdX1_passOverTones_154 : decode cX1_passOverTones 154 = .ok (.iload 8, 2) := dqU kk_21 (by decide +kernel)
theorem wdX1_passOverTones_156 : decode cX1_passOverTones 156 = .ok (.iload 6, 2) := dqU kk_21 (by decide +kernel)
theorem wdX1_passOverTones_158 : decode cX1_passOverTones 158 = .ok (.iload 4, 2) := dqU kk_21 (by decide +kernel)
theorem wdX1_passOverTones_160 : decode cX1_passOverTones 160 = .ok (.invokevirtual 104, 3) := dqV kk_182 (by decide +kernel)
theorem wtk_X1_spread : Cond.code yX1_spread cX1_spread 10 (some .int) ∈ TB := tbm (tc4 (List.mem_of_getElem? (i := 62) rfl)) rfl
theorem wgc_X1_spread : GoodIn TB (cw yX1_spread cX1_spread 10 (some .int)) := goodIn_c2 wtk_X1_spread
theorem wtb_65 : Cond.methodLink "ToneLines$Doer" 104 yX1_spread ∈ TB := tbm (tc4 (List.mem_of_getElem? (i := 59) rfl)) rfl
theorem wtb_66 : Cond.instanceMethod yX1_spread ∈ TB := tbm (tc4 (List.mem_of_getElem? (i := 61) rfl)) rfl
theorem wtb_67 : Cond.selects "ToneLines$Doer" yX1_spread yX1_spread ∈ TB := tbp (List.mem_of_getElem? (i := 22) rfl) rfl
theorem wgv_X1_104 : GoodIn TB (wsV RX1 104 RX1 yX1_spread (cw yX1_spread cX1_spread 10 (some .int))) := goodIn_4 wtb_65 wtb_66 wtb_67 wtb_52 wgc_X1_spread
theorem whv_X1_spread : yX1_spread.cls = RX1 ∧ yX1_spread.cls ≠ "java/lang/invoke/MethodHandle" ∧ yX1_spread.cls ≠ "java/lang/invoke/VarHandle" ∧ (parseMethodDescriptor yX1_spread.desc).map (fun d => d.parameters.length) = some 4 := by decide +kernel
theorem wdX1_passOverTones_163 : decode cX1_passOverTones 163 = .ok (.istore 11, 2) := dqU kk_54 (by decide +kernel)
theorem wdX1_passOverTones_165 : decode cX1_passOverTones 165 = .ok (.goto 84, 3) := dqT kk_167 (by decide +kernel)
theorem wdX1_passOverTones_249 : decode cX1_passOverTones 249 = .ok (.iload_n 3, 1) := dq0 kk_29 (by decide +kernel)
theorem wdX1_passOverTones_250 : decode cX1_passOverTones 250 = .ok (.iconst 2, 1) := dq0 kk_5 (by decide +kernel)
theorem wdX1_passOverTones_251 : decode cX1_passOverTones 251 = .ok (.if_icmp .ne 22, 3) := dqT kk_160 (by decide +kernel)
theorem wdX1_passOverTones_273 : decode cX1_passOverTones 273 = .ok (.iload 9, 2) := dqU kk_21 (by decide +kernel)
theorem wdX1_passOverTones_275 : decode cX1_passOverTones 275 = .ok (.iload 11, 2) := dqU kk_21 (by decide +kernel)
theorem wdX1_passOverTones_277 : decode cX1_passOverTones 277 = .ok (.iadd, 1) := dq0 kk_96 (by decide +kernel)
theorem wdX1_passOverTones_278 : decode cX1_passOverTones 278 = .ok (.istore 9, 2) := dqU kk_54 (by decide +kernel)
theorem wdX1_passOverTones_280 : decode cX1_passOverTones 280 = .ok (.iload 8, 2) := dqU kk_21 (by decide +kernel)
theorem wdX1_passOverTones_282 : decode cX1_passOverTones 282 = .ok (.iload 6, 2) := dqU kk_21 (by decide +kernel)
theorem wdX1_passOverTones_284 : decode cX1_passOverTones 284 = .ok (.ifCond .eq 7, 3) := dqT kk_153 (by decide +kernel)
theorem wdX1_passOverTones_291 : decode cX1_passOverTones 291 = .ok (.iload_n 3, 1) := dq0 kk_29 (by decide +kernel)
theorem wdX1_passOverTones_292 : decode cX1_passOverTones 292 = .ok (.iconst 5, 1) := dq0 kk_8 (by decide +kernel)
theorem wdX1_passOverTones_293 : decode cX1_passOverTones 293 = .ok (.if_icmp .ne 12, 3) := dqT kk_160 (by decide +kernel)
theorem wdX1_passOverTones_305 : decode cX1_passOverTones 305 = .ok (.iconst 1, 1) := dq0 kk_4 (by decide +kernel)
theorem wdX1_passOverTones_306 : decode cX1_passOverTones 306 = .ok (.iadd, 1) := dq0 kk_96 (by decide +kernel)
theorem wdX1_passOverTones_307 : decode cX1_passOverTones 307 = .ok (.istore 8, 2) := dqU kk_54 (by decide +kernel)
theorem wdX1_passOverTones_309 : decode cX1_passOverTones 309 = .ok (.iinc 10 1, 3) := dqI kk_132 (by decide +kernel)
theorem wdX1_passOverTones_312 : decode cX1_passOverTones 312 = .ok (.goto (-247), 3) := dqT kk_167 (by decide +kernel)
theorem wdX1_passOverTones_287 : decode cX1_passOverTones 287 = .ok (.iconst (-1), 1) := dq0 kk_2 (by decide +kernel)
theorem wdX1_passOverTones_288 : decode cX1_passOverTones 288 = .ok (.goto 18, 3) := dqT kk_167 (by decide +kernel)
set_option maxRecDepth 4000 in
theorem lp_X1_over_1 {p : Program} {l : Launch} {e : Env} {s : State} {m : MethodId} {args : Array Value} {below : List Frame} {meth : Method} {c : Code} {D : va_G} {B : Nat} {cy : Nat → ClassId} {H0 : Heap} {Q : State → Prop} {M : Mem} {R : Room} {a ru q hv ed x y n9 : Nat} {o : Wo} {P : Nat → Int} {t0 : Int} (F : CallFix p m c cX1_passOverTones 12 s args TB RX1) (hR1 : 3 ≤ R.frames) (hR2 : 77 ≤ R.locals) (hk : kd a = (9, 0, 0)) (hku : kd ru = (4, 0, 0)) (hP : okP P) (hn12 : o.1 ≤ 12) (hx01 : x = 0 ∨ x = 1) (hy01 : y = 0 ∨ y = 1) (hz5 : P 5 = -2 ∨ (0 ≤ P 5 ∧ P 5 ≤ 6)) (hap : ru + 1 < a ∨ a + 2 < ru) (hq3 : P 3 = (n9 : Int)) (hn9 : n9 ≤ 9) (kk : ∀ (j : Nat) (tz : Int) (cc : Nat) (Nm : Mem) (o1 : Wo) (H : Heap) (locs : List Loc) (ls : Array Slot), (CW Nm a q hv ed o1) → (tpF P 1 x y n9 q hv ed o.1 t0 o = (o1, cc)) → (Fr3 Nm M a) → (cc ≤ 1884) → Wd D B cy s H0 Nm H locs → lv_has ls 12 [(9, .int (zI (cc : Int)))] → W p l e R s m args below meth c H locs 0 0 Q (F0 m 315 ls [])) : ∀ (f : Nat) (j : Nat) (tz : Int) (cc : Nat) (Nm : Mem) (o1 : Wo), (j ≤ o.1) → (CW Nm a q hv ed o1) → (tpI P 1 x y n9 q hv ed o.1 t0 o (o.1 - j) tz o1 cc) → (cc ≤ 157 * j) → (Fr3 Nm M a) → (isU Nm ru P) → (-2 - (j : Int) ≤ tz ∧ tz ≤ 12 + (j : Int)) → (o.1 ≤ j + f) → ∀ (H : Heap) (locs : List Loc) (ls : Array Slot), Wd D B cy s H0 Nm H locs → lv_has ls 12 [(10, .int (zI (j : Int))), (9, .int (zI (cc : Int))), (8, .int (zI tz)), (7, .int (zI ((o.1 : Nat) : Int))), (6, .int (zI (x : Int))), (5, .int (zI (y : Int))), (4, .int (zI (n9 : Int))), (3, .int (zI 1)), (0, .ref (B + 23)), (1, .ref (B + ru)), (2, .ref (B + a))] → W p l e R s m args below meth c H locs 0 0 Q (F0 m 65 ls []) := by
  have hx := F.1
  have hb := F.2.1
  have hP0 := hP 0 (by decide)
  have hP1 := hP 1 (by decide)
  have hP2 := hP 2 (by decide)
  have hP3 := hP 3 (by decide)
  have hP4 := hP 4 (by decide)
  have hP5 := hP 5 (by decide)
  have hP6 := hP 6 (by decide)
  have hP7 := hP 7 (by decide)
  intro f
  induction f with
  | zero =>
    intro j tz cc Nm o1 i0 i1 i2 i3 i4 i5 i6 hf H locs ls w hl
    have hW1 := i1.1
    have hwf1 := i1.wf
    have hKL1 := hwf1.2.2.2.2
    have hn1 := hwf1.1
    refine lv_iload hx hb wdX1_passOverTones_65 (lv_at hl 0 rfl) ?_
    refine lv_iload hx hb wdX1_passOverTones_67 (lv_at hl 3 rfl) ?_
    refine z_icmp_ge (tgt := 315) hx hb (by omega) (by omega) wdX1_passOverTones_69 (by decide) (fun c1 => ?_) (fun c1 => False.elim (by omega))
    exact kk j tz cc Nm o1 _ _ ls i1 (tpI_e i2 (by omega)) i4 (by omega) w (lv_sub hl [1] rfl)
  | succ f ih =>
    intro j tz cc Nm o1 i0 i1 i2 i3 i4 i5 i6 hf H locs ls w hl
    have hW1 := i1.1
    have hwf1 := i1.wf
    have hKL1 := hwf1.2.2.2.2
    have hn1 := hwf1.1
    refine lv_iload hx hb wdX1_passOverTones_65 (lv_at hl 0 rfl) ?_
    refine lv_iload hx hb wdX1_passOverTones_67 (lv_at hl 3 rfl) ?_
    refine z_icmp_ge (tgt := 315) hx hb (by omega) (by omega) wdX1_passOverTones_69 (by decide) (fun c1 => ?_) (fun c1 => ?_)
    · exact kk j tz cc Nm o1 _ _ ls i1 (tpI_e i2 (by omega)) i4 (by omega) w (lv_sub hl [1] rfl)
    · refine lv_aload_n hx hb wdX1_passOverTones_72 rfl (lv_at hl 10 rfl) ?_
      refine lv_iload hx hb wdX1_passOverTones_73 (lv_at hl 2 rfl) ?_
      refine k_Vi F w (As := [.int (zI tz)]) (rest := []) (a := a) (kd_lt (a := a) hk (by decide)) (sh_9 hk _ _) rfl (s_X9_hasTone hk hW1 hwf1 (by omega)) wgv_X1_47 whv_X9_hasTone ⟨(by omega), (by omega)⟩ hl.1 rfl (Nat.le_of_ble_eq_true rfl) ⟨Nat.zero_le _, Nat.zero_le _⟩ wdX1_passOverTones_75 (fun r Ma3 H locs hp w => ?_)
      rcases hp with ⟨⟨k2, rfl, hk2, rfl⟩ | ⟨nk2, rfl⟩, hMe⟩
      · rw [hMe] at w
        refine z_if_eq (tgt := 315) hx hb (by omega) wdX1_passOverTones_78 (by decide) (fun c4 => False.elim (by omega)) (fun c4 => ?_)
        refine lv_iconst (v := zI 0) hx hb wdX1_passOverTones_81 rfl ?_
        refine lv_istore (lv' := [(11, .int (zI 0)), (10, .int (zI (j : Int))), (9, .int (zI (cc : Int))), (8, .int (zI (k2 : Int))), (7, .int (zI ((o.1 : Nat) : Int))), (6, .int (zI (x : Int))), (5, .int (zI (y : Int))), (4, .int (zI (n9 : Int))), (3, .int (zI 1)), (0, .ref (B + 23)), (1, .ref (B + ru)), (2, .ref (B + a))]) hx hb wdX1_passOverTones_82 hl (by decide) rfl (fun ls hl => ?_)
        refine lv_aload_n hx hb wdX1_passOverTones_84 rfl (lv_at hl 10 rfl) ?_
        refine lv_aload_n hx hb wdX1_passOverTones_85 rfl (lv_at hl 11 rfl) ?_
        refine lv_iload hx hb wdX1_passOverTones_86 (lv_at hl 3 rfl) ?_
        refine k_Vi F w (As := [.int (zI (k2 : Int))]) (rest := [.ref (B + ru)]) (a := a) (kd_lt (a := a) hk (by decide)) (sh_9 hk _ _) rfl (s_X9_kindOf hk hW1 hwf1 (by omega)) wgv_X1_94 whv_X9_kindOf ⟨(by omega), (by omega)⟩ hl.1 rfl (Nat.le_of_ble_eq_true rfl) ⟨Nat.zero_le _, Nat.zero_le _⟩ wdX1_passOverTones_88 (fun r Ma6 H locs hp w => ?_)
        rcases hp with ⟨⟨k5, ek5, hk5, rfl⟩ | ⟨nk5, rfl⟩, hMe⟩
        · obtain rfl : k2 = k5 := by omega
          rw [hMe] at w
          have gk5 := (hKL1 k2 (by omega)).1
          refine k_Vi F w (As := [.int (zI (((o1.2.1 k2) : Nat) : Int))]) (rest := []) (a := ru) (kd_lt (a := ru) hku (by decide)) (sh_4 hku _ _) rfl (s_X4_isOf hku i5 hP (z := (((o1.2.1 k2) : Nat) : Int)) (by omega)) wgv_X1_97 whv_X4_isOf ⟨(by omega), (by omega)⟩ hl.1 rfl (Nat.le_of_ble_eq_true rfl) ⟨Nat.zero_le _, Nat.zero_le _⟩ wdX1_passOverTones_91 (fun r Ma8 H locs hp w => ?_)
          rcases hp with ⟨⟨hof7, rfl⟩ | ⟨hof7, rfl⟩, hMe⟩
          · rw [hMe] at w
            refine z_if_eq (tgt := 249) hx hb (by omega) wdX1_passOverTones_94 (by decide) (fun c9 => False.elim (by omega)) (fun c9 => ?_)
            refine lv_aload_n hx hb wdX1_passOverTones_97 rfl (lv_at hl 10 rfl) ?_
            refine lv_aload_n hx hb wdX1_passOverTones_98 rfl (lv_at hl 11 rfl) ?_
            refine lv_iload hx hb wdX1_passOverTones_99 (lv_at hl 3 rfl) ?_
            refine k_Vi F w (As := [.ref (B + a), .int (zI (k2 : Int))]) (rest := []) (a := ru) (kd_lt (a := ru) hku (by decide)) (sh_4 hku _ _) rfl (s_X4_admits hk i1 hku i5 hP (t := k2) hk2 hz5) wgv_X1_100 whv_X4_admits ⟨(by omega), (by omega)⟩ hl.1 rfl (Nat.le_of_ble_eq_true rfl) ⟨Nat.zero_le _, Nat.zero_le _⟩ wdX1_passOverTones_101 (fun r Ma11 H locs hp w => ?_)
            rcases hp with ⟨⟨had10, rfl⟩ | ⟨had10, rfl⟩, hMe⟩
            · rw [hMe] at w
              refine z_if_eq (tgt := 249) hx hb (by omega) wdX1_passOverTones_104 (by decide) (fun c12 => False.elim (by omega)) (fun c12 => ?_)
              refine lv_iload_n hx hb wdX1_passOverTones_107 rfl (lv_at hl 8 rfl) ?_
              rcases (show (1 : Int) = 1 by omega) with c13
              refine r_val (v := zI 1) (congrArg zI c13) ?_
              refine lv_tableIn (tgt := 152) hx hb wdX1_passOverTones_108 (by decide) (by decide) (off := 44) rfl (by decide) ?_
              refine lv_aload_n hx hb wdX1_passOverTones_152 rfl (lv_at hl 9 rfl) ?_
              refine lv_aload_n hx hb wdX1_passOverTones_153 rfl (lv_at hl 11 rfl) ?_
              refine lv_iload hx hb wdX1_passOverTones_154 (lv_at hl 3 rfl) ?_
              refine lv_iload hx hb wdX1_passOverTones_156 (lv_at hl 5 rfl) ?_
              refine lv_iload hx hb wdX1_passOverTones_158 (lv_at hl 7 rfl) ?_
              refine k_Vi F w (As := [.ref (B + a), .int (zI (k2 : Int)), .int (zI (x : Int)), .int (zI (n9 : Int))]) (rest := []) (a := 23) (kd_lt (a := 23) (show kd 23 = (1, 0, 0) from rfl) (by decide)) (sh_1 rfl _ _) rfl (u_spread hk i1 (t := k2) hk2 (x := x) (n9 := n9) hx01 (by omega)) wgv_X1_104 whv_X1_spread ⟨(by omega), (by omega)⟩ hl.1 rfl (Nat.le_of_ble_eq_true rfl) ⟨Nat.zero_le _, Nat.zero_le _⟩ wdX1_passOverTones_160 (fun r Ma15 H locs hp w => ?_)
              rcases hp with ⟨oT14, dT14, eT14, rfl, hCT14, hFT14, hdT14⟩
              refine lv_istore (lv' := [(11, .int (zI (dT14 : Int))), (10, .int (zI (j : Int))), (9, .int (zI (cc : Int))), (8, .int (zI (k2 : Int))), (7, .int (zI ((o.1 : Nat) : Int))), (6, .int (zI (x : Int))), (5, .int (zI (y : Int))), (4, .int (zI (n9 : Int))), (3, .int (zI 1)), (0, .ref (B + 23)), (1, .ref (B + ru)), (2, .ref (B + a))]) hx hb wdX1_passOverTones_163 hl (by decide) rfl (fun ls hl => ?_)
              refine lv_goto (tgt := 249) hx hb wdX1_passOverTones_165 (by decide) ?_
              refine lv_iload_n hx hb wdX1_passOverTones_249 rfl (lv_at hl 8 rfl) ?_
              refine lv_iconst (v := zI 2) hx hb wdX1_passOverTones_250 rfl ?_
              refine z_icmp_ne (tgt := 273) hx hb (by omega) (by omega) wdX1_passOverTones_251 (by decide) (fun c16 => ?_) (fun c16 => False.elim (by omega))
              refine lv_iload hx hb wdX1_passOverTones_273 (lv_at hl 2 rfl) ?_
              refine lv_iload hx hb wdX1_passOverTones_275 (lv_at hl 0 rfl) ?_
              refine z_iadd (z := (((cc + dT14) : Nat) : Int)) hx hb wdX1_passOverTones_277 (by omega) ?_
              refine lv_istore (lv' := [(9, .int (zI (((cc + dT14) : Nat) : Int))), (11, .int (zI (dT14 : Int))), (10, .int (zI (j : Int))), (8, .int (zI (k2 : Int))), (7, .int (zI ((o.1 : Nat) : Int))), (6, .int (zI (x : Int))), (5, .int (zI (y : Int))), (4, .int (zI (n9 : Int))), (3, .int (zI 1)), (0, .ref (B + 23)), (1, .ref (B + ru)), (2, .ref (B + a))]) hx hb wdX1_passOverTones_278 hl (by decide) rfl (fun ls hl => ?_)
              refine lv_iload hx hb wdX1_passOverTones_280 (lv_at hl 3 rfl) ?_
              refine lv_iload hx hb wdX1_passOverTones_282 (lv_at hl 5 rfl) ?_
              refine z_if_eq (tgt := 291) hx hb (by omega) wdX1_passOverTones_284 (by decide) (fun c17 => ?_) (fun c17 => ?_)
              · refine lv_iload_n hx hb wdX1_passOverTones_291 rfl (lv_at hl 8 rfl) ?_
                refine lv_iconst (v := zI 5) hx hb wdX1_passOverTones_292 rfl ?_
                refine z_icmp_ne (tgt := 305) hx hb (by omega) (by omega) wdX1_passOverTones_293 (by decide) (fun c18 => ?_) (fun c18 => False.elim (by omega))
                refine lv_iconst (v := zI 1) hx hb wdX1_passOverTones_305 rfl ?_
                refine z_iadd (z := (((k2 + 1) : Nat) : Int)) hx hb wdX1_passOverTones_306 (by omega) ?_
                have hnb := nx_b 1 x dT14 (k2 : Int)
                refine r_val (v := zI (nxT 1 x dT14 (k2 : Int))) (congrArg zI (by rw [← nx_r (v := 1) (cc := dT14) (show x ≠ 1 by omega) (by omega)]; omega)) ?_
                refine lv_istore (lv' := [(8, .int (zI (nxT 1 x dT14 (k2 : Int)))), (9, .int (zI (((cc + dT14) : Nat) : Int))), (11, .int (zI (dT14 : Int))), (10, .int (zI (j : Int))), (7, .int (zI ((o.1 : Nat) : Int))), (6, .int (zI (x : Int))), (5, .int (zI (y : Int))), (4, .int (zI (n9 : Int))), (3, .int (zI 1)), (0, .ref (B + 23)), (1, .ref (B + ru)), (2, .ref (B + a))]) hx hb wdX1_passOverTones_307 hl (by decide) rfl (fun ls hl => ?_)
                refine z_iinc (v := (((j + 1) : Nat) : Int)) (lv' := [(10, .int (zI (((j + 1) : Nat) : Int))), (8, .int (zI (nxT 1 x dT14 (k2 : Int)))), (9, .int (zI (((cc + dT14) : Nat) : Int))), (11, .int (zI (dT14 : Int))), (7, .int (zI ((o.1 : Nat) : Int))), (6, .int (zI (x : Int))), (5, .int (zI (y : Int))), (4, .int (zI (n9 : Int))), (3, .int (zI 1)), (0, .ref (B + 23)), (1, .ref (B + ru)), (2, .ref (B + a))]) hx hb wdX1_passOverTones_309 hl (k := 3) rfl (by omega) (by decide) rfl (fun ls hl => ?_)
                refine lv_goto (tgt := 65) hx hb wdX1_passOverTones_312 (by decide) ?_
                exact ih (j + 1) (nxT 1 x dT14 (k2 : Int)) (cc + dT14) Ma15 oT14 (by omega) hCT14 (by have h9 := tpI_s (f := o.1 - (j + 1)) (by rw [show o.1 - (j + 1) + 1 = o.1 - j by omega]; exact i2) hk2 (((trT_y ⟨hof7, had10⟩).trans (trV_1 (x := x) (y := y) (n9 := n9) (q := q) (ed := ed))).trans eT14); exact h9) (by omega) (Fr3.tr i4 hFT14) (isU.fr i5 (hFT14.1 (ru + 1) (by omega) (by omega) (by omega))) (by omega) (by omega) _ _ ls w (lv_sub hl [0, 2, 1, 4, 5, 6, 7, 8, 9, 10, 11] rfl)
              · refine lv_iconst (v := zI (-1)) hx hb wdX1_passOverTones_287 rfl ?_
                refine lv_goto (tgt := 306) hx hb wdX1_passOverTones_288 (by decide) ?_
                refine z_iadd (z := ((k2 : Int) + (-1))) hx hb wdX1_passOverTones_306 (by omega) ?_
                have hnb := nx_b 1 x dT14 (k2 : Int)
                refine r_val (v := zI (nxT 1 x dT14 (k2 : Int))) (congrArg zI (by rw [← nx_l (v := 1) (cc := dT14) (show x = 1 by omega)]; omega)) ?_
                refine lv_istore (lv' := [(8, .int (zI (nxT 1 x dT14 (k2 : Int)))), (9, .int (zI (((cc + dT14) : Nat) : Int))), (11, .int (zI (dT14 : Int))), (10, .int (zI (j : Int))), (7, .int (zI ((o.1 : Nat) : Int))), (6, .int (zI (x : Int))), (5, .int (zI (y : Int))), (4, .int (zI (n9 : Int))), (3, .int (zI 1)), (0, .ref (B + 23)), (1, .ref (B + ru)), (2, .ref (B + a))]) hx hb wdX1_passOverTones_307 hl (by decide) rfl (fun ls hl => ?_)
                refine z_iinc (v := (((j + 1) : Nat) : Int)) (lv' := [(10, .int (zI (((j + 1) : Nat) : Int))), (8, .int (zI (nxT 1 x dT14 (k2 : Int)))), (9, .int (zI (((cc + dT14) : Nat) : Int))), (11, .int (zI (dT14 : Int))), (7, .int (zI ((o.1 : Nat) : Int))), (6, .int (zI (x : Int))), (5, .int (zI (y : Int))), (4, .int (zI (n9 : Int))), (3, .int (zI 1)), (0, .ref (B + 23)), (1, .ref (B + ru)), (2, .ref (B + a))]) hx hb wdX1_passOverTones_309 hl (k := 3) rfl (by omega) (by decide) rfl (fun ls hl => ?_)
                refine lv_goto (tgt := 65) hx hb wdX1_passOverTones_312 (by decide) ?_
                exact ih (j + 1) (nxT 1 x dT14 (k2 : Int)) (cc + dT14) Ma15 oT14 (by omega) hCT14 (by have h9 := tpI_s (f := o.1 - (j + 1)) (by rw [show o.1 - (j + 1) + 1 = o.1 - j by omega]; exact i2) hk2 (((trT_y ⟨hof7, had10⟩).trans (trV_1 (x := x) (y := y) (n9 := n9) (q := q) (ed := ed))).trans eT14); exact h9) (by omega) (Fr3.tr i4 hFT14) (isU.fr i5 (hFT14.1 (ru + 1) (by omega) (by omega) (by omega))) (by omega) (by omega) _ _ ls w (lv_sub hl [0, 2, 1, 4, 5, 6, 7, 8, 9, 10, 11] rfl)
            · rw [hMe] at w
              refine z_if_eq (tgt := 249) hx hb (by omega) wdX1_passOverTones_104 (by decide) (fun c19 => ?_) (fun c19 => False.elim (by omega))
              refine lv_iload_n hx hb wdX1_passOverTones_249 rfl (lv_at hl 8 rfl) ?_
              refine lv_iconst (v := zI 2) hx hb wdX1_passOverTones_250 rfl ?_
              refine z_icmp_ne (tgt := 273) hx hb (by omega) (by omega) wdX1_passOverTones_251 (by decide) (fun c20 => ?_) (fun c20 => False.elim (by omega))
              refine lv_iload hx hb wdX1_passOverTones_273 (lv_at hl 2 rfl) ?_
              refine lv_iload hx hb wdX1_passOverTones_275 (lv_at hl 0 rfl) ?_
              refine z_iadd (z := (((cc + 0) : Nat) : Int)) hx hb wdX1_passOverTones_277 (by omega) ?_
              refine lv_istore (lv' := [(9, .int (zI (((cc + 0) : Nat) : Int))), (11, .int (zI 0)), (10, .int (zI (j : Int))), (8, .int (zI (k2 : Int))), (7, .int (zI ((o.1 : Nat) : Int))), (6, .int (zI (x : Int))), (5, .int (zI (y : Int))), (4, .int (zI (n9 : Int))), (3, .int (zI 1)), (0, .ref (B + 23)), (1, .ref (B + ru)), (2, .ref (B + a))]) hx hb wdX1_passOverTones_278 hl (by decide) rfl (fun ls hl => ?_)
              refine lv_iload hx hb wdX1_passOverTones_280 (lv_at hl 3 rfl) ?_
              refine lv_iload hx hb wdX1_passOverTones_282 (lv_at hl 5 rfl) ?_
              refine z_if_eq (tgt := 291) hx hb (by omega) wdX1_passOverTones_284 (by decide) (fun c21 => ?_) (fun c21 => ?_)
              · refine lv_iload_n hx hb wdX1_passOverTones_291 rfl (lv_at hl 8 rfl) ?_
                refine lv_iconst (v := zI 5) hx hb wdX1_passOverTones_292 rfl ?_
                refine z_icmp_ne (tgt := 305) hx hb (by omega) (by omega) wdX1_passOverTones_293 (by decide) (fun c22 => ?_) (fun c22 => False.elim (by omega))
                refine lv_iconst (v := zI 1) hx hb wdX1_passOverTones_305 rfl ?_
                refine z_iadd (z := (((k2 + 1) : Nat) : Int)) hx hb wdX1_passOverTones_306 (by omega) ?_
                have hnb := nx_b 1 x 0 (k2 : Int)
                refine r_val (v := zI (nxT 1 x 0 (k2 : Int))) (congrArg zI (by rw [← nx_r (v := 1) (cc := 0) (show x ≠ 1 by omega) (by omega)]; omega)) ?_
                refine lv_istore (lv' := [(8, .int (zI (nxT 1 x 0 (k2 : Int)))), (9, .int (zI (((cc + 0) : Nat) : Int))), (11, .int (zI 0)), (10, .int (zI (j : Int))), (7, .int (zI ((o.1 : Nat) : Int))), (6, .int (zI (x : Int))), (5, .int (zI (y : Int))), (4, .int (zI (n9 : Int))), (3, .int (zI 1)), (0, .ref (B + 23)), (1, .ref (B + ru)), (2, .ref (B + a))]) hx hb wdX1_passOverTones_307 hl (by decide) rfl (fun ls hl => ?_)
                refine z_iinc (v := (((j + 1) : Nat) : Int)) (lv' := [(10, .int (zI (((j + 1) : Nat) : Int))), (8, .int (zI (nxT 1 x 0 (k2 : Int)))), (9, .int (zI (((cc + 0) : Nat) : Int))), (11, .int (zI 0)), (7, .int (zI ((o.1 : Nat) : Int))), (6, .int (zI (x : Int))), (5, .int (zI (y : Int))), (4, .int (zI (n9 : Int))), (3, .int (zI 1)), (0, .ref (B + 23)), (1, .ref (B + ru)), (2, .ref (B + a))]) hx hb wdX1_passOverTones_309 hl (k := 3) rfl (by omega) (by decide) rfl (fun ls hl => ?_)
                refine lv_goto (tgt := 65) hx hb wdX1_passOverTones_312 (by decide) ?_
                rw [show cc = cc + 0 from rfl] at hl
                exact ih (j + 1) (nxT 1 x 0 (k2 : Int)) (cc + 0) Nm o1 (by omega) i1 (by have h9 := tpI_s (f := o.1 - (j + 1)) (by rw [show o.1 - (j + 1) + 1 = o.1 - j by omega]; exact i2) hk2 (trT_n (fun h9 => had10 h9.2)); exact h9) (by omega) i4 i5 (by omega) (by omega) _ _ ls w (lv_sub hl [0, 2, 1, 4, 5, 6, 7, 8, 9, 10, 11] rfl)
              · refine lv_iconst (v := zI (-1)) hx hb wdX1_passOverTones_287 rfl ?_
                refine lv_goto (tgt := 306) hx hb wdX1_passOverTones_288 (by decide) ?_
                refine z_iadd (z := ((k2 : Int) + (-1))) hx hb wdX1_passOverTones_306 (by omega) ?_
                have hnb := nx_b 1 x 0 (k2 : Int)
                refine r_val (v := zI (nxT 1 x 0 (k2 : Int))) (congrArg zI (by rw [← nx_l (v := 1) (cc := 0) (show x = 1 by omega)]; omega)) ?_
                refine lv_istore (lv' := [(8, .int (zI (nxT 1 x 0 (k2 : Int)))), (9, .int (zI (((cc + 0) : Nat) : Int))), (11, .int (zI 0)), (10, .int (zI (j : Int))), (7, .int (zI ((o.1 : Nat) : Int))), (6, .int (zI (x : Int))), (5, .int (zI (y : Int))), (4, .int (zI (n9 : Int))), (3, .int (zI 1)), (0, .ref (B + 23)), (1, .ref (B + ru)), (2, .ref (B + a))]) hx hb wdX1_passOverTones_307 hl (by decide) rfl (fun ls hl => ?_)
                refine z_iinc (v := (((j + 1) : Nat) : Int)) (lv' := [(10, .int (zI (((j + 1) : Nat) : Int))), (8, .int (zI (nxT 1 x 0 (k2 : Int)))), (9, .int (zI (((cc + 0) : Nat) : Int))), (11, .int (zI 0)), (7, .int (zI ((o.1 : Nat) : Int))), (6, .int (zI (x : Int))), (5, .int (zI (y : Int))), (4, .int (zI (n9 : Int))), (3, .int (zI 1)), (0, .ref (B + 23)), (1, .ref (B + ru)), (2, .ref (B + a))]) hx hb wdX1_passOverTones_309 hl (k := 3) rfl (by omega) (by decide) rfl (fun ls hl => ?_)
                refine lv_goto (tgt := 65) hx hb wdX1_passOverTones_312 (by decide) ?_
                rw [show cc = cc + 0 from rfl] at hl
                exact ih (j + 1) (nxT 1 x 0 (k2 : Int)) (cc + 0) Nm o1 (by omega) i1 (by have h9 := tpI_s (f := o.1 - (j + 1)) (by rw [show o.1 - (j + 1) + 1 = o.1 - j by omega]; exact i2) hk2 (trT_n (fun h9 => had10 h9.2)); exact h9) (by omega) i4 i5 (by omega) (by omega) _ _ ls w (lv_sub hl [0, 2, 1, 4, 5, 6, 7, 8, 9, 10, 11] rfl)
          · rw [hMe] at w
            refine z_if_eq (tgt := 249) hx hb (by omega) wdX1_passOverTones_94 (by decide) (fun c23 => ?_) (fun c23 => False.elim (by omega))
            refine lv_iload_n hx hb wdX1_passOverTones_249 rfl (lv_at hl 8 rfl) ?_
            refine lv_iconst (v := zI 2) hx hb wdX1_passOverTones_250 rfl ?_
            refine z_icmp_ne (tgt := 273) hx hb (by omega) (by omega) wdX1_passOverTones_251 (by decide) (fun c24 => ?_) (fun c24 => False.elim (by omega))
            refine lv_iload hx hb wdX1_passOverTones_273 (lv_at hl 2 rfl) ?_
            refine lv_iload hx hb wdX1_passOverTones_275 (lv_at hl 0 rfl) ?_
            refine z_iadd (z := (((cc + 0) : Nat) : Int)) hx hb wdX1_passOverTones_277 (by omega) ?_
            refine lv_istore (lv' := [(9, .int (zI (((cc + 0) : Nat) : Int))), (11, .int (zI 0)), (10, .int (zI (j : Int))), (8, .int (zI (k2 : Int))), (7, .int (zI ((o.1 : Nat) : Int))), (6, .int (zI (x : Int))), (5, .int (zI (y : Int))), (4, .int (zI (n9 : Int))), (3, .int (zI 1)), (0, .ref (B + 23)), (1, .ref (B + ru)), (2, .ref (B + a))]) hx hb wdX1_passOverTones_278 hl (by decide) rfl (fun ls hl => ?_)
            refine lv_iload hx hb wdX1_passOverTones_280 (lv_at hl 3 rfl) ?_
            refine lv_iload hx hb wdX1_passOverTones_282 (lv_at hl 5 rfl) ?_
            refine z_if_eq (tgt := 291) hx hb (by omega) wdX1_passOverTones_284 (by decide) (fun c25 => ?_) (fun c25 => ?_)
            · refine lv_iload_n hx hb wdX1_passOverTones_291 rfl (lv_at hl 8 rfl) ?_
              refine lv_iconst (v := zI 5) hx hb wdX1_passOverTones_292 rfl ?_
              refine z_icmp_ne (tgt := 305) hx hb (by omega) (by omega) wdX1_passOverTones_293 (by decide) (fun c26 => ?_) (fun c26 => False.elim (by omega))
              refine lv_iconst (v := zI 1) hx hb wdX1_passOverTones_305 rfl ?_
              refine z_iadd (z := (((k2 + 1) : Nat) : Int)) hx hb wdX1_passOverTones_306 (by omega) ?_
              have hnb := nx_b 1 x 0 (k2 : Int)
              refine r_val (v := zI (nxT 1 x 0 (k2 : Int))) (congrArg zI (by rw [← nx_r (v := 1) (cc := 0) (show x ≠ 1 by omega) (by omega)]; omega)) ?_
              refine lv_istore (lv' := [(8, .int (zI (nxT 1 x 0 (k2 : Int)))), (9, .int (zI (((cc + 0) : Nat) : Int))), (11, .int (zI 0)), (10, .int (zI (j : Int))), (7, .int (zI ((o.1 : Nat) : Int))), (6, .int (zI (x : Int))), (5, .int (zI (y : Int))), (4, .int (zI (n9 : Int))), (3, .int (zI 1)), (0, .ref (B + 23)), (1, .ref (B + ru)), (2, .ref (B + a))]) hx hb wdX1_passOverTones_307 hl (by decide) rfl (fun ls hl => ?_)
              refine z_iinc (v := (((j + 1) : Nat) : Int)) (lv' := [(10, .int (zI (((j + 1) : Nat) : Int))), (8, .int (zI (nxT 1 x 0 (k2 : Int)))), (9, .int (zI (((cc + 0) : Nat) : Int))), (11, .int (zI 0)), (7, .int (zI ((o.1 : Nat) : Int))), (6, .int (zI (x : Int))), (5, .int (zI (y : Int))), (4, .int (zI (n9 : Int))), (3, .int (zI 1)), (0, .ref (B + 23)), (1, .ref (B + ru)), (2, .ref (B + a))]) hx hb wdX1_passOverTones_309 hl (k := 3) rfl (by omega) (by decide) rfl (fun ls hl => ?_)
              refine lv_goto (tgt := 65) hx hb wdX1_passOverTones_312 (by decide) ?_
              rw [show cc = cc + 0 from rfl] at hl
              exact ih (j + 1) (nxT 1 x 0 (k2 : Int)) (cc + 0) Nm o1 (by omega) i1 (by have h9 := tpI_s (f := o.1 - (j + 1)) (by rw [show o.1 - (j + 1) + 1 = o.1 - j by omega]; exact i2) hk2 (trT_n (fun h9 => hof7 h9.1)); exact h9) (by omega) i4 i5 (by omega) (by omega) _ _ ls w (lv_sub hl [0, 2, 1, 4, 5, 6, 7, 8, 9, 10, 11] rfl)
            · refine lv_iconst (v := zI (-1)) hx hb wdX1_passOverTones_287 rfl ?_
              refine lv_goto (tgt := 306) hx hb wdX1_passOverTones_288 (by decide) ?_
              refine z_iadd (z := ((k2 : Int) + (-1))) hx hb wdX1_passOverTones_306 (by omega) ?_
              have hnb := nx_b 1 x 0 (k2 : Int)
              refine r_val (v := zI (nxT 1 x 0 (k2 : Int))) (congrArg zI (by rw [← nx_l (v := 1) (cc := 0) (show x = 1 by omega)]; omega)) ?_
              refine lv_istore (lv' := [(8, .int (zI (nxT 1 x 0 (k2 : Int)))), (9, .int (zI (((cc + 0) : Nat) : Int))), (11, .int (zI 0)), (10, .int (zI (j : Int))), (7, .int (zI ((o.1 : Nat) : Int))), (6, .int (zI (x : Int))), (5, .int (zI (y : Int))), (4, .int (zI (n9 : Int))), (3, .int (zI 1)), (0, .ref (B + 23)), (1, .ref (B + ru)), (2, .ref (B + a))]) hx hb wdX1_passOverTones_307 hl (by decide) rfl (fun ls hl => ?_)
              refine z_iinc (v := (((j + 1) : Nat) : Int)) (lv' := [(10, .int (zI (((j + 1) : Nat) : Int))), (8, .int (zI (nxT 1 x 0 (k2 : Int)))), (9, .int (zI (((cc + 0) : Nat) : Int))), (11, .int (zI 0)), (7, .int (zI ((o.1 : Nat) : Int))), (6, .int (zI (x : Int))), (5, .int (zI (y : Int))), (4, .int (zI (n9 : Int))), (3, .int (zI 1)), (0, .ref (B + 23)), (1, .ref (B + ru)), (2, .ref (B + a))]) hx hb wdX1_passOverTones_309 hl (k := 3) rfl (by omega) (by decide) rfl (fun ls hl => ?_)
              refine lv_goto (tgt := 65) hx hb wdX1_passOverTones_312 (by decide) ?_
              rw [show cc = cc + 0 from rfl] at hl
              exact ih (j + 1) (nxT 1 x 0 (k2 : Int)) (cc + 0) Nm o1 (by omega) i1 (by have h9 := tpI_s (f := o.1 - (j + 1)) (by rw [show o.1 - (j + 1) + 1 = o.1 - j by omega]; exact i2) hk2 (trT_n (fun h9 => hof7 h9.1)); exact h9) (by omega) i4 i5 (by omega) (by omega) _ _ ls w (lv_sub hl [0, 2, 1, 4, 5, 6, 7, 8, 9, 10, 11] rfl)
        · exact False.elim (by omega)
      · rw [hMe] at w
        refine z_if_eq (tgt := 315) hx hb (by omega) wdX1_passOverTones_78 (by decide) (fun c27 => ?_) (fun c27 => False.elim (by omega))
        exact kk j tz cc Nm o1 _ _ ls i1 (tpI_e i2 (by omega)) i4 (by omega) w (lv_sub hl [1] rfl)
theorem wdX1_passOverTones_0 : decode cX1_passOverTones 0 = .ok (.aload_n 1, 1) := dq0 kk_43 (by decide +kernel)
theorem wdX1_passOverTones_1 : decode cX1_passOverTones 1 = .ok (.getfield 15, 3) := dqV kk_180 (by decide +kernel)
theorem wdX1_passOverTones_4 : decode cX1_passOverTones 4 = .ok (.iconst 0, 1) := dq0 kk_3 (by decide +kernel)
theorem wdX1_passOverTones_5 : decode cX1_passOverTones 5 = .ok (.iaload, 1) := dq0 kk_46 (by decide +kernel)
theorem wdX1_passOverTones_6 : decode cX1_passOverTones 6 = .ok (.istore_n 3, 1) := dq0 kk_62 (by decide +kernel)
theorem wdX1_passOverTones_7 : decode cX1_passOverTones 7 = .ok (.aload_n 1, 1) := dq0 kk_43 (by decide +kernel)
theorem wdX1_passOverTones_8 : decode cX1_passOverTones 8 = .ok (.getfield 15, 3) := dqV kk_180 (by decide +kernel)
theorem wdX1_passOverTones_11 : decode cX1_passOverTones 11 = .ok (.iconst 3, 1) := dq0 kk_6 (by decide +kernel)
theorem wdX1_passOverTones_12 : decode cX1_passOverTones 12 = .ok (.iaload, 1) := dq0 kk_46 (by decide +kernel)
theorem wdX1_passOverTones_13 : decode cX1_passOverTones 13 = .ok (.istore 4, 2) := dqU kk_54 (by decide +kernel)
theorem wdX1_passOverTones_15 : decode cX1_passOverTones 15 = .ok (.aload_n 1, 1) := dq0 kk_43 (by decide +kernel)
theorem wdX1_passOverTones_16 : decode cX1_passOverTones 16 = .ok (.getfield 15, 3) := dqV kk_180 (by decide +kernel)
theorem wdX1_passOverTones_19 : decode cX1_passOverTones 19 = .ok (.iconst 4, 1) := dq0 kk_7 (by decide +kernel)
theorem wdX1_passOverTones_20 : decode cX1_passOverTones 20 = .ok (.iaload, 1) := dq0 kk_46 (by decide +kernel)
theorem wdX1_passOverTones_21 : decode cX1_passOverTones 21 = .ok (.iconst 1, 1) := dq0 kk_4 (by decide +kernel)
theorem wdX1_passOverTones_22 : decode cX1_passOverTones 22 = .ok (.if_icmp .ne 7, 3) := dqT kk_160 (by decide +kernel)
theorem wdX1_passOverTones_29 : decode cX1_passOverTones 29 = .ok (.iconst 0, 1) := dq0 kk_3 (by decide +kernel)
theorem wdX1_passOverTones_30 : decode cX1_passOverTones 30 = .ok (.istore 5, 2) := dqU kk_54 (by decide +kernel)
theorem wdX1_passOverTones_32 : decode cX1_passOverTones 32 = .ok (.aload_n 1, 1) := dq0 kk_43 (by decide +kernel)
theorem wdX1_passOverTones_33 : decode cX1_passOverTones 33 = .ok (.invokevirtual 90, 3) := dqV kk_182 (by decide +kernel)
theorem wtk_X4_goesLeft : Cond.code yX4_goesLeft cX4_goesLeft 2 (some .boolean) ∈ TB := tbm (tc4 (List.mem_of_getElem? (i := 36) rfl)) rfl
theorem wgc_X4_goesLeft : GoodIn TB (cw yX4_goesLeft cX4_goesLeft 2 (some .boolean)) := goodIn_c2 wtk_X4_goesLeft
theorem wtb_68 : Cond.methodLink "ToneLines$Doer" 90 yX4_goesLeft ∈ TB := tbm (tc4 (List.mem_of_getElem? (i := 33) rfl)) rfl
theorem wtb_69 : Cond.instanceMethod yX4_goesLeft ∈ TB := tbm (tc4 (List.mem_of_getElem? (i := 34) rfl)) rfl
theorem wtb_70 : Cond.selects "ToneLines$Rule" yX4_goesLeft yX4_goesLeft ∈ TB := tbm (tc4 (List.mem_of_getElem? (i := 35) rfl)) rfl
theorem wgv_X1_90 : GoodIn TB (wsV RX1 90 RX4 yX4_goesLeft (cw yX4_goesLeft cX4_goesLeft 2 (some .boolean))) := goodIn_4 wtb_68 wtb_69 wtb_70 wtb_21 wgc_X4_goesLeft
theorem whv_X4_goesLeft : yX4_goesLeft.cls = RX4 ∧ yX4_goesLeft.cls ≠ "java/lang/invoke/MethodHandle" ∧ yX4_goesLeft.cls ≠ "java/lang/invoke/VarHandle" ∧ (parseMethodDescriptor yX4_goesLeft.desc).map (fun d => d.parameters.length) = some 0 := by decide +kernel
theorem wdX1_passOverTones_36 : decode cX1_passOverTones 36 = .ok (.istore 6, 2) := dqU kk_54 (by decide +kernel)
theorem wdX1_passOverTones_38 : decode cX1_passOverTones 38 = .ok (.aload_n 2, 1) := dq0 kk_44 (by decide +kernel)
theorem wdX1_passOverTones_39 : decode cX1_passOverTones 39 = .ok (.getfield 53, 3) := dqV kk_180 (by decide +kernel)
theorem wdX1_passOverTones_42 : decode cX1_passOverTones 42 = .ok (.istore 7, 2) := dqU kk_54 (by decide +kernel)
theorem wdX1_passOverTones_44 : decode cX1_passOverTones 44 = .ok (.iload 6, 2) := dqU kk_21 (by decide +kernel)
theorem wdX1_passOverTones_46 : decode cX1_passOverTones 46 = .ok (.ifCond .eq 10, 3) := dqT kk_153 (by decide +kernel)
theorem wdX1_passOverTones_56 : decode cX1_passOverTones 56 = .ok (.iconst 0, 1) := dq0 kk_3 (by decide +kernel)
theorem wdX1_passOverTones_57 : decode cX1_passOverTones 57 = .ok (.istore 8, 2) := dqU kk_54 (by decide +kernel)
theorem wdX1_passOverTones_59 : decode cX1_passOverTones 59 = .ok (.iconst 0, 1) := dq0 kk_3 (by decide +kernel)
theorem wdX1_passOverTones_60 : decode cX1_passOverTones 60 = .ok (.istore 9, 2) := dqU kk_54 (by decide +kernel)
theorem wdX1_passOverTones_62 : decode cX1_passOverTones 62 = .ok (.iconst 0, 1) := dq0 kk_3 (by decide +kernel)
theorem wdX1_passOverTones_63 : decode cX1_passOverTones 63 = .ok (.istore 10, 2) := dqU kk_54 (by decide +kernel)
theorem wdX1_passOverTones_315 : decode cX1_passOverTones 315 = .ok (.iload 9, 2) := dqU kk_21 (by decide +kernel)
theorem wdX1_passOverTones_317 : decode cX1_passOverTones 317 = .ok (.ireturn, 1) := dq0 kk_172 (by decide +kernel)
theorem wdX1_passOverTones_49 : decode cX1_passOverTones 49 = .ok (.iload 7, 2) := dqU kk_21 (by decide +kernel)
theorem wdX1_passOverTones_51 : decode cX1_passOverTones 51 = .ok (.iconst 1, 1) := dq0 kk_4 (by decide +kernel)
theorem wdX1_passOverTones_52 : decode cX1_passOverTones 52 = .ok (.isub, 1) := dq0 kk_100 (by decide +kernel)
theorem wdX1_passOverTones_53 : decode cX1_passOverTones 53 = .ok (.goto 4, 3) := dqT kk_167 (by decide +kernel)
theorem wdX1_passOverTones_25 : decode cX1_passOverTones 25 = .ok (.iconst 1, 1) := dq0 kk_4 (by decide +kernel)
theorem wdX1_passOverTones_26 : decode cX1_passOverTones 26 = .ok (.goto 4, 3) := dqT kk_167 (by decide +kernel)
set_option maxRecDepth 4000 in
theorem s_X1_over_1 {l : Launch} {D : va_G} {B : Nat} {cy : Nat → ClassId} {M : Mem} {a q hv ed : Nat} {o : Wo} (hk : kd a = (9, 0, 0)) (hC : CW M a q hv ed o) {ru : Nat} {P : Nat → Int} (hku : kd ru = (4, 0, 0)) (hU : isU M ru P) (hP : okP P) (hap : ru + 1 < a ∨ a + 2 < ru) {x y n9 : Nat} {t0 : Int} (hq0 : P 0 = 1) (hx8 : (x = 1 ∧ P 4 = 1 ∧ (P 0 = 1 ∨ P 0 = 2 ∨ P 0 = 4)) ∨ (x = 0 ∧ ¬ (P 4 = 1 ∧ (P 0 = 1 ∨ P 0 = 2 ∨ P 0 = 4)))) (hy8 : (P 4 = 1 ∧ y = 1) ∨ (P 4 ≠ 1 ∧ y = 0)) (ht0 : (x = 1 ∧ t0 = (o.1 : Int) - 1) ∨ (x = 0 ∧ t0 = 0)) (hz5 : P 5 = -2 ∨ (0 ≤ P 5 ∧ P 5 ≤ 6)) (hq3 : P 3 = (n9 : Int)) (hn9 : n9 ≤ 9) : Ci l D B cy yX1_passOverTones cX1_passOverTones 12 (some .int) 3 77 [.ref (B + 23), .ref (B + ru), .ref (B + a)] M (fun r M1 => TQ a q hv ed (tpF P 1 x y n9 q hv ed o.1 t0 o) 1884 M r M1) := by
  refine s_any (by decide) (Nat.le_of_ble_eq_true rfl) ?_
  intro p e s m below meth c ls F hr hlocks w hl
  have F : CallFix p m c cX1_passOverTones 12 s _ TB RX1 := F
  have hx := F.1
  have hb := F.2.1
  have hl : lv_has ls 12 [(0, .ref (B + 23)), (1, .ref (B + ru)), (2, .ref (B + a))] := hl
  have hW := hC.1
  have hwf := hC.wf
  have hKL := hwf.2.2.2.2
  have hn12 := hwf.1
  have hq12 := hwf.2.1
  have hP0 := hP 0 (by decide)
  have hP1 := hP 1 (by decide)
  have hP2 := hP 2 (by decide)
  have hP3 := hP 3 (by decide)
  have hP4 := hP 4 (by decide)
  have hP5 := hP 5 (by decide)
  have hP6 := hP 6 (by decide)
  have hP7 := hP 7 (by decide)
  refine lv_aload_n hx hb wdX1_passOverTones_0 rfl (lv_at hl 1 rfl) ?_
  refine f_4_0 F w (a := ru) hku wtb_45 wdX1_passOverTones_1 ?_
  refine lv_iconst (v := zI 0) hx hb wdX1_passOverTones_4 rfl ?_
  refine g_iald F w (a := (ru + 1)) (kd_r1 hku) (j := 0) ⟨by decide, by decide⟩ (by omega) wdX1_passOverTones_5 ?_
  refine r_val (v := (zI (P 0))) (hU 0 (by decide)) ?_
  refine r_val (v := (zI 1)) (congrArg zI hq0) ?_
  refine lv_istore_n (lv' := [(3, .int (zI 1)), (0, .ref (B + 23)), (1, .ref (B + ru)), (2, .ref (B + a))]) hx hb wdX1_passOverTones_6 rfl hl (by decide) rfl (fun ls hl => ?_)
  refine lv_aload_n hx hb wdX1_passOverTones_7 rfl (lv_at hl 2 rfl) ?_
  refine f_4_0 F w (a := ru) hku wtb_45 wdX1_passOverTones_8 ?_
  refine lv_iconst (v := zI 3) hx hb wdX1_passOverTones_11 rfl ?_
  refine g_iald F w (a := (ru + 1)) (kd_r1 hku) (j := 3) ⟨by decide, by decide⟩ (by omega) wdX1_passOverTones_12 ?_
  refine r_val (v := (zI (P 3))) (hU 3 (by decide)) ?_
  refine r_val (v := (zI (n9 : Int))) (congrArg zI hq3) ?_
  refine lv_istore (lv' := [(4, .int (zI (n9 : Int))), (3, .int (zI 1)), (0, .ref (B + 23)), (1, .ref (B + ru)), (2, .ref (B + a))]) hx hb wdX1_passOverTones_13 hl (by decide) rfl (fun ls hl => ?_)
  refine lv_aload_n hx hb wdX1_passOverTones_15 rfl (lv_at hl 3 rfl) ?_
  refine f_4_0 F w (a := ru) hku wtb_45 wdX1_passOverTones_16 ?_
  refine lv_iconst (v := zI 4) hx hb wdX1_passOverTones_19 rfl ?_
  refine g_iald F w (a := (ru + 1)) (kd_r1 hku) (j := 4) ⟨by decide, by decide⟩ (by omega) wdX1_passOverTones_20 ?_
  refine r_val (v := (zI (P 4))) (hU 4 (by decide)) ?_
  refine lv_iconst (v := zI 1) hx hb wdX1_passOverTones_21 rfl ?_
  refine z_icmp_ne (tgt := 29) hx hb (by omega) (by omega) wdX1_passOverTones_22 (by decide) (fun c1 => ?_) (fun c1 => ?_)
  · refine lv_iconst (v := zI 0) hx hb wdX1_passOverTones_29 rfl ?_
    refine r_val (v := zI ((y : Nat) : Int)) (congrArg zI (by omega)) ?_
    refine lv_istore (lv' := [(5, .int (zI (y : Int))), (4, .int (zI (n9 : Int))), (3, .int (zI 1)), (0, .ref (B + 23)), (1, .ref (B + ru)), (2, .ref (B + a))]) hx hb wdX1_passOverTones_30 hl (by decide) rfl (fun ls hl => ?_)
    refine lv_aload_n hx hb wdX1_passOverTones_32 rfl (lv_at hl 4 rfl) ?_
    refine k_Vi F w (As := []) (rest := []) (a := ru) (kd_lt (a := ru) hku (by decide)) (sh_4 hku _ _) rfl (s_X4_goesLeft hku hU hP) wgv_X1_90 whv_X4_goesLeft ⟨(Nat.le_of_ble_eq_true rfl), (Nat.le_of_ble_eq_true rfl)⟩ hl.1 rfl (Nat.le_of_ble_eq_true rfl) ⟨Nat.zero_le _, Nat.zero_le _⟩ wdX1_passOverTones_33 (fun r Ma3 H locs hp w => ?_)
    rcases hp with ⟨⟨hlf2, rfl⟩ | ⟨hlf2, rfl⟩, hMe⟩
    · rw [hMe] at w
      refine r_val (v := zI ((x : Nat) : Int)) (congrArg zI (by omega)) ?_
      refine lv_istore (lv' := [(6, .int (zI (x : Int))), (5, .int (zI (y : Int))), (4, .int (zI (n9 : Int))), (3, .int (zI 1)), (0, .ref (B + 23)), (1, .ref (B + ru)), (2, .ref (B + a))]) hx hb wdX1_passOverTones_36 hl (by decide) rfl (fun ls hl => ?_)
      refine lv_aload_n hx hb wdX1_passOverTones_38 rfl (lv_at hl 6 rfl) ?_
      refine f_9_0 F w (a := a) hk wtb_32 wdX1_passOverTones_39 ?_
      refine r_val (v := (zI ((o.1 : Nat) : Int))) (hW.1) ?_
      refine lv_istore (lv' := [(7, .int (zI ((o.1 : Nat) : Int))), (6, .int (zI (x : Int))), (5, .int (zI (y : Int))), (4, .int (zI (n9 : Int))), (3, .int (zI 1)), (0, .ref (B + 23)), (1, .ref (B + ru)), (2, .ref (B + a))]) hx hb wdX1_passOverTones_42 hl (by decide) rfl (fun ls hl => ?_)
      refine lv_iload hx hb wdX1_passOverTones_44 (lv_at hl 1 rfl) ?_
      refine z_if_eq (tgt := 56) hx hb (by omega) wdX1_passOverTones_46 (by decide) (fun c4 => ?_) (fun c4 => ?_)
      · refine lv_iconst (v := zI 0) hx hb wdX1_passOverTones_56 rfl ?_
        refine r_val (v := zI t0) (congrArg zI (by omega)) ?_
        refine lv_istore (lv' := [(8, .int (zI t0)), (7, .int (zI ((o.1 : Nat) : Int))), (6, .int (zI (x : Int))), (5, .int (zI (y : Int))), (4, .int (zI (n9 : Int))), (3, .int (zI 1)), (0, .ref (B + 23)), (1, .ref (B + ru)), (2, .ref (B + a))]) hx hb wdX1_passOverTones_57 hl (by decide) rfl (fun ls hl => ?_)
        refine lv_iconst (v := zI 0) hx hb wdX1_passOverTones_59 rfl ?_
        refine lv_istore (lv' := [(9, .int (zI 0)), (8, .int (zI t0)), (7, .int (zI ((o.1 : Nat) : Int))), (6, .int (zI (x : Int))), (5, .int (zI (y : Int))), (4, .int (zI (n9 : Int))), (3, .int (zI 1)), (0, .ref (B + 23)), (1, .ref (B + ru)), (2, .ref (B + a))]) hx hb wdX1_passOverTones_60 hl (by decide) rfl (fun ls hl => ?_)
        refine lv_iconst (v := zI 0) hx hb wdX1_passOverTones_62 rfl ?_
        refine lv_istore (lv' := [(10, .int (zI 0)), (9, .int (zI 0)), (8, .int (zI t0)), (7, .int (zI ((o.1 : Nat) : Int))), (6, .int (zI (x : Int))), (5, .int (zI (y : Int))), (4, .int (zI (n9 : Int))), (3, .int (zI 1)), (0, .ref (B + 23)), (1, .ref (B + ru)), (2, .ref (B + a))]) hx hb wdX1_passOverTones_63 hl (by decide) rfl (fun ls hl => ?_)
        have hx01 : x = 0 ∨ x = 1 := by omega
        have hy01 : y = 0 ∨ y = 1 := by omega
        refine lp_X1_over_1  F (Nat.le_of_ble_eq_true rfl) (Nat.le_of_ble_eq_true rfl) (x := x) (y := y) (n9 := n9) hk hku hP hn12 hx01 hy01 hz5 hap hq3 hn9 (fun j tz cc Nm o1 H locs ls x0 x1 x2 x3 w hl => ?_) o.1 0 t0 0 M o (by omega) hC tpI_0 (by omega) Fr3.rf hU (by omega) (by omega) _ _ ls w (lv_sub hl [0, 1, 2, 3, 4, 5, 6, 7, 8, 9, 10] rfl)
        refine lv_iload hx hb wdX1_passOverTones_315 (lv_at hl 0 rfl) ?_
        exact e_i F w hr hlocks ⟨o1, cc, x1, rfl, x0, x2, x3⟩ wdX1_passOverTones_317
      · refine lv_iload hx hb wdX1_passOverTones_49 (lv_at hl 0 rfl) ?_
        refine lv_iconst (v := zI 1) hx hb wdX1_passOverTones_51 rfl ?_
        refine z_isub (z := (((o.1 : Nat) : Int) - 1)) hx hb wdX1_passOverTones_52 (by omega) ?_
        refine lv_goto (tgt := 57) hx hb wdX1_passOverTones_53 (by decide) ?_
        refine r_val (v := zI t0) (congrArg zI (by omega)) ?_
        refine lv_istore (lv' := [(8, .int (zI t0)), (7, .int (zI ((o.1 : Nat) : Int))), (6, .int (zI (x : Int))), (5, .int (zI (y : Int))), (4, .int (zI (n9 : Int))), (3, .int (zI 1)), (0, .ref (B + 23)), (1, .ref (B + ru)), (2, .ref (B + a))]) hx hb wdX1_passOverTones_57 hl (by decide) rfl (fun ls hl => ?_)
        refine lv_iconst (v := zI 0) hx hb wdX1_passOverTones_59 rfl ?_
        refine lv_istore (lv' := [(9, .int (zI 0)), (8, .int (zI t0)), (7, .int (zI ((o.1 : Nat) : Int))), (6, .int (zI (x : Int))), (5, .int (zI (y : Int))), (4, .int (zI (n9 : Int))), (3, .int (zI 1)), (0, .ref (B + 23)), (1, .ref (B + ru)), (2, .ref (B + a))]) hx hb wdX1_passOverTones_60 hl (by decide) rfl (fun ls hl => ?_)
        refine lv_iconst (v := zI 0) hx hb wdX1_passOverTones_62 rfl ?_
        refine lv_istore (lv' := [(10, .int (zI 0)), (9, .int (zI 0)), (8, .int (zI t0)), (7, .int (zI ((o.1 : Nat) : Int))), (6, .int (zI (x : Int))), (5, .int (zI (y : Int))), (4, .int (zI (n9 : Int))), (3, .int (zI 1)), (0, .ref (B + 23)), (1, .ref (B + ru)), (2, .ref (B + a))]) hx hb wdX1_passOverTones_63 hl (by decide) rfl (fun ls hl => ?_)
        have hx01 : x = 0 ∨ x = 1 := by omega
        have hy01 : y = 0 ∨ y = 1 := by omega
        refine lp_X1_over_1  F (Nat.le_of_ble_eq_true rfl) (Nat.le_of_ble_eq_true rfl) (x := x) (y := y) (n9 := n9) hk hku hP hn12 hx01 hy01 hz5 hap hq3 hn9 (fun j tz cc Nm o1 H locs ls x0 x1 x2 x3 w hl => ?_) o.1 0 t0 0 M o (by omega) hC tpI_0 (by omega) Fr3.rf hU (by omega) (by omega) _ _ ls w (lv_sub hl [0, 1, 2, 3, 4, 5, 6, 7, 8, 9, 10] rfl)
        refine lv_iload hx hb wdX1_passOverTones_315 (lv_at hl 0 rfl) ?_
        exact e_i F w hr hlocks ⟨o1, cc, x1, rfl, x0, x2, x3⟩ wdX1_passOverTones_317
    · rw [hMe] at w
      refine r_val (v := zI ((x : Nat) : Int)) (congrArg zI (by omega)) ?_
      refine lv_istore (lv' := [(6, .int (zI (x : Int))), (5, .int (zI (y : Int))), (4, .int (zI (n9 : Int))), (3, .int (zI 1)), (0, .ref (B + 23)), (1, .ref (B + ru)), (2, .ref (B + a))]) hx hb wdX1_passOverTones_36 hl (by decide) rfl (fun ls hl => ?_)
      refine lv_aload_n hx hb wdX1_passOverTones_38 rfl (lv_at hl 6 rfl) ?_
      refine f_9_0 F w (a := a) hk wtb_32 wdX1_passOverTones_39 ?_
      refine r_val (v := (zI ((o.1 : Nat) : Int))) (hW.1) ?_
      refine lv_istore (lv' := [(7, .int (zI ((o.1 : Nat) : Int))), (6, .int (zI (x : Int))), (5, .int (zI (y : Int))), (4, .int (zI (n9 : Int))), (3, .int (zI 1)), (0, .ref (B + 23)), (1, .ref (B + ru)), (2, .ref (B + a))]) hx hb wdX1_passOverTones_42 hl (by decide) rfl (fun ls hl => ?_)
      refine lv_iload hx hb wdX1_passOverTones_44 (lv_at hl 1 rfl) ?_
      refine z_if_eq (tgt := 56) hx hb (by omega) wdX1_passOverTones_46 (by decide) (fun c5 => ?_) (fun c5 => ?_)
      · refine lv_iconst (v := zI 0) hx hb wdX1_passOverTones_56 rfl ?_
        refine r_val (v := zI t0) (congrArg zI (by omega)) ?_
        refine lv_istore (lv' := [(8, .int (zI t0)), (7, .int (zI ((o.1 : Nat) : Int))), (6, .int (zI (x : Int))), (5, .int (zI (y : Int))), (4, .int (zI (n9 : Int))), (3, .int (zI 1)), (0, .ref (B + 23)), (1, .ref (B + ru)), (2, .ref (B + a))]) hx hb wdX1_passOverTones_57 hl (by decide) rfl (fun ls hl => ?_)
        refine lv_iconst (v := zI 0) hx hb wdX1_passOverTones_59 rfl ?_
        refine lv_istore (lv' := [(9, .int (zI 0)), (8, .int (zI t0)), (7, .int (zI ((o.1 : Nat) : Int))), (6, .int (zI (x : Int))), (5, .int (zI (y : Int))), (4, .int (zI (n9 : Int))), (3, .int (zI 1)), (0, .ref (B + 23)), (1, .ref (B + ru)), (2, .ref (B + a))]) hx hb wdX1_passOverTones_60 hl (by decide) rfl (fun ls hl => ?_)
        refine lv_iconst (v := zI 0) hx hb wdX1_passOverTones_62 rfl ?_
        refine lv_istore (lv' := [(10, .int (zI 0)), (9, .int (zI 0)), (8, .int (zI t0)), (7, .int (zI ((o.1 : Nat) : Int))), (6, .int (zI (x : Int))), (5, .int (zI (y : Int))), (4, .int (zI (n9 : Int))), (3, .int (zI 1)), (0, .ref (B + 23)), (1, .ref (B + ru)), (2, .ref (B + a))]) hx hb wdX1_passOverTones_63 hl (by decide) rfl (fun ls hl => ?_)
        have hx01 : x = 0 ∨ x = 1 := by omega
        have hy01 : y = 0 ∨ y = 1 := by omega
        refine lp_X1_over_1  F (Nat.le_of_ble_eq_true rfl) (Nat.le_of_ble_eq_true rfl) (x := x) (y := y) (n9 := n9) hk hku hP hn12 hx01 hy01 hz5 hap hq3 hn9 (fun j tz cc Nm o1 H locs ls x0 x1 x2 x3 w hl => ?_) o.1 0 t0 0 M o (by omega) hC tpI_0 (by omega) Fr3.rf hU (by omega) (by omega) _ _ ls w (lv_sub hl [0, 1, 2, 3, 4, 5, 6, 7, 8, 9, 10] rfl)
        refine lv_iload hx hb wdX1_passOverTones_315 (lv_at hl 0 rfl) ?_
        exact e_i F w hr hlocks ⟨o1, cc, x1, rfl, x0, x2, x3⟩ wdX1_passOverTones_317
      · refine lv_iload hx hb wdX1_passOverTones_49 (lv_at hl 0 rfl) ?_
        refine lv_iconst (v := zI 1) hx hb wdX1_passOverTones_51 rfl ?_
        refine z_isub (z := (((o.1 : Nat) : Int) - 1)) hx hb wdX1_passOverTones_52 (by omega) ?_
        refine lv_goto (tgt := 57) hx hb wdX1_passOverTones_53 (by decide) ?_
        refine r_val (v := zI t0) (congrArg zI (by omega)) ?_
        refine lv_istore (lv' := [(8, .int (zI t0)), (7, .int (zI ((o.1 : Nat) : Int))), (6, .int (zI (x : Int))), (5, .int (zI (y : Int))), (4, .int (zI (n9 : Int))), (3, .int (zI 1)), (0, .ref (B + 23)), (1, .ref (B + ru)), (2, .ref (B + a))]) hx hb wdX1_passOverTones_57 hl (by decide) rfl (fun ls hl => ?_)
        refine lv_iconst (v := zI 0) hx hb wdX1_passOverTones_59 rfl ?_
        refine lv_istore (lv' := [(9, .int (zI 0)), (8, .int (zI t0)), (7, .int (zI ((o.1 : Nat) : Int))), (6, .int (zI (x : Int))), (5, .int (zI (y : Int))), (4, .int (zI (n9 : Int))), (3, .int (zI 1)), (0, .ref (B + 23)), (1, .ref (B + ru)), (2, .ref (B + a))]) hx hb wdX1_passOverTones_60 hl (by decide) rfl (fun ls hl => ?_)
        refine lv_iconst (v := zI 0) hx hb wdX1_passOverTones_62 rfl ?_
        refine lv_istore (lv' := [(10, .int (zI 0)), (9, .int (zI 0)), (8, .int (zI t0)), (7, .int (zI ((o.1 : Nat) : Int))), (6, .int (zI (x : Int))), (5, .int (zI (y : Int))), (4, .int (zI (n9 : Int))), (3, .int (zI 1)), (0, .ref (B + 23)), (1, .ref (B + ru)), (2, .ref (B + a))]) hx hb wdX1_passOverTones_63 hl (by decide) rfl (fun ls hl => ?_)
        have hx01 : x = 0 ∨ x = 1 := by omega
        have hy01 : y = 0 ∨ y = 1 := by omega
        refine lp_X1_over_1  F (Nat.le_of_ble_eq_true rfl) (Nat.le_of_ble_eq_true rfl) (x := x) (y := y) (n9 := n9) hk hku hP hn12 hx01 hy01 hz5 hap hq3 hn9 (fun j tz cc Nm o1 H locs ls x0 x1 x2 x3 w hl => ?_) o.1 0 t0 0 M o (by omega) hC tpI_0 (by omega) Fr3.rf hU (by omega) (by omega) _ _ ls w (lv_sub hl [0, 1, 2, 3, 4, 5, 6, 7, 8, 9, 10] rfl)
        refine lv_iload hx hb wdX1_passOverTones_315 (lv_at hl 0 rfl) ?_
        exact e_i F w hr hlocks ⟨o1, cc, x1, rfl, x0, x2, x3⟩ wdX1_passOverTones_317
  · refine lv_iconst (v := zI 1) hx hb wdX1_passOverTones_25 rfl ?_
    refine lv_goto (tgt := 30) hx hb wdX1_passOverTones_26 (by decide) ?_
    refine r_val (v := zI ((y : Nat) : Int)) (congrArg zI (by omega)) ?_
    refine lv_istore (lv' := [(5, .int (zI (y : Int))), (4, .int (zI (n9 : Int))), (3, .int (zI 1)), (0, .ref (B + 23)), (1, .ref (B + ru)), (2, .ref (B + a))]) hx hb wdX1_passOverTones_30 hl (by decide) rfl (fun ls hl => ?_)
    refine lv_aload_n hx hb wdX1_passOverTones_32 rfl (lv_at hl 4 rfl) ?_
    refine k_Vi F w (As := []) (rest := []) (a := ru) (kd_lt (a := ru) hku (by decide)) (sh_4 hku _ _) rfl (s_X4_goesLeft hku hU hP) wgv_X1_90 whv_X4_goesLeft ⟨(Nat.le_of_ble_eq_true rfl), (Nat.le_of_ble_eq_true rfl)⟩ hl.1 rfl (Nat.le_of_ble_eq_true rfl) ⟨Nat.zero_le _, Nat.zero_le _⟩ wdX1_passOverTones_33 (fun r Ma7 H locs hp w => ?_)
    rcases hp with ⟨⟨hlf6, rfl⟩ | ⟨hlf6, rfl⟩, hMe⟩
    · rw [hMe] at w
      refine r_val (v := zI ((x : Nat) : Int)) (congrArg zI (by omega)) ?_
      refine lv_istore (lv' := [(6, .int (zI (x : Int))), (5, .int (zI (y : Int))), (4, .int (zI (n9 : Int))), (3, .int (zI 1)), (0, .ref (B + 23)), (1, .ref (B + ru)), (2, .ref (B + a))]) hx hb wdX1_passOverTones_36 hl (by decide) rfl (fun ls hl => ?_)
      refine lv_aload_n hx hb wdX1_passOverTones_38 rfl (lv_at hl 6 rfl) ?_
      refine f_9_0 F w (a := a) hk wtb_32 wdX1_passOverTones_39 ?_
      refine r_val (v := (zI ((o.1 : Nat) : Int))) (hW.1) ?_
      refine lv_istore (lv' := [(7, .int (zI ((o.1 : Nat) : Int))), (6, .int (zI (x : Int))), (5, .int (zI (y : Int))), (4, .int (zI (n9 : Int))), (3, .int (zI 1)), (0, .ref (B + 23)), (1, .ref (B + ru)), (2, .ref (B + a))]) hx hb wdX1_passOverTones_42 hl (by decide) rfl (fun ls hl => ?_)
      refine lv_iload hx hb wdX1_passOverTones_44 (lv_at hl 1 rfl) ?_
      refine z_if_eq (tgt := 56) hx hb (by omega) wdX1_passOverTones_46 (by decide) (fun c8 => ?_) (fun c8 => ?_)
      · refine lv_iconst (v := zI 0) hx hb wdX1_passOverTones_56 rfl ?_
        refine r_val (v := zI t0) (congrArg zI (by omega)) ?_
        refine lv_istore (lv' := [(8, .int (zI t0)), (7, .int (zI ((o.1 : Nat) : Int))), (6, .int (zI (x : Int))), (5, .int (zI (y : Int))), (4, .int (zI (n9 : Int))), (3, .int (zI 1)), (0, .ref (B + 23)), (1, .ref (B + ru)), (2, .ref (B + a))]) hx hb wdX1_passOverTones_57 hl (by decide) rfl (fun ls hl => ?_)
        refine lv_iconst (v := zI 0) hx hb wdX1_passOverTones_59 rfl ?_
        refine lv_istore (lv' := [(9, .int (zI 0)), (8, .int (zI t0)), (7, .int (zI ((o.1 : Nat) : Int))), (6, .int (zI (x : Int))), (5, .int (zI (y : Int))), (4, .int (zI (n9 : Int))), (3, .int (zI 1)), (0, .ref (B + 23)), (1, .ref (B + ru)), (2, .ref (B + a))]) hx hb wdX1_passOverTones_60 hl (by decide) rfl (fun ls hl => ?_)
        refine lv_iconst (v := zI 0) hx hb wdX1_passOverTones_62 rfl ?_
        refine lv_istore (lv' := [(10, .int (zI 0)), (9, .int (zI 0)), (8, .int (zI t0)), (7, .int (zI ((o.1 : Nat) : Int))), (6, .int (zI (x : Int))), (5, .int (zI (y : Int))), (4, .int (zI (n9 : Int))), (3, .int (zI 1)), (0, .ref (B + 23)), (1, .ref (B + ru)), (2, .ref (B + a))]) hx hb wdX1_passOverTones_63 hl (by decide) rfl (fun ls hl => ?_)
        have hx01 : x = 0 ∨ x = 1 := by omega
        have hy01 : y = 0 ∨ y = 1 := by omega
        refine lp_X1_over_1  F (Nat.le_of_ble_eq_true rfl) (Nat.le_of_ble_eq_true rfl) (x := x) (y := y) (n9 := n9) hk hku hP hn12 hx01 hy01 hz5 hap hq3 hn9 (fun j tz cc Nm o1 H locs ls x0 x1 x2 x3 w hl => ?_) o.1 0 t0 0 M o (by omega) hC tpI_0 (by omega) Fr3.rf hU (by omega) (by omega) _ _ ls w (lv_sub hl [0, 1, 2, 3, 4, 5, 6, 7, 8, 9, 10] rfl)
        refine lv_iload hx hb wdX1_passOverTones_315 (lv_at hl 0 rfl) ?_
        exact e_i F w hr hlocks ⟨o1, cc, x1, rfl, x0, x2, x3⟩ wdX1_passOverTones_317
      · refine lv_iload hx hb wdX1_passOverTones_49 (lv_at hl 0 rfl) ?_
        refine lv_iconst (v := zI 1) hx hb wdX1_passOverTones_51 rfl ?_
        refine z_isub (z := (((o.1 : Nat) : Int) - 1)) hx hb wdX1_passOverTones_52 (by omega) ?_
        refine lv_goto (tgt := 57) hx hb wdX1_passOverTones_53 (by decide) ?_
        refine r_val (v := zI t0) (congrArg zI (by omega)) ?_
        refine lv_istore (lv' := [(8, .int (zI t0)), (7, .int (zI ((o.1 : Nat) : Int))), (6, .int (zI (x : Int))), (5, .int (zI (y : Int))), (4, .int (zI (n9 : Int))), (3, .int (zI 1)), (0, .ref (B + 23)), (1, .ref (B + ru)), (2, .ref (B + a))]) hx hb wdX1_passOverTones_57 hl (by decide) rfl (fun ls hl => ?_)
        refine lv_iconst (v := zI 0) hx hb wdX1_passOverTones_59 rfl ?_
        refine lv_istore (lv' := [(9, .int (zI 0)), (8, .int (zI t0)), (7, .int (zI ((o.1 : Nat) : Int))), (6, .int (zI (x : Int))), (5, .int (zI (y : Int))), (4, .int (zI (n9 : Int))), (3, .int (zI 1)), (0, .ref (B + 23)), (1, .ref (B + ru)), (2, .ref (B + a))]) hx hb wdX1_passOverTones_60 hl (by decide) rfl (fun ls hl => ?_)
        refine lv_iconst (v := zI 0) hx hb wdX1_passOverTones_62 rfl ?_
        refine lv_istore (lv' := [(10, .int (zI 0)), (9, .int (zI 0)), (8, .int (zI t0)), (7, .int (zI ((o.1 : Nat) : Int))), (6, .int (zI (x : Int))), (5, .int (zI (y : Int))), (4, .int (zI (n9 : Int))), (3, .int (zI 1)), (0, .ref (B + 23)), (1, .ref (B + ru)), (2, .ref (B + a))]) hx hb wdX1_passOverTones_63 hl (by decide) rfl (fun ls hl => ?_)
        have hx01 : x = 0 ∨ x = 1 := by omega
        have hy01 : y = 0 ∨ y = 1 := by omega
        refine lp_X1_over_1  F (Nat.le_of_ble_eq_true rfl) (Nat.le_of_ble_eq_true rfl) (x := x) (y := y) (n9 := n9) hk hku hP hn12 hx01 hy01 hz5 hap hq3 hn9 (fun j tz cc Nm o1 H locs ls x0 x1 x2 x3 w hl => ?_) o.1 0 t0 0 M o (by omega) hC tpI_0 (by omega) Fr3.rf hU (by omega) (by omega) _ _ ls w (lv_sub hl [0, 1, 2, 3, 4, 5, 6, 7, 8, 9, 10] rfl)
        refine lv_iload hx hb wdX1_passOverTones_315 (lv_at hl 0 rfl) ?_
        exact e_i F w hr hlocks ⟨o1, cc, x1, rfl, x0, x2, x3⟩ wdX1_passOverTones_317
    · rw [hMe] at w
      refine r_val (v := zI ((x : Nat) : Int)) (congrArg zI (by omega)) ?_
      refine lv_istore (lv' := [(6, .int (zI (x : Int))), (5, .int (zI (y : Int))), (4, .int (zI (n9 : Int))), (3, .int (zI 1)), (0, .ref (B + 23)), (1, .ref (B + ru)), (2, .ref (B + a))]) hx hb wdX1_passOverTones_36 hl (by decide) rfl (fun ls hl => ?_)
      refine lv_aload_n hx hb wdX1_passOverTones_38 rfl (lv_at hl 6 rfl) ?_
      refine f_9_0 F w (a := a) hk wtb_32 wdX1_passOverTones_39 ?_
      refine r_val (v := (zI ((o.1 : Nat) : Int))) (hW.1) ?_
      refine lv_istore (lv' := [(7, .int (zI ((o.1 : Nat) : Int))), (6, .int (zI (x : Int))), (5, .int (zI (y : Int))), (4, .int (zI (n9 : Int))), (3, .int (zI 1)), (0, .ref (B + 23)), (1, .ref (B + ru)), (2, .ref (B + a))]) hx hb wdX1_passOverTones_42 hl (by decide) rfl (fun ls hl => ?_)
      refine lv_iload hx hb wdX1_passOverTones_44 (lv_at hl 1 rfl) ?_
      refine z_if_eq (tgt := 56) hx hb (by omega) wdX1_passOverTones_46 (by decide) (fun c9 => ?_) (fun c9 => ?_)
      · refine lv_iconst (v := zI 0) hx hb wdX1_passOverTones_56 rfl ?_
        refine r_val (v := zI t0) (congrArg zI (by omega)) ?_
        refine lv_istore (lv' := [(8, .int (zI t0)), (7, .int (zI ((o.1 : Nat) : Int))), (6, .int (zI (x : Int))), (5, .int (zI (y : Int))), (4, .int (zI (n9 : Int))), (3, .int (zI 1)), (0, .ref (B + 23)), (1, .ref (B + ru)), (2, .ref (B + a))]) hx hb wdX1_passOverTones_57 hl (by decide) rfl (fun ls hl => ?_)
        refine lv_iconst (v := zI 0) hx hb wdX1_passOverTones_59 rfl ?_
        refine lv_istore (lv' := [(9, .int (zI 0)), (8, .int (zI t0)), (7, .int (zI ((o.1 : Nat) : Int))), (6, .int (zI (x : Int))), (5, .int (zI (y : Int))), (4, .int (zI (n9 : Int))), (3, .int (zI 1)), (0, .ref (B + 23)), (1, .ref (B + ru)), (2, .ref (B + a))]) hx hb wdX1_passOverTones_60 hl (by decide) rfl (fun ls hl => ?_)
        refine lv_iconst (v := zI 0) hx hb wdX1_passOverTones_62 rfl ?_
        refine lv_istore (lv' := [(10, .int (zI 0)), (9, .int (zI 0)), (8, .int (zI t0)), (7, .int (zI ((o.1 : Nat) : Int))), (6, .int (zI (x : Int))), (5, .int (zI (y : Int))), (4, .int (zI (n9 : Int))), (3, .int (zI 1)), (0, .ref (B + 23)), (1, .ref (B + ru)), (2, .ref (B + a))]) hx hb wdX1_passOverTones_63 hl (by decide) rfl (fun ls hl => ?_)
        have hx01 : x = 0 ∨ x = 1 := by omega
        have hy01 : y = 0 ∨ y = 1 := by omega
        refine lp_X1_over_1  F (Nat.le_of_ble_eq_true rfl) (Nat.le_of_ble_eq_true rfl) (x := x) (y := y) (n9 := n9) hk hku hP hn12 hx01 hy01 hz5 hap hq3 hn9 (fun j tz cc Nm o1 H locs ls x0 x1 x2 x3 w hl => ?_) o.1 0 t0 0 M o (by omega) hC tpI_0 (by omega) Fr3.rf hU (by omega) (by omega) _ _ ls w (lv_sub hl [0, 1, 2, 3, 4, 5, 6, 7, 8, 9, 10] rfl)
        refine lv_iload hx hb wdX1_passOverTones_315 (lv_at hl 0 rfl) ?_
        exact e_i F w hr hlocks ⟨o1, cc, x1, rfl, x0, x2, x3⟩ wdX1_passOverTones_317
      · refine lv_iload hx hb wdX1_passOverTones_49 (lv_at hl 0 rfl) ?_
        refine lv_iconst (v := zI 1) hx hb wdX1_passOverTones_51 rfl ?_
        refine z_isub (z := (((o.1 : Nat) : Int) - 1)) hx hb wdX1_passOverTones_52 (by omega) ?_
        refine lv_goto (tgt := 57) hx hb wdX1_passOverTones_53 (by decide) ?_
        refine r_val (v := zI t0) (congrArg zI (by omega)) ?_
        refine lv_istore (lv' := [(8, .int (zI t0)), (7, .int (zI ((o.1 : Nat) : Int))), (6, .int (zI (x : Int))), (5, .int (zI (y : Int))), (4, .int (zI (n9 : Int))), (3, .int (zI 1)), (0, .ref (B + 23)), (1, .ref (B + ru)), (2, .ref (B + a))]) hx hb wdX1_passOverTones_57 hl (by decide) rfl (fun ls hl => ?_)
        refine lv_iconst (v := zI 0) hx hb wdX1_passOverTones_59 rfl ?_
        refine lv_istore (lv' := [(9, .int (zI 0)), (8, .int (zI t0)), (7, .int (zI ((o.1 : Nat) : Int))), (6, .int (zI (x : Int))), (5, .int (zI (y : Int))), (4, .int (zI (n9 : Int))), (3, .int (zI 1)), (0, .ref (B + 23)), (1, .ref (B + ru)), (2, .ref (B + a))]) hx hb wdX1_passOverTones_60 hl (by decide) rfl (fun ls hl => ?_)
        refine lv_iconst (v := zI 0) hx hb wdX1_passOverTones_62 rfl ?_
        refine lv_istore (lv' := [(10, .int (zI 0)), (9, .int (zI 0)), (8, .int (zI t0)), (7, .int (zI ((o.1 : Nat) : Int))), (6, .int (zI (x : Int))), (5, .int (zI (y : Int))), (4, .int (zI (n9 : Int))), (3, .int (zI 1)), (0, .ref (B + 23)), (1, .ref (B + ru)), (2, .ref (B + a))]) hx hb wdX1_passOverTones_63 hl (by decide) rfl (fun ls hl => ?_)
        have hx01 : x = 0 ∨ x = 1 := by omega
        have hy01 : y = 0 ∨ y = 1 := by omega
        refine lp_X1_over_1  F (Nat.le_of_ble_eq_true rfl) (Nat.le_of_ble_eq_true rfl) (x := x) (y := y) (n9 := n9) hk hku hP hn12 hx01 hy01 hz5 hap hq3 hn9 (fun j tz cc Nm o1 H locs ls x0 x1 x2 x3 w hl => ?_) o.1 0 t0 0 M o (by omega) hC tpI_0 (by omega) Fr3.rf hU (by omega) (by omega) _ _ ls w (lv_sub hl [0, 1, 2, 3, 4, 5, 6, 7, 8, 9, 10] rfl)
        refine lv_iload hx hb wdX1_passOverTones_315 (lv_at hl 0 rfl) ?_
        exact e_i F w hr hlocks ⟨o1, cc, x1, rfl, x0, x2, x3⟩ wdX1_passOverTones_317
theorem wdX1_passOverTones_168 : decode cX1_passOverTones 168 = .ok (.aload_n 0, 1) := dq0 kk_42 (by decide +kernel)
theorem wdX1_passOverTones_169 : decode cX1_passOverTones 169 = .ok (.aload_n 2, 1) := dq0 kk_44 (by decide +kernel)
theorem wdX1_passOverTones_170 : decode cX1_passOverTones 170 = .ok (.iload 8, 2) := dqU kk_21 (by decide +kernel)
theorem wdX1_passOverTones_172 : decode cX1_passOverTones 172 = .ok (.iload 6, 2) := dqU kk_21 (by decide +kernel)
theorem wdX1_passOverTones_174 : decode cX1_passOverTones 174 = .ok (.iconst 1, 1) := dq0 kk_4 (by decide +kernel)
theorem wdX1_passOverTones_175 : decode cX1_passOverTones 175 = .ok (.invokevirtual 104, 3) := dqV kk_182 (by decide +kernel)
theorem wdX1_passOverTones_178 : decode cX1_passOverTones 178 = .ok (.istore 11, 2) := dqU kk_54 (by decide +kernel)
theorem wdX1_passOverTones_180 : decode cX1_passOverTones 180 = .ok (.goto 69, 3) := dqT kk_167 (by decide +kernel)
theorem wdX1_passOverTones_254 : decode cX1_passOverTones 254 = .ok (.iload 11, 2) := dqU kk_21 (by decide +kernel)
theorem wdX1_passOverTones_256 : decode cX1_passOverTones 256 = .ok (.ifCond .le 17, 3) := dqT kk_158 (by decide +kernel)
theorem wdX1_passOverTones_259 : decode cX1_passOverTones 259 = .ok (.iload 11, 2) := dqU kk_21 (by decide +kernel)
theorem wdX1_passOverTones_261 : decode cX1_passOverTones 261 = .ok (.aload_n 0, 1) := dq0 kk_42 (by decide +kernel)
theorem wdX1_passOverTones_262 : decode cX1_passOverTones 262 = .ok (.aload_n 2, 1) := dq0 kk_44 (by decide +kernel)
theorem wdX1_passOverTones_263 : decode cX1_passOverTones 263 = .ok (.iload 8, 2) := dqU kk_21 (by decide +kernel)
theorem wdX1_passOverTones_265 : decode cX1_passOverTones 265 = .ok (.iload 6, 2) := dqU kk_21 (by decide +kernel)
theorem wdX1_passOverTones_267 : decode cX1_passOverTones 267 = .ok (.invokevirtual 124, 3) := dqV kk_182 (by decide +kernel)
theorem wtk_X1_leave : Cond.code yX1_leave cX1_leave 7 (some .int) ∈ TB := tbm (tc4 (List.mem_of_getElem? (i := 88) rfl)) rfl
theorem wgc_X1_leave : GoodIn TB (cw yX1_leave cX1_leave 7 (some .int)) := goodIn_c2 wtk_X1_leave
theorem wtb_71 : Cond.methodLink "ToneLines$Doer" 124 yX1_leave ∈ TB := tbm (tc4 (List.mem_of_getElem? (i := 85) rfl)) rfl
theorem wtb_72 : Cond.instanceMethod yX1_leave ∈ TB := tbm (tc4 (List.mem_of_getElem? (i := 87) rfl)) rfl
theorem wtb_73 : Cond.selects "ToneLines$Doer" yX1_leave yX1_leave ∈ TB := tbp (List.mem_of_getElem? (i := 28) rfl) rfl
theorem wgv_X1_124 : GoodIn TB (wsV RX1 124 RX1 yX1_leave (cw yX1_leave cX1_leave 7 (some .int))) := goodIn_4 wtb_71 wtb_72 wtb_73 wtb_52 wgc_X1_leave
theorem whv_X1_leave : yX1_leave.cls = RX1 ∧ yX1_leave.cls ≠ "java/lang/invoke/MethodHandle" ∧ yX1_leave.cls ≠ "java/lang/invoke/VarHandle" ∧ (parseMethodDescriptor yX1_leave.desc).map (fun d => d.parameters.length) = some 3 := by decide +kernel
theorem wdX1_passOverTones_270 : decode cX1_passOverTones 270 = .ok (.iadd, 1) := dq0 kk_96 (by decide +kernel)
theorem wdX1_passOverTones_271 : decode cX1_passOverTones 271 = .ok (.istore 11, 2) := dqU kk_54 (by decide +kernel)
set_option maxRecDepth 4000 in
theorem lp_X1_over_2 {p : Program} {l : Launch} {e : Env} {s : State} {m : MethodId} {args : Array Value} {below : List Frame} {meth : Method} {c : Code} {D : va_G} {B : Nat} {cy : Nat → ClassId} {H0 : Heap} {Q : State → Prop} {M : Mem} {R : Room} {a ru q hv ed x y n9 : Nat} {o : Wo} {P : Nat → Int} {t0 : Int} (F : CallFix p m c cX1_passOverTones 12 s args TB RX1) (hR1 : 3 ≤ R.frames) (hR2 : 77 ≤ R.locals) (hk : kd a = (9, 0, 0)) (hku : kd ru = (4, 0, 0)) (hP : okP P) (hn12 : o.1 ≤ 12) (hx01 : x = 0 ∨ x = 1) (hy01 : y = 0 ∨ y = 1) (hz5 : P 5 = -2 ∨ (0 ≤ P 5 ∧ P 5 ≤ 6)) (hap : ru + 1 < a ∨ a + 2 < ru)  (kk : ∀ (j : Nat) (tz : Int) (cc : Nat) (Nm : Mem) (o1 : Wo) (H : Heap) (locs : List Loc) (ls : Array Slot), (CW Nm a q hv ed o1) → (tpF P 2 x y n9 q hv ed o.1 t0 o = (o1, cc)) → (Fr3 Nm M a) → (cc ≤ 1884) → Wd D B cy s H0 Nm H locs → lv_has ls 12 [(9, .int (zI (cc : Int)))] → W p l e R s m args below meth c H locs 0 0 Q (F0 m 315 ls [])) : ∀ (f : Nat) (j : Nat) (tz : Int) (cc : Nat) (Nm : Mem) (o1 : Wo), (j ≤ o.1) → (CW Nm a q hv ed o1) → (tpI P 2 x y n9 q hv ed o.1 t0 o (o.1 - j) tz o1 cc) → (cc ≤ 157 * j) → (Fr3 Nm M a) → (isU Nm ru P) → (-2 - (j : Int) ≤ tz ∧ tz ≤ 12 + (j : Int)) → (o.1 ≤ j + f) → ∀ (H : Heap) (locs : List Loc) (ls : Array Slot), Wd D B cy s H0 Nm H locs → lv_has ls 12 [(10, .int (zI (j : Int))), (9, .int (zI (cc : Int))), (8, .int (zI tz)), (7, .int (zI ((o.1 : Nat) : Int))), (6, .int (zI (x : Int))), (5, .int (zI (y : Int))), (4, .int (zI (P 3))), (3, .int (zI 2)), (0, .ref (B + 23)), (1, .ref (B + ru)), (2, .ref (B + a))] → W p l e R s m args below meth c H locs 0 0 Q (F0 m 65 ls []) := by
  have hx := F.1
  have hb := F.2.1
  have hP0 := hP 0 (by decide)
  have hP1 := hP 1 (by decide)
  have hP2 := hP 2 (by decide)
  have hP3 := hP 3 (by decide)
  have hP4 := hP 4 (by decide)
  have hP5 := hP 5 (by decide)
  have hP6 := hP 6 (by decide)
  have hP7 := hP 7 (by decide)
  intro f
  induction f with
  | zero =>
    intro j tz cc Nm o1 i0 i1 i2 i3 i4 i5 i6 hf H locs ls w hl
    have hW1 := i1.1
    have hwf1 := i1.wf
    have hKL1 := hwf1.2.2.2.2
    have hn1 := hwf1.1
    refine lv_iload hx hb wdX1_passOverTones_65 (lv_at hl 0 rfl) ?_
    refine lv_iload hx hb wdX1_passOverTones_67 (lv_at hl 3 rfl) ?_
    refine z_icmp_ge (tgt := 315) hx hb (by omega) (by omega) wdX1_passOverTones_69 (by decide) (fun c1 => ?_) (fun c1 => False.elim (by omega))
    exact kk j tz cc Nm o1 _ _ ls i1 (tpI_e i2 (by omega)) i4 (by omega) w (lv_sub hl [1] rfl)
  | succ f ih =>
    intro j tz cc Nm o1 i0 i1 i2 i3 i4 i5 i6 hf H locs ls w hl
    have hW1 := i1.1
    have hwf1 := i1.wf
    have hKL1 := hwf1.2.2.2.2
    have hn1 := hwf1.1
    refine lv_iload hx hb wdX1_passOverTones_65 (lv_at hl 0 rfl) ?_
    refine lv_iload hx hb wdX1_passOverTones_67 (lv_at hl 3 rfl) ?_
    refine z_icmp_ge (tgt := 315) hx hb (by omega) (by omega) wdX1_passOverTones_69 (by decide) (fun c1 => ?_) (fun c1 => ?_)
    · exact kk j tz cc Nm o1 _ _ ls i1 (tpI_e i2 (by omega)) i4 (by omega) w (lv_sub hl [1] rfl)
    · refine lv_aload_n hx hb wdX1_passOverTones_72 rfl (lv_at hl 10 rfl) ?_
      refine lv_iload hx hb wdX1_passOverTones_73 (lv_at hl 2 rfl) ?_
      refine k_Vi F w (As := [.int (zI tz)]) (rest := []) (a := a) (kd_lt (a := a) hk (by decide)) (sh_9 hk _ _) rfl (s_X9_hasTone hk hW1 hwf1 (by omega)) wgv_X1_47 whv_X9_hasTone ⟨(by omega), (by omega)⟩ hl.1 rfl (Nat.le_of_ble_eq_true rfl) ⟨Nat.zero_le _, Nat.zero_le _⟩ wdX1_passOverTones_75 (fun r Ma3 H locs hp w => ?_)
      rcases hp with ⟨⟨k2, rfl, hk2, rfl⟩ | ⟨nk2, rfl⟩, hMe⟩
      · rw [hMe] at w
        refine z_if_eq (tgt := 315) hx hb (by omega) wdX1_passOverTones_78 (by decide) (fun c4 => False.elim (by omega)) (fun c4 => ?_)
        refine lv_iconst (v := zI 0) hx hb wdX1_passOverTones_81 rfl ?_
        refine lv_istore (lv' := [(11, .int (zI 0)), (10, .int (zI (j : Int))), (9, .int (zI (cc : Int))), (8, .int (zI (k2 : Int))), (7, .int (zI ((o.1 : Nat) : Int))), (6, .int (zI (x : Int))), (5, .int (zI (y : Int))), (4, .int (zI (P 3))), (3, .int (zI 2)), (0, .ref (B + 23)), (1, .ref (B + ru)), (2, .ref (B + a))]) hx hb wdX1_passOverTones_82 hl (by decide) rfl (fun ls hl => ?_)
        refine lv_aload_n hx hb wdX1_passOverTones_84 rfl (lv_at hl 10 rfl) ?_
        refine lv_aload_n hx hb wdX1_passOverTones_85 rfl (lv_at hl 11 rfl) ?_
        refine lv_iload hx hb wdX1_passOverTones_86 (lv_at hl 3 rfl) ?_
        refine k_Vi F w (As := [.int (zI (k2 : Int))]) (rest := [.ref (B + ru)]) (a := a) (kd_lt (a := a) hk (by decide)) (sh_9 hk _ _) rfl (s_X9_kindOf hk hW1 hwf1 (by omega)) wgv_X1_94 whv_X9_kindOf ⟨(by omega), (by omega)⟩ hl.1 rfl (Nat.le_of_ble_eq_true rfl) ⟨Nat.zero_le _, Nat.zero_le _⟩ wdX1_passOverTones_88 (fun r Ma6 H locs hp w => ?_)
        rcases hp with ⟨⟨k5, ek5, hk5, rfl⟩ | ⟨nk5, rfl⟩, hMe⟩
        · obtain rfl : k2 = k5 := by omega
          rw [hMe] at w
          have gk5 := (hKL1 k2 (by omega)).1
          refine k_Vi F w (As := [.int (zI (((o1.2.1 k2) : Nat) : Int))]) (rest := []) (a := ru) (kd_lt (a := ru) hku (by decide)) (sh_4 hku _ _) rfl (s_X4_isOf hku i5 hP (z := (((o1.2.1 k2) : Nat) : Int)) (by omega)) wgv_X1_97 whv_X4_isOf ⟨(by omega), (by omega)⟩ hl.1 rfl (Nat.le_of_ble_eq_true rfl) ⟨Nat.zero_le _, Nat.zero_le _⟩ wdX1_passOverTones_91 (fun r Ma8 H locs hp w => ?_)
          rcases hp with ⟨⟨hof7, rfl⟩ | ⟨hof7, rfl⟩, hMe⟩
          · rw [hMe] at w
            refine z_if_eq (tgt := 249) hx hb (by omega) wdX1_passOverTones_94 (by decide) (fun c9 => False.elim (by omega)) (fun c9 => ?_)
            refine lv_aload_n hx hb wdX1_passOverTones_97 rfl (lv_at hl 10 rfl) ?_
            refine lv_aload_n hx hb wdX1_passOverTones_98 rfl (lv_at hl 11 rfl) ?_
            refine lv_iload hx hb wdX1_passOverTones_99 (lv_at hl 3 rfl) ?_
            refine k_Vi F w (As := [.ref (B + a), .int (zI (k2 : Int))]) (rest := []) (a := ru) (kd_lt (a := ru) hku (by decide)) (sh_4 hku _ _) rfl (s_X4_admits hk i1 hku i5 hP (t := k2) hk2 hz5) wgv_X1_100 whv_X4_admits ⟨(by omega), (by omega)⟩ hl.1 rfl (Nat.le_of_ble_eq_true rfl) ⟨Nat.zero_le _, Nat.zero_le _⟩ wdX1_passOverTones_101 (fun r Ma11 H locs hp w => ?_)
            rcases hp with ⟨⟨had10, rfl⟩ | ⟨had10, rfl⟩, hMe⟩
            · rw [hMe] at w
              refine z_if_eq (tgt := 249) hx hb (by omega) wdX1_passOverTones_104 (by decide) (fun c12 => False.elim (by omega)) (fun c12 => ?_)
              refine lv_iload_n hx hb wdX1_passOverTones_107 rfl (lv_at hl 8 rfl) ?_
              rcases (show (2 : Int) = 2 by omega) with c13
              refine r_val (v := zI 2) (congrArg zI c13) ?_
              refine lv_tableIn (tgt := 168) hx hb wdX1_passOverTones_108 (by decide) (by decide) (off := 60) rfl (by decide) ?_
              refine lv_aload_n hx hb wdX1_passOverTones_168 rfl (lv_at hl 9 rfl) ?_
              refine lv_aload_n hx hb wdX1_passOverTones_169 rfl (lv_at hl 11 rfl) ?_
              refine lv_iload hx hb wdX1_passOverTones_170 (lv_at hl 3 rfl) ?_
              refine lv_iload hx hb wdX1_passOverTones_172 (lv_at hl 5 rfl) ?_
              refine lv_iconst (v := zI 1) hx hb wdX1_passOverTones_174 rfl ?_
              refine k_Vi F w (As := [.ref (B + a), .int (zI (k2 : Int)), .int (zI (x : Int)), .int (zI 1)]) (rest := []) (a := 23) (kd_lt (a := 23) (show kd 23 = (1, 0, 0) from rfl) (by decide)) (sh_1 rfl _ _) rfl (u_spread hk i1 (t := k2) hk2 (x := x) (n9 := 1) hx01 (by omega)) wgv_X1_104 whv_X1_spread ⟨(by omega), (by omega)⟩ hl.1 rfl (Nat.le_of_ble_eq_true rfl) ⟨Nat.zero_le _, Nat.zero_le _⟩ wdX1_passOverTones_175 (fun r Ma15 H locs hp w => ?_)
              rcases hp with ⟨oT14, dT14, eT14, rfl, hCT14, hFT14, hdT14⟩
              refine lv_istore (lv' := [(11, .int (zI (dT14 : Int))), (10, .int (zI (j : Int))), (9, .int (zI (cc : Int))), (8, .int (zI (k2 : Int))), (7, .int (zI ((o.1 : Nat) : Int))), (6, .int (zI (x : Int))), (5, .int (zI (y : Int))), (4, .int (zI (P 3))), (3, .int (zI 2)), (0, .ref (B + 23)), (1, .ref (B + ru)), (2, .ref (B + a))]) hx hb wdX1_passOverTones_178 hl (by decide) rfl (fun ls hl => ?_)
              refine lv_goto (tgt := 249) hx hb wdX1_passOverTones_180 (by decide) ?_
              refine lv_iload_n hx hb wdX1_passOverTones_249 rfl (lv_at hl 8 rfl) ?_
              refine lv_iconst (v := zI 2) hx hb wdX1_passOverTones_250 rfl ?_
              refine z_icmp_ne (tgt := 273) hx hb (by omega) (by omega) wdX1_passOverTones_251 (by decide) (fun c16 => False.elim (by omega)) (fun c16 => ?_)
              refine lv_iload hx hb wdX1_passOverTones_254 (lv_at hl 0 rfl) ?_
              refine z_if_le (tgt := 273) hx hb (by omega) wdX1_passOverTones_256 (by decide) (fun c17 => ?_) (fun c17 => ?_)
              · refine lv_iload hx hb wdX1_passOverTones_273 (lv_at hl 2 rfl) ?_
                refine lv_iload hx hb wdX1_passOverTones_275 (lv_at hl 0 rfl) ?_
                refine z_iadd (z := (((cc + dT14) : Nat) : Int)) hx hb wdX1_passOverTones_277 (by omega) ?_
                refine lv_istore (lv' := [(9, .int (zI (((cc + dT14) : Nat) : Int))), (11, .int (zI (dT14 : Int))), (10, .int (zI (j : Int))), (8, .int (zI (k2 : Int))), (7, .int (zI ((o.1 : Nat) : Int))), (6, .int (zI (x : Int))), (5, .int (zI (y : Int))), (4, .int (zI (P 3))), (3, .int (zI 2)), (0, .ref (B + 23)), (1, .ref (B + ru)), (2, .ref (B + a))]) hx hb wdX1_passOverTones_278 hl (by decide) rfl (fun ls hl => ?_)
                refine lv_iload hx hb wdX1_passOverTones_280 (lv_at hl 3 rfl) ?_
                refine lv_iload hx hb wdX1_passOverTones_282 (lv_at hl 5 rfl) ?_
                refine z_if_eq (tgt := 291) hx hb (by omega) wdX1_passOverTones_284 (by decide) (fun c18 => ?_) (fun c18 => ?_)
                · refine lv_iload_n hx hb wdX1_passOverTones_291 rfl (lv_at hl 8 rfl) ?_
                  refine lv_iconst (v := zI 5) hx hb wdX1_passOverTones_292 rfl ?_
                  refine z_icmp_ne (tgt := 305) hx hb (by omega) (by omega) wdX1_passOverTones_293 (by decide) (fun c19 => ?_) (fun c19 => False.elim (by omega))
                  refine lv_iconst (v := zI 1) hx hb wdX1_passOverTones_305 rfl ?_
                  refine z_iadd (z := (((k2 + 1) : Nat) : Int)) hx hb wdX1_passOverTones_306 (by omega) ?_
                  have hnb := nx_b 2 x dT14 (k2 : Int)
                  refine r_val (v := zI (nxT 2 x dT14 (k2 : Int))) (congrArg zI (by rw [← nx_r (v := 2) (cc := dT14) (show x ≠ 1 by omega) (by omega)]; omega)) ?_
                  refine lv_istore (lv' := [(8, .int (zI (nxT 2 x dT14 (k2 : Int)))), (9, .int (zI (((cc + dT14) : Nat) : Int))), (11, .int (zI (dT14 : Int))), (10, .int (zI (j : Int))), (7, .int (zI ((o.1 : Nat) : Int))), (6, .int (zI (x : Int))), (5, .int (zI (y : Int))), (4, .int (zI (P 3))), (3, .int (zI 2)), (0, .ref (B + 23)), (1, .ref (B + ru)), (2, .ref (B + a))]) hx hb wdX1_passOverTones_307 hl (by decide) rfl (fun ls hl => ?_)
                  refine z_iinc (v := (((j + 1) : Nat) : Int)) (lv' := [(10, .int (zI (((j + 1) : Nat) : Int))), (8, .int (zI (nxT 2 x dT14 (k2 : Int)))), (9, .int (zI (((cc + dT14) : Nat) : Int))), (11, .int (zI (dT14 : Int))), (7, .int (zI ((o.1 : Nat) : Int))), (6, .int (zI (x : Int))), (5, .int (zI (y : Int))), (4, .int (zI (P 3))), (3, .int (zI 2)), (0, .ref (B + 23)), (1, .ref (B + ru)), (2, .ref (B + a))]) hx hb wdX1_passOverTones_309 hl (k := 3) rfl (by omega) (by decide) rfl (fun ls hl => ?_)
                  refine lv_goto (tgt := 65) hx hb wdX1_passOverTones_312 (by decide) ?_
                  exact ih (j + 1) (nxT 2 x dT14 (k2 : Int)) (cc + dT14) Ma15 oT14 (by omega) hCT14 (by have h9 := tpI_s (f := o.1 - (j + 1)) (by rw [show o.1 - (j + 1) + 1 = o.1 - j by omega]; exact i2) hk2 (((trT_y ⟨hof7, had10⟩).trans (trV_2 (x := x) (y := y) (n9 := n9) (q := q) (ed := ed))).trans (shF_z eT14 (by omega))); exact h9) (by omega) (Fr3.tr i4 hFT14) (isU.fr i5 (hFT14.1 (ru + 1) (by omega) (by omega) (by omega))) (by omega) (by omega) _ _ ls w (lv_sub hl [0, 2, 1, 4, 5, 6, 7, 8, 9, 10, 11] rfl)
                · refine lv_iconst (v := zI (-1)) hx hb wdX1_passOverTones_287 rfl ?_
                  refine lv_goto (tgt := 306) hx hb wdX1_passOverTones_288 (by decide) ?_
                  refine z_iadd (z := ((k2 : Int) + (-1))) hx hb wdX1_passOverTones_306 (by omega) ?_
                  have hnb := nx_b 2 x dT14 (k2 : Int)
                  refine r_val (v := zI (nxT 2 x dT14 (k2 : Int))) (congrArg zI (by rw [← nx_l (v := 2) (cc := dT14) (show x = 1 by omega)]; omega)) ?_
                  refine lv_istore (lv' := [(8, .int (zI (nxT 2 x dT14 (k2 : Int)))), (9, .int (zI (((cc + dT14) : Nat) : Int))), (11, .int (zI (dT14 : Int))), (10, .int (zI (j : Int))), (7, .int (zI ((o.1 : Nat) : Int))), (6, .int (zI (x : Int))), (5, .int (zI (y : Int))), (4, .int (zI (P 3))), (3, .int (zI 2)), (0, .ref (B + 23)), (1, .ref (B + ru)), (2, .ref (B + a))]) hx hb wdX1_passOverTones_307 hl (by decide) rfl (fun ls hl => ?_)
                  refine z_iinc (v := (((j + 1) : Nat) : Int)) (lv' := [(10, .int (zI (((j + 1) : Nat) : Int))), (8, .int (zI (nxT 2 x dT14 (k2 : Int)))), (9, .int (zI (((cc + dT14) : Nat) : Int))), (11, .int (zI (dT14 : Int))), (7, .int (zI ((o.1 : Nat) : Int))), (6, .int (zI (x : Int))), (5, .int (zI (y : Int))), (4, .int (zI (P 3))), (3, .int (zI 2)), (0, .ref (B + 23)), (1, .ref (B + ru)), (2, .ref (B + a))]) hx hb wdX1_passOverTones_309 hl (k := 3) rfl (by omega) (by decide) rfl (fun ls hl => ?_)
                  refine lv_goto (tgt := 65) hx hb wdX1_passOverTones_312 (by decide) ?_
                  exact ih (j + 1) (nxT 2 x dT14 (k2 : Int)) (cc + dT14) Ma15 oT14 (by omega) hCT14 (by have h9 := tpI_s (f := o.1 - (j + 1)) (by rw [show o.1 - (j + 1) + 1 = o.1 - j by omega]; exact i2) hk2 (((trT_y ⟨hof7, had10⟩).trans (trV_2 (x := x) (y := y) (n9 := n9) (q := q) (ed := ed))).trans (shF_z eT14 (by omega))); exact h9) (by omega) (Fr3.tr i4 hFT14) (isU.fr i5 (hFT14.1 (ru + 1) (by omega) (by omega) (by omega))) (by omega) (by omega) _ _ ls w (lv_sub hl [0, 2, 1, 4, 5, 6, 7, 8, 9, 10, 11] rfl)
              · refine lv_iload hx hb wdX1_passOverTones_259 (lv_at hl 0 rfl) ?_
                refine lv_aload_n hx hb wdX1_passOverTones_261 rfl (lv_at hl 9 rfl) ?_
                refine lv_aload_n hx hb wdX1_passOverTones_262 rfl (lv_at hl 11 rfl) ?_
                refine lv_iload hx hb wdX1_passOverTones_263 (lv_at hl 3 rfl) ?_
                refine lv_iload hx hb wdX1_passOverTones_265 (lv_at hl 5 rfl) ?_
                refine k_Vi F w (As := [.ref (B + a), .int (zI (k2 : Int)), .int (zI (x : Int))]) (rest := [.int (zI (dT14 : Int))]) (a := 23) (kd_lt (a := 23) (show kd 23 = (1, 0, 0) from rfl) (by decide)) (sh_1 rfl _ _) rfl (u_leave hk hCT14 (t := k2) (x := x) (by rw [spF_n eT14]; exact hk2) hx01 (spF_nz eT14 (by omega))) wgv_X1_124 whv_X1_leave ⟨(by omega), (by omega)⟩ hl.1 rfl (Nat.le_of_ble_eq_true rfl) ⟨Nat.zero_le _, Nat.zero_le _⟩ wdX1_passOverTones_267 (fun r Ma21 H locs hp w => ?_)
                rcases hp with ⟨oV20, dV20, eV20, rfl, hCV20, hFV20, hdV20⟩
                refine z_iadd (z := (((dT14 + dV20) : Nat) : Int)) hx hb wdX1_passOverTones_270 (by omega) ?_
                refine lv_istore (lv' := [(11, .int (zI (((dT14 + dV20) : Nat) : Int))), (10, .int (zI (j : Int))), (9, .int (zI (cc : Int))), (8, .int (zI (k2 : Int))), (7, .int (zI ((o.1 : Nat) : Int))), (6, .int (zI (x : Int))), (5, .int (zI (y : Int))), (4, .int (zI (P 3))), (3, .int (zI 2)), (0, .ref (B + 23)), (1, .ref (B + ru)), (2, .ref (B + a))]) hx hb wdX1_passOverTones_271 hl (by decide) rfl (fun ls hl => ?_)
                refine lv_iload hx hb wdX1_passOverTones_273 (lv_at hl 2 rfl) ?_
                refine lv_iload hx hb wdX1_passOverTones_275 (lv_at hl 0 rfl) ?_
                refine z_iadd (z := (((cc + (dT14 + dV20)) : Nat) : Int)) hx hb wdX1_passOverTones_277 (by omega) ?_
                refine lv_istore (lv' := [(9, .int (zI (((cc + (dT14 + dV20)) : Nat) : Int))), (11, .int (zI (((dT14 + dV20) : Nat) : Int))), (10, .int (zI (j : Int))), (8, .int (zI (k2 : Int))), (7, .int (zI ((o.1 : Nat) : Int))), (6, .int (zI (x : Int))), (5, .int (zI (y : Int))), (4, .int (zI (P 3))), (3, .int (zI 2)), (0, .ref (B + 23)), (1, .ref (B + ru)), (2, .ref (B + a))]) hx hb wdX1_passOverTones_278 hl (by decide) rfl (fun ls hl => ?_)
                refine lv_iload hx hb wdX1_passOverTones_280 (lv_at hl 3 rfl) ?_
                refine lv_iload hx hb wdX1_passOverTones_282 (lv_at hl 5 rfl) ?_
                refine z_if_eq (tgt := 291) hx hb (by omega) wdX1_passOverTones_284 (by decide) (fun c22 => ?_) (fun c22 => ?_)
                · refine lv_iload_n hx hb wdX1_passOverTones_291 rfl (lv_at hl 8 rfl) ?_
                  refine lv_iconst (v := zI 5) hx hb wdX1_passOverTones_292 rfl ?_
                  refine z_icmp_ne (tgt := 305) hx hb (by omega) (by omega) wdX1_passOverTones_293 (by decide) (fun c23 => ?_) (fun c23 => False.elim (by omega))
                  refine lv_iconst (v := zI 1) hx hb wdX1_passOverTones_305 rfl ?_
                  refine z_iadd (z := (((k2 + 1) : Nat) : Int)) hx hb wdX1_passOverTones_306 (by omega) ?_
                  have hnb := nx_b 2 x (dT14 + dV20) (k2 : Int)
                  refine r_val (v := zI (nxT 2 x (dT14 + dV20) (k2 : Int))) (congrArg zI (by rw [← nx_r (v := 2) (cc := (dT14 + dV20)) (show x ≠ 1 by omega) (by omega)]; omega)) ?_
                  refine lv_istore (lv' := [(8, .int (zI (nxT 2 x (dT14 + dV20) (k2 : Int)))), (9, .int (zI (((cc + (dT14 + dV20)) : Nat) : Int))), (11, .int (zI (((dT14 + dV20) : Nat) : Int))), (10, .int (zI (j : Int))), (7, .int (zI ((o.1 : Nat) : Int))), (6, .int (zI (x : Int))), (5, .int (zI (y : Int))), (4, .int (zI (P 3))), (3, .int (zI 2)), (0, .ref (B + 23)), (1, .ref (B + ru)), (2, .ref (B + a))]) hx hb wdX1_passOverTones_307 hl (by decide) rfl (fun ls hl => ?_)
                  refine z_iinc (v := (((j + 1) : Nat) : Int)) (lv' := [(10, .int (zI (((j + 1) : Nat) : Int))), (8, .int (zI (nxT 2 x (dT14 + dV20) (k2 : Int)))), (9, .int (zI (((cc + (dT14 + dV20)) : Nat) : Int))), (11, .int (zI (((dT14 + dV20) : Nat) : Int))), (7, .int (zI ((o.1 : Nat) : Int))), (6, .int (zI (x : Int))), (5, .int (zI (y : Int))), (4, .int (zI (P 3))), (3, .int (zI 2)), (0, .ref (B + 23)), (1, .ref (B + ru)), (2, .ref (B + a))]) hx hb wdX1_passOverTones_309 hl (k := 3) rfl (by omega) (by decide) rfl (fun ls hl => ?_)
                  refine lv_goto (tgt := 65) hx hb wdX1_passOverTones_312 (by decide) ?_
                  exact ih (j + 1) (nxT 2 x (dT14 + dV20) (k2 : Int)) (cc + (dT14 + dV20)) Ma21 oV20 (by omega) hCV20 (by have h9 := tpI_s (f := o.1 - (j + 1)) (by rw [show o.1 - (j + 1) + 1 = o.1 - j by omega]; exact i2) hk2 (((trT_y ⟨hof7, had10⟩).trans (trV_2 (x := x) (y := y) (n9 := n9) (q := q) (ed := ed))).trans (shF_1 eT14 (by omega) eV20)); exact h9) (by omega) (Fr3.tr i4 (Fr3.tr hFT14 hFV20)) (isU.fr i5 ((hFV20.1 (ru + 1) (by omega) (by omega) (by omega)).trans (hFT14.1 (ru + 1) (by omega) (by omega) (by omega)))) (by omega) (by omega) _ _ ls w (lv_sub hl [0, 2, 1, 4, 5, 6, 7, 8, 9, 10, 11] rfl)
                · refine lv_iconst (v := zI (-1)) hx hb wdX1_passOverTones_287 rfl ?_
                  refine lv_goto (tgt := 306) hx hb wdX1_passOverTones_288 (by decide) ?_
                  refine z_iadd (z := ((k2 : Int) + (-1))) hx hb wdX1_passOverTones_306 (by omega) ?_
                  have hnb := nx_b 2 x (dT14 + dV20) (k2 : Int)
                  refine r_val (v := zI (nxT 2 x (dT14 + dV20) (k2 : Int))) (congrArg zI (by rw [← nx_l (v := 2) (cc := (dT14 + dV20)) (show x = 1 by omega)]; omega)) ?_
                  refine lv_istore (lv' := [(8, .int (zI (nxT 2 x (dT14 + dV20) (k2 : Int)))), (9, .int (zI (((cc + (dT14 + dV20)) : Nat) : Int))), (11, .int (zI (((dT14 + dV20) : Nat) : Int))), (10, .int (zI (j : Int))), (7, .int (zI ((o.1 : Nat) : Int))), (6, .int (zI (x : Int))), (5, .int (zI (y : Int))), (4, .int (zI (P 3))), (3, .int (zI 2)), (0, .ref (B + 23)), (1, .ref (B + ru)), (2, .ref (B + a))]) hx hb wdX1_passOverTones_307 hl (by decide) rfl (fun ls hl => ?_)
                  refine z_iinc (v := (((j + 1) : Nat) : Int)) (lv' := [(10, .int (zI (((j + 1) : Nat) : Int))), (8, .int (zI (nxT 2 x (dT14 + dV20) (k2 : Int)))), (9, .int (zI (((cc + (dT14 + dV20)) : Nat) : Int))), (11, .int (zI (((dT14 + dV20) : Nat) : Int))), (7, .int (zI ((o.1 : Nat) : Int))), (6, .int (zI (x : Int))), (5, .int (zI (y : Int))), (4, .int (zI (P 3))), (3, .int (zI 2)), (0, .ref (B + 23)), (1, .ref (B + ru)), (2, .ref (B + a))]) hx hb wdX1_passOverTones_309 hl (k := 3) rfl (by omega) (by decide) rfl (fun ls hl => ?_)
                  refine lv_goto (tgt := 65) hx hb wdX1_passOverTones_312 (by decide) ?_
                  exact ih (j + 1) (nxT 2 x (dT14 + dV20) (k2 : Int)) (cc + (dT14 + dV20)) Ma21 oV20 (by omega) hCV20 (by have h9 := tpI_s (f := o.1 - (j + 1)) (by rw [show o.1 - (j + 1) + 1 = o.1 - j by omega]; exact i2) hk2 (((trT_y ⟨hof7, had10⟩).trans (trV_2 (x := x) (y := y) (n9 := n9) (q := q) (ed := ed))).trans (shF_1 eT14 (by omega) eV20)); exact h9) (by omega) (Fr3.tr i4 (Fr3.tr hFT14 hFV20)) (isU.fr i5 ((hFV20.1 (ru + 1) (by omega) (by omega) (by omega)).trans (hFT14.1 (ru + 1) (by omega) (by omega) (by omega)))) (by omega) (by omega) _ _ ls w (lv_sub hl [0, 2, 1, 4, 5, 6, 7, 8, 9, 10, 11] rfl)
            · rw [hMe] at w
              refine z_if_eq (tgt := 249) hx hb (by omega) wdX1_passOverTones_104 (by decide) (fun c24 => ?_) (fun c24 => False.elim (by omega))
              refine lv_iload_n hx hb wdX1_passOverTones_249 rfl (lv_at hl 8 rfl) ?_
              refine lv_iconst (v := zI 2) hx hb wdX1_passOverTones_250 rfl ?_
              refine z_icmp_ne (tgt := 273) hx hb (by omega) (by omega) wdX1_passOverTones_251 (by decide) (fun c25 => False.elim (by omega)) (fun c25 => ?_)
              refine lv_iload hx hb wdX1_passOverTones_254 (lv_at hl 0 rfl) ?_
              refine z_if_le (tgt := 273) hx hb (by omega) wdX1_passOverTones_256 (by decide) (fun c26 => ?_) (fun c26 => False.elim (by omega))
              refine lv_iload hx hb wdX1_passOverTones_273 (lv_at hl 2 rfl) ?_
              refine lv_iload hx hb wdX1_passOverTones_275 (lv_at hl 0 rfl) ?_
              refine z_iadd (z := (((cc + 0) : Nat) : Int)) hx hb wdX1_passOverTones_277 (by omega) ?_
              refine lv_istore (lv' := [(9, .int (zI (((cc + 0) : Nat) : Int))), (11, .int (zI 0)), (10, .int (zI (j : Int))), (8, .int (zI (k2 : Int))), (7, .int (zI ((o.1 : Nat) : Int))), (6, .int (zI (x : Int))), (5, .int (zI (y : Int))), (4, .int (zI (P 3))), (3, .int (zI 2)), (0, .ref (B + 23)), (1, .ref (B + ru)), (2, .ref (B + a))]) hx hb wdX1_passOverTones_278 hl (by decide) rfl (fun ls hl => ?_)
              refine lv_iload hx hb wdX1_passOverTones_280 (lv_at hl 3 rfl) ?_
              refine lv_iload hx hb wdX1_passOverTones_282 (lv_at hl 5 rfl) ?_
              refine z_if_eq (tgt := 291) hx hb (by omega) wdX1_passOverTones_284 (by decide) (fun c27 => ?_) (fun c27 => ?_)
              · refine lv_iload_n hx hb wdX1_passOverTones_291 rfl (lv_at hl 8 rfl) ?_
                refine lv_iconst (v := zI 5) hx hb wdX1_passOverTones_292 rfl ?_
                refine z_icmp_ne (tgt := 305) hx hb (by omega) (by omega) wdX1_passOverTones_293 (by decide) (fun c28 => ?_) (fun c28 => False.elim (by omega))
                refine lv_iconst (v := zI 1) hx hb wdX1_passOverTones_305 rfl ?_
                refine z_iadd (z := (((k2 + 1) : Nat) : Int)) hx hb wdX1_passOverTones_306 (by omega) ?_
                have hnb := nx_b 2 x 0 (k2 : Int)
                refine r_val (v := zI (nxT 2 x 0 (k2 : Int))) (congrArg zI (by rw [← nx_r (v := 2) (cc := 0) (show x ≠ 1 by omega) (by omega)]; omega)) ?_
                refine lv_istore (lv' := [(8, .int (zI (nxT 2 x 0 (k2 : Int)))), (9, .int (zI (((cc + 0) : Nat) : Int))), (11, .int (zI 0)), (10, .int (zI (j : Int))), (7, .int (zI ((o.1 : Nat) : Int))), (6, .int (zI (x : Int))), (5, .int (zI (y : Int))), (4, .int (zI (P 3))), (3, .int (zI 2)), (0, .ref (B + 23)), (1, .ref (B + ru)), (2, .ref (B + a))]) hx hb wdX1_passOverTones_307 hl (by decide) rfl (fun ls hl => ?_)
                refine z_iinc (v := (((j + 1) : Nat) : Int)) (lv' := [(10, .int (zI (((j + 1) : Nat) : Int))), (8, .int (zI (nxT 2 x 0 (k2 : Int)))), (9, .int (zI (((cc + 0) : Nat) : Int))), (11, .int (zI 0)), (7, .int (zI ((o.1 : Nat) : Int))), (6, .int (zI (x : Int))), (5, .int (zI (y : Int))), (4, .int (zI (P 3))), (3, .int (zI 2)), (0, .ref (B + 23)), (1, .ref (B + ru)), (2, .ref (B + a))]) hx hb wdX1_passOverTones_309 hl (k := 3) rfl (by omega) (by decide) rfl (fun ls hl => ?_)
                refine lv_goto (tgt := 65) hx hb wdX1_passOverTones_312 (by decide) ?_
                rw [show cc = cc + 0 from rfl] at hl
                exact ih (j + 1) (nxT 2 x 0 (k2 : Int)) (cc + 0) Nm o1 (by omega) i1 (by have h9 := tpI_s (f := o.1 - (j + 1)) (by rw [show o.1 - (j + 1) + 1 = o.1 - j by omega]; exact i2) hk2 (trT_n (fun h9 => had10 h9.2)); exact h9) (by omega) i4 i5 (by omega) (by omega) _ _ ls w (lv_sub hl [0, 2, 1, 4, 5, 6, 7, 8, 9, 10, 11] rfl)
              · refine lv_iconst (v := zI (-1)) hx hb wdX1_passOverTones_287 rfl ?_
                refine lv_goto (tgt := 306) hx hb wdX1_passOverTones_288 (by decide) ?_
                refine z_iadd (z := ((k2 : Int) + (-1))) hx hb wdX1_passOverTones_306 (by omega) ?_
                have hnb := nx_b 2 x 0 (k2 : Int)
                refine r_val (v := zI (nxT 2 x 0 (k2 : Int))) (congrArg zI (by rw [← nx_l (v := 2) (cc := 0) (show x = 1 by omega)]; omega)) ?_
                refine lv_istore (lv' := [(8, .int (zI (nxT 2 x 0 (k2 : Int)))), (9, .int (zI (((cc + 0) : Nat) : Int))), (11, .int (zI 0)), (10, .int (zI (j : Int))), (7, .int (zI ((o.1 : Nat) : Int))), (6, .int (zI (x : Int))), (5, .int (zI (y : Int))), (4, .int (zI (P 3))), (3, .int (zI 2)), (0, .ref (B + 23)), (1, .ref (B + ru)), (2, .ref (B + a))]) hx hb wdX1_passOverTones_307 hl (by decide) rfl (fun ls hl => ?_)
                refine z_iinc (v := (((j + 1) : Nat) : Int)) (lv' := [(10, .int (zI (((j + 1) : Nat) : Int))), (8, .int (zI (nxT 2 x 0 (k2 : Int)))), (9, .int (zI (((cc + 0) : Nat) : Int))), (11, .int (zI 0)), (7, .int (zI ((o.1 : Nat) : Int))), (6, .int (zI (x : Int))), (5, .int (zI (y : Int))), (4, .int (zI (P 3))), (3, .int (zI 2)), (0, .ref (B + 23)), (1, .ref (B + ru)), (2, .ref (B + a))]) hx hb wdX1_passOverTones_309 hl (k := 3) rfl (by omega) (by decide) rfl (fun ls hl => ?_)
                refine lv_goto (tgt := 65) hx hb wdX1_passOverTones_312 (by decide) ?_
                rw [show cc = cc + 0 from rfl] at hl
                exact ih (j + 1) (nxT 2 x 0 (k2 : Int)) (cc + 0) Nm o1 (by omega) i1 (by have h9 := tpI_s (f := o.1 - (j + 1)) (by rw [show o.1 - (j + 1) + 1 = o.1 - j by omega]; exact i2) hk2 (trT_n (fun h9 => had10 h9.2)); exact h9) (by omega) i4 i5 (by omega) (by omega) _ _ ls w (lv_sub hl [0, 2, 1, 4, 5, 6, 7, 8, 9, 10, 11] rfl)
          · rw [hMe] at w
            refine z_if_eq (tgt := 249) hx hb (by omega) wdX1_passOverTones_94 (by decide) (fun c29 => ?_) (fun c29 => False.elim (by omega))
            refine lv_iload_n hx hb wdX1_passOverTones_249 rfl (lv_at hl 8 rfl) ?_
            refine lv_iconst (v := zI 2) hx hb wdX1_passOverTones_250 rfl ?_
            refine z_icmp_ne (tgt := 273) hx hb (by omega) (by omega) wdX1_passOverTones_251 (by decide) (fun c30 => False.elim (by omega)) (fun c30 => ?_)
            refine lv_iload hx hb wdX1_passOverTones_254 (lv_at hl 0 rfl) ?_
            refine z_if_le (tgt := 273) hx hb (by omega) wdX1_passOverTones_256 (by decide) (fun c31 => ?_) (fun c31 => False.elim (by omega))
            refine lv_iload hx hb wdX1_passOverTones_273 (lv_at hl 2 rfl) ?_
            refine lv_iload hx hb wdX1_passOverTones_275 (lv_at hl 0 rfl) ?_
            refine z_iadd (z := (((cc + 0) : Nat) : Int)) hx hb wdX1_passOverTones_277 (by omega) ?_
            refine lv_istore (lv' := [(9, .int (zI (((cc + 0) : Nat) : Int))), (11, .int (zI 0)), (10, .int (zI (j : Int))), (8, .int (zI (k2 : Int))), (7, .int (zI ((o.1 : Nat) : Int))), (6, .int (zI (x : Int))), (5, .int (zI (y : Int))), (4, .int (zI (P 3))), (3, .int (zI 2)), (0, .ref (B + 23)), (1, .ref (B + ru)), (2, .ref (B + a))]) hx hb wdX1_passOverTones_278 hl (by decide) rfl (fun ls hl => ?_)
            refine lv_iload hx hb wdX1_passOverTones_280 (lv_at hl 3 rfl) ?_
            refine lv_iload hx hb wdX1_passOverTones_282 (lv_at hl 5 rfl) ?_
            refine z_if_eq (tgt := 291) hx hb (by omega) wdX1_passOverTones_284 (by decide) (fun c32 => ?_) (fun c32 => ?_)
            · refine lv_iload_n hx hb wdX1_passOverTones_291 rfl (lv_at hl 8 rfl) ?_
              refine lv_iconst (v := zI 5) hx hb wdX1_passOverTones_292 rfl ?_
              refine z_icmp_ne (tgt := 305) hx hb (by omega) (by omega) wdX1_passOverTones_293 (by decide) (fun c33 => ?_) (fun c33 => False.elim (by omega))
              refine lv_iconst (v := zI 1) hx hb wdX1_passOverTones_305 rfl ?_
              refine z_iadd (z := (((k2 + 1) : Nat) : Int)) hx hb wdX1_passOverTones_306 (by omega) ?_
              have hnb := nx_b 2 x 0 (k2 : Int)
              refine r_val (v := zI (nxT 2 x 0 (k2 : Int))) (congrArg zI (by rw [← nx_r (v := 2) (cc := 0) (show x ≠ 1 by omega) (by omega)]; omega)) ?_
              refine lv_istore (lv' := [(8, .int (zI (nxT 2 x 0 (k2 : Int)))), (9, .int (zI (((cc + 0) : Nat) : Int))), (11, .int (zI 0)), (10, .int (zI (j : Int))), (7, .int (zI ((o.1 : Nat) : Int))), (6, .int (zI (x : Int))), (5, .int (zI (y : Int))), (4, .int (zI (P 3))), (3, .int (zI 2)), (0, .ref (B + 23)), (1, .ref (B + ru)), (2, .ref (B + a))]) hx hb wdX1_passOverTones_307 hl (by decide) rfl (fun ls hl => ?_)
              refine z_iinc (v := (((j + 1) : Nat) : Int)) (lv' := [(10, .int (zI (((j + 1) : Nat) : Int))), (8, .int (zI (nxT 2 x 0 (k2 : Int)))), (9, .int (zI (((cc + 0) : Nat) : Int))), (11, .int (zI 0)), (7, .int (zI ((o.1 : Nat) : Int))), (6, .int (zI (x : Int))), (5, .int (zI (y : Int))), (4, .int (zI (P 3))), (3, .int (zI 2)), (0, .ref (B + 23)), (1, .ref (B + ru)), (2, .ref (B + a))]) hx hb wdX1_passOverTones_309 hl (k := 3) rfl (by omega) (by decide) rfl (fun ls hl => ?_)
              refine lv_goto (tgt := 65) hx hb wdX1_passOverTones_312 (by decide) ?_
              rw [show cc = cc + 0 from rfl] at hl
              exact ih (j + 1) (nxT 2 x 0 (k2 : Int)) (cc + 0) Nm o1 (by omega) i1 (by have h9 := tpI_s (f := o.1 - (j + 1)) (by rw [show o.1 - (j + 1) + 1 = o.1 - j by omega]; exact i2) hk2 (trT_n (fun h9 => hof7 h9.1)); exact h9) (by omega) i4 i5 (by omega) (by omega) _ _ ls w (lv_sub hl [0, 2, 1, 4, 5, 6, 7, 8, 9, 10, 11] rfl)
            · refine lv_iconst (v := zI (-1)) hx hb wdX1_passOverTones_287 rfl ?_
              refine lv_goto (tgt := 306) hx hb wdX1_passOverTones_288 (by decide) ?_
              refine z_iadd (z := ((k2 : Int) + (-1))) hx hb wdX1_passOverTones_306 (by omega) ?_
              have hnb := nx_b 2 x 0 (k2 : Int)
              refine r_val (v := zI (nxT 2 x 0 (k2 : Int))) (congrArg zI (by rw [← nx_l (v := 2) (cc := 0) (show x = 1 by omega)]; omega)) ?_
              refine lv_istore (lv' := [(8, .int (zI (nxT 2 x 0 (k2 : Int)))), (9, .int (zI (((cc + 0) : Nat) : Int))), (11, .int (zI 0)), (10, .int (zI (j : Int))), (7, .int (zI ((o.1 : Nat) : Int))), (6, .int (zI (x : Int))), (5, .int (zI (y : Int))), (4, .int (zI (P 3))), (3, .int (zI 2)), (0, .ref (B + 23)), (1, .ref (B + ru)), (2, .ref (B + a))]) hx hb wdX1_passOverTones_307 hl (by decide) rfl (fun ls hl => ?_)
              refine z_iinc (v := (((j + 1) : Nat) : Int)) (lv' := [(10, .int (zI (((j + 1) : Nat) : Int))), (8, .int (zI (nxT 2 x 0 (k2 : Int)))), (9, .int (zI (((cc + 0) : Nat) : Int))), (11, .int (zI 0)), (7, .int (zI ((o.1 : Nat) : Int))), (6, .int (zI (x : Int))), (5, .int (zI (y : Int))), (4, .int (zI (P 3))), (3, .int (zI 2)), (0, .ref (B + 23)), (1, .ref (B + ru)), (2, .ref (B + a))]) hx hb wdX1_passOverTones_309 hl (k := 3) rfl (by omega) (by decide) rfl (fun ls hl => ?_)
              refine lv_goto (tgt := 65) hx hb wdX1_passOverTones_312 (by decide) ?_
              rw [show cc = cc + 0 from rfl] at hl
              exact ih (j + 1) (nxT 2 x 0 (k2 : Int)) (cc + 0) Nm o1 (by omega) i1 (by have h9 := tpI_s (f := o.1 - (j + 1)) (by rw [show o.1 - (j + 1) + 1 = o.1 - j by omega]; exact i2) hk2 (trT_n (fun h9 => hof7 h9.1)); exact h9) (by omega) i4 i5 (by omega) (by omega) _ _ ls w (lv_sub hl [0, 2, 1, 4, 5, 6, 7, 8, 9, 10, 11] rfl)
        · exact False.elim (by omega)
      · rw [hMe] at w
        refine z_if_eq (tgt := 315) hx hb (by omega) wdX1_passOverTones_78 (by decide) (fun c34 => ?_) (fun c34 => False.elim (by omega))
        exact kk j tz cc Nm o1 _ _ ls i1 (tpI_e i2 (by omega)) i4 (by omega) w (lv_sub hl [1] rfl)
set_option maxRecDepth 4000 in
theorem s_X1_over_2 {l : Launch} {D : va_G} {B : Nat} {cy : Nat → ClassId} {M : Mem} {a q hv ed : Nat} {o : Wo} (hk : kd a = (9, 0, 0)) (hC : CW M a q hv ed o) {ru : Nat} {P : Nat → Int} (hku : kd ru = (4, 0, 0)) (hU : isU M ru P) (hP : okP P) (hap : ru + 1 < a ∨ a + 2 < ru) {x y n9 : Nat} {t0 : Int} (hq0 : P 0 = 2) (hx8 : (x = 1 ∧ P 4 = 1 ∧ (P 0 = 1 ∨ P 0 = 2 ∨ P 0 = 4)) ∨ (x = 0 ∧ ¬ (P 4 = 1 ∧ (P 0 = 1 ∨ P 0 = 2 ∨ P 0 = 4)))) (hy8 : (P 4 = 1 ∧ y = 1) ∨ (P 4 ≠ 1 ∧ y = 0)) (ht0 : (x = 1 ∧ t0 = (o.1 : Int) - 1) ∨ (x = 0 ∧ t0 = 0)) (hz5 : P 5 = -2 ∨ (0 ≤ P 5 ∧ P 5 ≤ 6))  : Ci l D B cy yX1_passOverTones cX1_passOverTones 12 (some .int) 3 77 [.ref (B + 23), .ref (B + ru), .ref (B + a)] M (fun r M1 => TQ a q hv ed (tpF P 2 x y n9 q hv ed o.1 t0 o) 1884 M r M1) := by
  refine s_any (by decide) (Nat.le_of_ble_eq_true rfl) ?_
  intro p e s m below meth c ls F hr hlocks w hl
  have F : CallFix p m c cX1_passOverTones 12 s _ TB RX1 := F
  have hx := F.1
  have hb := F.2.1
  have hl : lv_has ls 12 [(0, .ref (B + 23)), (1, .ref (B + ru)), (2, .ref (B + a))] := hl
  have hW := hC.1
  have hwf := hC.wf
  have hKL := hwf.2.2.2.2
  have hn12 := hwf.1
  have hq12 := hwf.2.1
  have hP0 := hP 0 (by decide)
  have hP1 := hP 1 (by decide)
  have hP2 := hP 2 (by decide)
  have hP3 := hP 3 (by decide)
  have hP4 := hP 4 (by decide)
  have hP5 := hP 5 (by decide)
  have hP6 := hP 6 (by decide)
  have hP7 := hP 7 (by decide)
  refine lv_aload_n hx hb wdX1_passOverTones_0 rfl (lv_at hl 1 rfl) ?_
  refine f_4_0 F w (a := ru) hku wtb_45 wdX1_passOverTones_1 ?_
  refine lv_iconst (v := zI 0) hx hb wdX1_passOverTones_4 rfl ?_
  refine g_iald F w (a := (ru + 1)) (kd_r1 hku) (j := 0) ⟨by decide, by decide⟩ (by omega) wdX1_passOverTones_5 ?_
  refine r_val (v := (zI (P 0))) (hU 0 (by decide)) ?_
  refine r_val (v := (zI 2)) (congrArg zI hq0) ?_
  refine lv_istore_n (lv' := [(3, .int (zI 2)), (0, .ref (B + 23)), (1, .ref (B + ru)), (2, .ref (B + a))]) hx hb wdX1_passOverTones_6 rfl hl (by decide) rfl (fun ls hl => ?_)
  refine lv_aload_n hx hb wdX1_passOverTones_7 rfl (lv_at hl 2 rfl) ?_
  refine f_4_0 F w (a := ru) hku wtb_45 wdX1_passOverTones_8 ?_
  refine lv_iconst (v := zI 3) hx hb wdX1_passOverTones_11 rfl ?_
  refine g_iald F w (a := (ru + 1)) (kd_r1 hku) (j := 3) ⟨by decide, by decide⟩ (by omega) wdX1_passOverTones_12 ?_
  refine r_val (v := (zI (P 3))) (hU 3 (by decide)) ?_
  refine lv_istore (lv' := [(4, .int (zI (P 3))), (3, .int (zI 2)), (0, .ref (B + 23)), (1, .ref (B + ru)), (2, .ref (B + a))]) hx hb wdX1_passOverTones_13 hl (by decide) rfl (fun ls hl => ?_)
  refine lv_aload_n hx hb wdX1_passOverTones_15 rfl (lv_at hl 3 rfl) ?_
  refine f_4_0 F w (a := ru) hku wtb_45 wdX1_passOverTones_16 ?_
  refine lv_iconst (v := zI 4) hx hb wdX1_passOverTones_19 rfl ?_
  refine g_iald F w (a := (ru + 1)) (kd_r1 hku) (j := 4) ⟨by decide, by decide⟩ (by omega) wdX1_passOverTones_20 ?_
  refine r_val (v := (zI (P 4))) (hU 4 (by decide)) ?_
  refine lv_iconst (v := zI 1) hx hb wdX1_passOverTones_21 rfl ?_
  refine z_icmp_ne (tgt := 29) hx hb (by omega) (by omega) wdX1_passOverTones_22 (by decide) (fun c1 => ?_) (fun c1 => ?_)
  · refine lv_iconst (v := zI 0) hx hb wdX1_passOverTones_29 rfl ?_
    refine r_val (v := zI ((y : Nat) : Int)) (congrArg zI (by omega)) ?_
    refine lv_istore (lv' := [(5, .int (zI (y : Int))), (4, .int (zI (P 3))), (3, .int (zI 2)), (0, .ref (B + 23)), (1, .ref (B + ru)), (2, .ref (B + a))]) hx hb wdX1_passOverTones_30 hl (by decide) rfl (fun ls hl => ?_)
    refine lv_aload_n hx hb wdX1_passOverTones_32 rfl (lv_at hl 4 rfl) ?_
    refine k_Vi F w (As := []) (rest := []) (a := ru) (kd_lt (a := ru) hku (by decide)) (sh_4 hku _ _) rfl (s_X4_goesLeft hku hU hP) wgv_X1_90 whv_X4_goesLeft ⟨(Nat.le_of_ble_eq_true rfl), (Nat.le_of_ble_eq_true rfl)⟩ hl.1 rfl (Nat.le_of_ble_eq_true rfl) ⟨Nat.zero_le _, Nat.zero_le _⟩ wdX1_passOverTones_33 (fun r Ma3 H locs hp w => ?_)
    rcases hp with ⟨⟨hlf2, rfl⟩ | ⟨hlf2, rfl⟩, hMe⟩
    · rw [hMe] at w
      refine r_val (v := zI ((x : Nat) : Int)) (congrArg zI (by omega)) ?_
      refine lv_istore (lv' := [(6, .int (zI (x : Int))), (5, .int (zI (y : Int))), (4, .int (zI (P 3))), (3, .int (zI 2)), (0, .ref (B + 23)), (1, .ref (B + ru)), (2, .ref (B + a))]) hx hb wdX1_passOverTones_36 hl (by decide) rfl (fun ls hl => ?_)
      refine lv_aload_n hx hb wdX1_passOverTones_38 rfl (lv_at hl 6 rfl) ?_
      refine f_9_0 F w (a := a) hk wtb_32 wdX1_passOverTones_39 ?_
      refine r_val (v := (zI ((o.1 : Nat) : Int))) (hW.1) ?_
      refine lv_istore (lv' := [(7, .int (zI ((o.1 : Nat) : Int))), (6, .int (zI (x : Int))), (5, .int (zI (y : Int))), (4, .int (zI (P 3))), (3, .int (zI 2)), (0, .ref (B + 23)), (1, .ref (B + ru)), (2, .ref (B + a))]) hx hb wdX1_passOverTones_42 hl (by decide) rfl (fun ls hl => ?_)
      refine lv_iload hx hb wdX1_passOverTones_44 (lv_at hl 1 rfl) ?_
      refine z_if_eq (tgt := 56) hx hb (by omega) wdX1_passOverTones_46 (by decide) (fun c4 => ?_) (fun c4 => ?_)
      · refine lv_iconst (v := zI 0) hx hb wdX1_passOverTones_56 rfl ?_
        refine r_val (v := zI t0) (congrArg zI (by omega)) ?_
        refine lv_istore (lv' := [(8, .int (zI t0)), (7, .int (zI ((o.1 : Nat) : Int))), (6, .int (zI (x : Int))), (5, .int (zI (y : Int))), (4, .int (zI (P 3))), (3, .int (zI 2)), (0, .ref (B + 23)), (1, .ref (B + ru)), (2, .ref (B + a))]) hx hb wdX1_passOverTones_57 hl (by decide) rfl (fun ls hl => ?_)
        refine lv_iconst (v := zI 0) hx hb wdX1_passOverTones_59 rfl ?_
        refine lv_istore (lv' := [(9, .int (zI 0)), (8, .int (zI t0)), (7, .int (zI ((o.1 : Nat) : Int))), (6, .int (zI (x : Int))), (5, .int (zI (y : Int))), (4, .int (zI (P 3))), (3, .int (zI 2)), (0, .ref (B + 23)), (1, .ref (B + ru)), (2, .ref (B + a))]) hx hb wdX1_passOverTones_60 hl (by decide) rfl (fun ls hl => ?_)
        refine lv_iconst (v := zI 0) hx hb wdX1_passOverTones_62 rfl ?_
        refine lv_istore (lv' := [(10, .int (zI 0)), (9, .int (zI 0)), (8, .int (zI t0)), (7, .int (zI ((o.1 : Nat) : Int))), (6, .int (zI (x : Int))), (5, .int (zI (y : Int))), (4, .int (zI (P 3))), (3, .int (zI 2)), (0, .ref (B + 23)), (1, .ref (B + ru)), (2, .ref (B + a))]) hx hb wdX1_passOverTones_63 hl (by decide) rfl (fun ls hl => ?_)
        have hx01 : x = 0 ∨ x = 1 := by omega
        have hy01 : y = 0 ∨ y = 1 := by omega
        refine lp_X1_over_2  F (Nat.le_of_ble_eq_true rfl) (Nat.le_of_ble_eq_true rfl) (x := x) (y := y) (n9 := n9) hk hku hP hn12 hx01 hy01 hz5 hap (fun j tz cc Nm o1 H locs ls x0 x1 x2 x3 w hl => ?_) o.1 0 t0 0 M o (by omega) hC tpI_0 (by omega) Fr3.rf hU (by omega) (by omega) _ _ ls w (lv_sub hl [0, 1, 2, 3, 4, 5, 6, 7, 8, 9, 10] rfl)
        refine lv_iload hx hb wdX1_passOverTones_315 (lv_at hl 0 rfl) ?_
        exact e_i F w hr hlocks ⟨o1, cc, x1, rfl, x0, x2, x3⟩ wdX1_passOverTones_317
      · refine lv_iload hx hb wdX1_passOverTones_49 (lv_at hl 0 rfl) ?_
        refine lv_iconst (v := zI 1) hx hb wdX1_passOverTones_51 rfl ?_
        refine z_isub (z := (((o.1 : Nat) : Int) - 1)) hx hb wdX1_passOverTones_52 (by omega) ?_
        refine lv_goto (tgt := 57) hx hb wdX1_passOverTones_53 (by decide) ?_
        refine r_val (v := zI t0) (congrArg zI (by omega)) ?_
        refine lv_istore (lv' := [(8, .int (zI t0)), (7, .int (zI ((o.1 : Nat) : Int))), (6, .int (zI (x : Int))), (5, .int (zI (y : Int))), (4, .int (zI (P 3))), (3, .int (zI 2)), (0, .ref (B + 23)), (1, .ref (B + ru)), (2, .ref (B + a))]) hx hb wdX1_passOverTones_57 hl (by decide) rfl (fun ls hl => ?_)
        refine lv_iconst (v := zI 0) hx hb wdX1_passOverTones_59 rfl ?_
        refine lv_istore (lv' := [(9, .int (zI 0)), (8, .int (zI t0)), (7, .int (zI ((o.1 : Nat) : Int))), (6, .int (zI (x : Int))), (5, .int (zI (y : Int))), (4, .int (zI (P 3))), (3, .int (zI 2)), (0, .ref (B + 23)), (1, .ref (B + ru)), (2, .ref (B + a))]) hx hb wdX1_passOverTones_60 hl (by decide) rfl (fun ls hl => ?_)
        refine lv_iconst (v := zI 0) hx hb wdX1_passOverTones_62 rfl ?_
        refine lv_istore (lv' := [(10, .int (zI 0)), (9, .int (zI 0)), (8, .int (zI t0)), (7, .int (zI ((o.1 : Nat) : Int))), (6, .int (zI (x : Int))), (5, .int (zI (y : Int))), (4, .int (zI (P 3))), (3, .int (zI 2)), (0, .ref (B + 23)), (1, .ref (B + ru)), (2, .ref (B + a))]) hx hb wdX1_passOverTones_63 hl (by decide) rfl (fun ls hl => ?_)
        have hx01 : x = 0 ∨ x = 1 := by omega
        have hy01 : y = 0 ∨ y = 1 := by omega
        refine lp_X1_over_2  F (Nat.le_of_ble_eq_true rfl) (Nat.le_of_ble_eq_true rfl) (x := x) (y := y) (n9 := n9) hk hku hP hn12 hx01 hy01 hz5 hap (fun j tz cc Nm o1 H locs ls x0 x1 x2 x3 w hl => ?_) o.1 0 t0 0 M o (by omega) hC tpI_0 (by omega) Fr3.rf hU (by omega) (by omega) _ _ ls w (lv_sub hl [0, 1, 2, 3, 4, 5, 6, 7, 8, 9, 10] rfl)
        refine lv_iload hx hb wdX1_passOverTones_315 (lv_at hl 0 rfl) ?_
        exact e_i F w hr hlocks ⟨o1, cc, x1, rfl, x0, x2, x3⟩ wdX1_passOverTones_317
    · rw [hMe] at w
      refine r_val (v := zI ((x : Nat) : Int)) (congrArg zI (by omega)) ?_
      refine lv_istore (lv' := [(6, .int (zI (x : Int))), (5, .int (zI (y : Int))), (4, .int (zI (P 3))), (3, .int (zI 2)), (0, .ref (B + 23)), (1, .ref (B + ru)), (2, .ref (B + a))]) hx hb wdX1_passOverTones_36 hl (by decide) rfl (fun ls hl => ?_)
      refine lv_aload_n hx hb wdX1_passOverTones_38 rfl (lv_at hl 6 rfl) ?_
      refine f_9_0 F w (a := a) hk wtb_32 wdX1_passOverTones_39 ?_
      refine r_val (v := (zI ((o.1 : Nat) : Int))) (hW.1) ?_
      refine lv_istore (lv' := [(7, .int (zI ((o.1 : Nat) : Int))), (6, .int (zI (x : Int))), (5, .int (zI (y : Int))), (4, .int (zI (P 3))), (3, .int (zI 2)), (0, .ref (B + 23)), (1, .ref (B + ru)), (2, .ref (B + a))]) hx hb wdX1_passOverTones_42 hl (by decide) rfl (fun ls hl => ?_)
      refine lv_iload hx hb wdX1_passOverTones_44 (lv_at hl 1 rfl) ?_
      refine z_if_eq (tgt := 56) hx hb (by omega) wdX1_passOverTones_46 (by decide) (fun c5 => ?_) (fun c5 => ?_)
      · refine lv_iconst (v := zI 0) hx hb wdX1_passOverTones_56 rfl ?_
        refine r_val (v := zI t0) (congrArg zI (by omega)) ?_
        refine lv_istore (lv' := [(8, .int (zI t0)), (7, .int (zI ((o.1 : Nat) : Int))), (6, .int (zI (x : Int))), (5, .int (zI (y : Int))), (4, .int (zI (P 3))), (3, .int (zI 2)), (0, .ref (B + 23)), (1, .ref (B + ru)), (2, .ref (B + a))]) hx hb wdX1_passOverTones_57 hl (by decide) rfl (fun ls hl => ?_)
        refine lv_iconst (v := zI 0) hx hb wdX1_passOverTones_59 rfl ?_
        refine lv_istore (lv' := [(9, .int (zI 0)), (8, .int (zI t0)), (7, .int (zI ((o.1 : Nat) : Int))), (6, .int (zI (x : Int))), (5, .int (zI (y : Int))), (4, .int (zI (P 3))), (3, .int (zI 2)), (0, .ref (B + 23)), (1, .ref (B + ru)), (2, .ref (B + a))]) hx hb wdX1_passOverTones_60 hl (by decide) rfl (fun ls hl => ?_)
        refine lv_iconst (v := zI 0) hx hb wdX1_passOverTones_62 rfl ?_
        refine lv_istore (lv' := [(10, .int (zI 0)), (9, .int (zI 0)), (8, .int (zI t0)), (7, .int (zI ((o.1 : Nat) : Int))), (6, .int (zI (x : Int))), (5, .int (zI (y : Int))), (4, .int (zI (P 3))), (3, .int (zI 2)), (0, .ref (B + 23)), (1, .ref (B + ru)), (2, .ref (B + a))]) hx hb wdX1_passOverTones_63 hl (by decide) rfl (fun ls hl => ?_)
        have hx01 : x = 0 ∨ x = 1 := by omega
        have hy01 : y = 0 ∨ y = 1 := by omega
        refine lp_X1_over_2  F (Nat.le_of_ble_eq_true rfl) (Nat.le_of_ble_eq_true rfl) (x := x) (y := y) (n9 := n9) hk hku hP hn12 hx01 hy01 hz5 hap (fun j tz cc Nm o1 H locs ls x0 x1 x2 x3 w hl => ?_) o.1 0 t0 0 M o (by omega) hC tpI_0 (by omega) Fr3.rf hU (by omega) (by omega) _ _ ls w (lv_sub hl [0, 1, 2, 3, 4, 5, 6, 7, 8, 9, 10] rfl)
        refine lv_iload hx hb wdX1_passOverTones_315 (lv_at hl 0 rfl) ?_
        exact e_i F w hr hlocks ⟨o1, cc, x1, rfl, x0, x2, x3⟩ wdX1_passOverTones_317
      · refine lv_iload hx hb wdX1_passOverTones_49 (lv_at hl 0 rfl) ?_
        refine lv_iconst (v := zI 1) hx hb wdX1_passOverTones_51 rfl ?_
        refine z_isub (z := (((o.1 : Nat) : Int) - 1)) hx hb wdX1_passOverTones_52 (by omega) ?_
        refine lv_goto (tgt := 57) hx hb wdX1_passOverTones_53 (by decide) ?_
        refine r_val (v := zI t0) (congrArg zI (by omega)) ?_
        refine lv_istore (lv' := [(8, .int (zI t0)), (7, .int (zI ((o.1 : Nat) : Int))), (6, .int (zI (x : Int))), (5, .int (zI (y : Int))), (4, .int (zI (P 3))), (3, .int (zI 2)), (0, .ref (B + 23)), (1, .ref (B + ru)), (2, .ref (B + a))]) hx hb wdX1_passOverTones_57 hl (by decide) rfl (fun ls hl => ?_)
        refine lv_iconst (v := zI 0) hx hb wdX1_passOverTones_59 rfl ?_
        refine lv_istore (lv' := [(9, .int (zI 0)), (8, .int (zI t0)), (7, .int (zI ((o.1 : Nat) : Int))), (6, .int (zI (x : Int))), (5, .int (zI (y : Int))), (4, .int (zI (P 3))), (3, .int (zI 2)), (0, .ref (B + 23)), (1, .ref (B + ru)), (2, .ref (B + a))]) hx hb wdX1_passOverTones_60 hl (by decide) rfl (fun ls hl => ?_)
        refine lv_iconst (v := zI 0) hx hb wdX1_passOverTones_62 rfl ?_
        refine lv_istore (lv' := [(10, .int (zI 0)), (9, .int (zI 0)), (8, .int (zI t0)), (7, .int (zI ((o.1 : Nat) : Int))), (6, .int (zI (x : Int))), (5, .int (zI (y : Int))), (4, .int (zI (P 3))), (3, .int (zI 2)), (0, .ref (B + 23)), (1, .ref (B + ru)), (2, .ref (B + a))]) hx hb wdX1_passOverTones_63 hl (by decide) rfl (fun ls hl => ?_)
        have hx01 : x = 0 ∨ x = 1 := by omega
        have hy01 : y = 0 ∨ y = 1 := by omega
        refine lp_X1_over_2  F (Nat.le_of_ble_eq_true rfl) (Nat.le_of_ble_eq_true rfl) (x := x) (y := y) (n9 := n9) hk hku hP hn12 hx01 hy01 hz5 hap (fun j tz cc Nm o1 H locs ls x0 x1 x2 x3 w hl => ?_) o.1 0 t0 0 M o (by omega) hC tpI_0 (by omega) Fr3.rf hU (by omega) (by omega) _ _ ls w (lv_sub hl [0, 1, 2, 3, 4, 5, 6, 7, 8, 9, 10] rfl)
        refine lv_iload hx hb wdX1_passOverTones_315 (lv_at hl 0 rfl) ?_
        exact e_i F w hr hlocks ⟨o1, cc, x1, rfl, x0, x2, x3⟩ wdX1_passOverTones_317
  · refine lv_iconst (v := zI 1) hx hb wdX1_passOverTones_25 rfl ?_
    refine lv_goto (tgt := 30) hx hb wdX1_passOverTones_26 (by decide) ?_
    refine r_val (v := zI ((y : Nat) : Int)) (congrArg zI (by omega)) ?_
    refine lv_istore (lv' := [(5, .int (zI (y : Int))), (4, .int (zI (P 3))), (3, .int (zI 2)), (0, .ref (B + 23)), (1, .ref (B + ru)), (2, .ref (B + a))]) hx hb wdX1_passOverTones_30 hl (by decide) rfl (fun ls hl => ?_)
    refine lv_aload_n hx hb wdX1_passOverTones_32 rfl (lv_at hl 4 rfl) ?_
    refine k_Vi F w (As := []) (rest := []) (a := ru) (kd_lt (a := ru) hku (by decide)) (sh_4 hku _ _) rfl (s_X4_goesLeft hku hU hP) wgv_X1_90 whv_X4_goesLeft ⟨(Nat.le_of_ble_eq_true rfl), (Nat.le_of_ble_eq_true rfl)⟩ hl.1 rfl (Nat.le_of_ble_eq_true rfl) ⟨Nat.zero_le _, Nat.zero_le _⟩ wdX1_passOverTones_33 (fun r Ma7 H locs hp w => ?_)
    rcases hp with ⟨⟨hlf6, rfl⟩ | ⟨hlf6, rfl⟩, hMe⟩
    · rw [hMe] at w
      refine r_val (v := zI ((x : Nat) : Int)) (congrArg zI (by omega)) ?_
      refine lv_istore (lv' := [(6, .int (zI (x : Int))), (5, .int (zI (y : Int))), (4, .int (zI (P 3))), (3, .int (zI 2)), (0, .ref (B + 23)), (1, .ref (B + ru)), (2, .ref (B + a))]) hx hb wdX1_passOverTones_36 hl (by decide) rfl (fun ls hl => ?_)
      refine lv_aload_n hx hb wdX1_passOverTones_38 rfl (lv_at hl 6 rfl) ?_
      refine f_9_0 F w (a := a) hk wtb_32 wdX1_passOverTones_39 ?_
      refine r_val (v := (zI ((o.1 : Nat) : Int))) (hW.1) ?_
      refine lv_istore (lv' := [(7, .int (zI ((o.1 : Nat) : Int))), (6, .int (zI (x : Int))), (5, .int (zI (y : Int))), (4, .int (zI (P 3))), (3, .int (zI 2)), (0, .ref (B + 23)), (1, .ref (B + ru)), (2, .ref (B + a))]) hx hb wdX1_passOverTones_42 hl (by decide) rfl (fun ls hl => ?_)
      refine lv_iload hx hb wdX1_passOverTones_44 (lv_at hl 1 rfl) ?_
      refine z_if_eq (tgt := 56) hx hb (by omega) wdX1_passOverTones_46 (by decide) (fun c8 => ?_) (fun c8 => ?_)
      · refine lv_iconst (v := zI 0) hx hb wdX1_passOverTones_56 rfl ?_
        refine r_val (v := zI t0) (congrArg zI (by omega)) ?_
        refine lv_istore (lv' := [(8, .int (zI t0)), (7, .int (zI ((o.1 : Nat) : Int))), (6, .int (zI (x : Int))), (5, .int (zI (y : Int))), (4, .int (zI (P 3))), (3, .int (zI 2)), (0, .ref (B + 23)), (1, .ref (B + ru)), (2, .ref (B + a))]) hx hb wdX1_passOverTones_57 hl (by decide) rfl (fun ls hl => ?_)
        refine lv_iconst (v := zI 0) hx hb wdX1_passOverTones_59 rfl ?_
        refine lv_istore (lv' := [(9, .int (zI 0)), (8, .int (zI t0)), (7, .int (zI ((o.1 : Nat) : Int))), (6, .int (zI (x : Int))), (5, .int (zI (y : Int))), (4, .int (zI (P 3))), (3, .int (zI 2)), (0, .ref (B + 23)), (1, .ref (B + ru)), (2, .ref (B + a))]) hx hb wdX1_passOverTones_60 hl (by decide) rfl (fun ls hl => ?_)
        refine lv_iconst (v := zI 0) hx hb wdX1_passOverTones_62 rfl ?_
        refine lv_istore (lv' := [(10, .int (zI 0)), (9, .int (zI 0)), (8, .int (zI t0)), (7, .int (zI ((o.1 : Nat) : Int))), (6, .int (zI (x : Int))), (5, .int (zI (y : Int))), (4, .int (zI (P 3))), (3, .int (zI 2)), (0, .ref (B + 23)), (1, .ref (B + ru)), (2, .ref (B + a))]) hx hb wdX1_passOverTones_63 hl (by decide) rfl (fun ls hl => ?_)
        have hx01 : x = 0 ∨ x = 1 := by omega
        have hy01 : y = 0 ∨ y = 1 := by omega
        refine lp_X1_over_2  F (Nat.le_of_ble_eq_true rfl) (Nat.le_of_ble_eq_true rfl) (x := x) (y := y) (n9 := n9) hk hku hP hn12 hx01 hy01 hz5 hap (fun j tz cc Nm o1 H locs ls x0 x1 x2 x3 w hl => ?_) o.1 0 t0 0 M o (by omega) hC tpI_0 (by omega) Fr3.rf hU (by omega) (by omega) _ _ ls w (lv_sub hl [0, 1, 2, 3, 4, 5, 6, 7, 8, 9, 10] rfl)
        refine lv_iload hx hb wdX1_passOverTones_315 (lv_at hl 0 rfl) ?_
        exact e_i F w hr hlocks ⟨o1, cc, x1, rfl, x0, x2, x3⟩ wdX1_passOverTones_317
      · refine lv_iload hx hb wdX1_passOverTones_49 (lv_at hl 0 rfl) ?_
        refine lv_iconst (v := zI 1) hx hb wdX1_passOverTones_51 rfl ?_
        refine z_isub (z := (((o.1 : Nat) : Int) - 1)) hx hb wdX1_passOverTones_52 (by omega) ?_
        refine lv_goto (tgt := 57) hx hb wdX1_passOverTones_53 (by decide) ?_
        refine r_val (v := zI t0) (congrArg zI (by omega)) ?_
        refine lv_istore (lv' := [(8, .int (zI t0)), (7, .int (zI ((o.1 : Nat) : Int))), (6, .int (zI (x : Int))), (5, .int (zI (y : Int))), (4, .int (zI (P 3))), (3, .int (zI 2)), (0, .ref (B + 23)), (1, .ref (B + ru)), (2, .ref (B + a))]) hx hb wdX1_passOverTones_57 hl (by decide) rfl (fun ls hl => ?_)
        refine lv_iconst (v := zI 0) hx hb wdX1_passOverTones_59 rfl ?_
        refine lv_istore (lv' := [(9, .int (zI 0)), (8, .int (zI t0)), (7, .int (zI ((o.1 : Nat) : Int))), (6, .int (zI (x : Int))), (5, .int (zI (y : Int))), (4, .int (zI (P 3))), (3, .int (zI 2)), (0, .ref (B + 23)), (1, .ref (B + ru)), (2, .ref (B + a))]) hx hb wdX1_passOverTones_60 hl (by decide) rfl (fun ls hl => ?_)
        refine lv_iconst (v := zI 0) hx hb wdX1_passOverTones_62 rfl ?_
        refine lv_istore (lv' := [(10, .int (zI 0)), (9, .int (zI 0)), (8, .int (zI t0)), (7, .int (zI ((o.1 : Nat) : Int))), (6, .int (zI (x : Int))), (5, .int (zI (y : Int))), (4, .int (zI (P 3))), (3, .int (zI 2)), (0, .ref (B + 23)), (1, .ref (B + ru)), (2, .ref (B + a))]) hx hb wdX1_passOverTones_63 hl (by decide) rfl (fun ls hl => ?_)
        have hx01 : x = 0 ∨ x = 1 := by omega
        have hy01 : y = 0 ∨ y = 1 := by omega
        refine lp_X1_over_2  F (Nat.le_of_ble_eq_true rfl) (Nat.le_of_ble_eq_true rfl) (x := x) (y := y) (n9 := n9) hk hku hP hn12 hx01 hy01 hz5 hap (fun j tz cc Nm o1 H locs ls x0 x1 x2 x3 w hl => ?_) o.1 0 t0 0 M o (by omega) hC tpI_0 (by omega) Fr3.rf hU (by omega) (by omega) _ _ ls w (lv_sub hl [0, 1, 2, 3, 4, 5, 6, 7, 8, 9, 10] rfl)
        refine lv_iload hx hb wdX1_passOverTones_315 (lv_at hl 0 rfl) ?_
        exact e_i F w hr hlocks ⟨o1, cc, x1, rfl, x0, x2, x3⟩ wdX1_passOverTones_317
    · rw [hMe] at w
      refine r_val (v := zI ((x : Nat) : Int)) (congrArg zI (by omega)) ?_
      refine lv_istore (lv' := [(6, .int (zI (x : Int))), (5, .int (zI (y : Int))), (4, .int (zI (P 3))), (3, .int (zI 2)), (0, .ref (B + 23)), (1, .ref (B + ru)), (2, .ref (B + a))]) hx hb wdX1_passOverTones_36 hl (by decide) rfl (fun ls hl => ?_)
      refine lv_aload_n hx hb wdX1_passOverTones_38 rfl (lv_at hl 6 rfl) ?_
      refine f_9_0 F w (a := a) hk wtb_32 wdX1_passOverTones_39 ?_
      refine r_val (v := (zI ((o.1 : Nat) : Int))) (hW.1) ?_
      refine lv_istore (lv' := [(7, .int (zI ((o.1 : Nat) : Int))), (6, .int (zI (x : Int))), (5, .int (zI (y : Int))), (4, .int (zI (P 3))), (3, .int (zI 2)), (0, .ref (B + 23)), (1, .ref (B + ru)), (2, .ref (B + a))]) hx hb wdX1_passOverTones_42 hl (by decide) rfl (fun ls hl => ?_)
      refine lv_iload hx hb wdX1_passOverTones_44 (lv_at hl 1 rfl) ?_
      refine z_if_eq (tgt := 56) hx hb (by omega) wdX1_passOverTones_46 (by decide) (fun c9 => ?_) (fun c9 => ?_)
      · refine lv_iconst (v := zI 0) hx hb wdX1_passOverTones_56 rfl ?_
        refine r_val (v := zI t0) (congrArg zI (by omega)) ?_
        refine lv_istore (lv' := [(8, .int (zI t0)), (7, .int (zI ((o.1 : Nat) : Int))), (6, .int (zI (x : Int))), (5, .int (zI (y : Int))), (4, .int (zI (P 3))), (3, .int (zI 2)), (0, .ref (B + 23)), (1, .ref (B + ru)), (2, .ref (B + a))]) hx hb wdX1_passOverTones_57 hl (by decide) rfl (fun ls hl => ?_)
        refine lv_iconst (v := zI 0) hx hb wdX1_passOverTones_59 rfl ?_
        refine lv_istore (lv' := [(9, .int (zI 0)), (8, .int (zI t0)), (7, .int (zI ((o.1 : Nat) : Int))), (6, .int (zI (x : Int))), (5, .int (zI (y : Int))), (4, .int (zI (P 3))), (3, .int (zI 2)), (0, .ref (B + 23)), (1, .ref (B + ru)), (2, .ref (B + a))]) hx hb wdX1_passOverTones_60 hl (by decide) rfl (fun ls hl => ?_)
        refine lv_iconst (v := zI 0) hx hb wdX1_passOverTones_62 rfl ?_
        refine lv_istore (lv' := [(10, .int (zI 0)), (9, .int (zI 0)), (8, .int (zI t0)), (7, .int (zI ((o.1 : Nat) : Int))), (6, .int (zI (x : Int))), (5, .int (zI (y : Int))), (4, .int (zI (P 3))), (3, .int (zI 2)), (0, .ref (B + 23)), (1, .ref (B + ru)), (2, .ref (B + a))]) hx hb wdX1_passOverTones_63 hl (by decide) rfl (fun ls hl => ?_)
        have hx01 : x = 0 ∨ x = 1 := by omega
        have hy01 : y = 0 ∨ y = 1 := by omega
        refine lp_X1_over_2  F (Nat.le_of_ble_eq_true rfl) (Nat.le_of_ble_eq_true rfl) (x := x) (y := y) (n9 := n9) hk hku hP hn12 hx01 hy01 hz5 hap (fun j tz cc Nm o1 H locs ls x0 x1 x2 x3 w hl => ?_) o.1 0 t0 0 M o (by omega) hC tpI_0 (by omega) Fr3.rf hU (by omega) (by omega) _ _ ls w (lv_sub hl [0, 1, 2, 3, 4, 5, 6, 7, 8, 9, 10] rfl)
        refine lv_iload hx hb wdX1_passOverTones_315 (lv_at hl 0 rfl) ?_
        exact e_i F w hr hlocks ⟨o1, cc, x1, rfl, x0, x2, x3⟩ wdX1_passOverTones_317
      · refine lv_iload hx hb wdX1_passOverTones_49 (lv_at hl 0 rfl) ?_
        refine lv_iconst (v := zI 1) hx hb wdX1_passOverTones_51 rfl ?_
        refine z_isub (z := (((o.1 : Nat) : Int) - 1)) hx hb wdX1_passOverTones_52 (by omega) ?_
        refine lv_goto (tgt := 57) hx hb wdX1_passOverTones_53 (by decide) ?_
        refine r_val (v := zI t0) (congrArg zI (by omega)) ?_
        refine lv_istore (lv' := [(8, .int (zI t0)), (7, .int (zI ((o.1 : Nat) : Int))), (6, .int (zI (x : Int))), (5, .int (zI (y : Int))), (4, .int (zI (P 3))), (3, .int (zI 2)), (0, .ref (B + 23)), (1, .ref (B + ru)), (2, .ref (B + a))]) hx hb wdX1_passOverTones_57 hl (by decide) rfl (fun ls hl => ?_)
        refine lv_iconst (v := zI 0) hx hb wdX1_passOverTones_59 rfl ?_
        refine lv_istore (lv' := [(9, .int (zI 0)), (8, .int (zI t0)), (7, .int (zI ((o.1 : Nat) : Int))), (6, .int (zI (x : Int))), (5, .int (zI (y : Int))), (4, .int (zI (P 3))), (3, .int (zI 2)), (0, .ref (B + 23)), (1, .ref (B + ru)), (2, .ref (B + a))]) hx hb wdX1_passOverTones_60 hl (by decide) rfl (fun ls hl => ?_)
        refine lv_iconst (v := zI 0) hx hb wdX1_passOverTones_62 rfl ?_
        refine lv_istore (lv' := [(10, .int (zI 0)), (9, .int (zI 0)), (8, .int (zI t0)), (7, .int (zI ((o.1 : Nat) : Int))), (6, .int (zI (x : Int))), (5, .int (zI (y : Int))), (4, .int (zI (P 3))), (3, .int (zI 2)), (0, .ref (B + 23)), (1, .ref (B + ru)), (2, .ref (B + a))]) hx hb wdX1_passOverTones_63 hl (by decide) rfl (fun ls hl => ?_)
        have hx01 : x = 0 ∨ x = 1 := by omega
        have hy01 : y = 0 ∨ y = 1 := by omega
        refine lp_X1_over_2  F (Nat.le_of_ble_eq_true rfl) (Nat.le_of_ble_eq_true rfl) (x := x) (y := y) (n9 := n9) hk hku hP hn12 hx01 hy01 hz5 hap (fun j tz cc Nm o1 H locs ls x0 x1 x2 x3 w hl => ?_) o.1 0 t0 0 M o (by omega) hC tpI_0 (by omega) Fr3.rf hU (by omega) (by omega) _ _ ls w (lv_sub hl [0, 1, 2, 3, 4, 5, 6, 7, 8, 9, 10] rfl)
        refine lv_iload hx hb wdX1_passOverTones_315 (lv_at hl 0 rfl) ?_
        exact e_i F w hr hlocks ⟨o1, cc, x1, rfl, x0, x2, x3⟩ wdX1_passOverTones_317
theorem wdX1_passOverTones_183 : decode cX1_passOverTones 183 = .ok (.aload_n 0, 1) := dq0 kk_42 (by decide +kernel)
theorem wdX1_passOverTones_184 : decode cX1_passOverTones 184 = .ok (.aload_n 2, 1) := dq0 kk_44 (by decide +kernel)
theorem wdX1_passOverTones_185 : decode cX1_passOverTones 185 = .ok (.iload 8, 2) := dqU kk_21 (by decide +kernel)
theorem wdX1_passOverTones_187 : decode cX1_passOverTones 187 = .ok (.iload 5, 2) := dqU kk_21 (by decide +kernel)
theorem wdX1_passOverTones_189 : decode cX1_passOverTones 189 = .ok (.invokevirtual 108, 3) := dqV kk_182 (by decide +kernel)
theorem wtk_X1_cutOff : Cond.code yX1_cutOff cX1_cutOff 5 (some .int) ∈ TB := tbm (tc4 (List.mem_of_getElem? (i := 67) rfl)) rfl
theorem wgc_X1_cutOff : GoodIn TB (cw yX1_cutOff cX1_cutOff 5 (some .int)) := goodIn_c2 wtk_X1_cutOff
theorem wtb_74 : Cond.methodLink "ToneLines$Doer" 108 yX1_cutOff ∈ TB := tbm (tc4 (List.mem_of_getElem? (i := 64) rfl)) rfl
theorem wtb_75 : Cond.instanceMethod yX1_cutOff ∈ TB := tbm (tc4 (List.mem_of_getElem? (i := 66) rfl)) rfl
theorem wtb_76 : Cond.selects "ToneLines$Doer" yX1_cutOff yX1_cutOff ∈ TB := tbp (List.mem_of_getElem? (i := 23) rfl) rfl
theorem wgv_X1_108 : GoodIn TB (wsV RX1 108 RX1 yX1_cutOff (cw yX1_cutOff cX1_cutOff 5 (some .int))) := goodIn_4 wtb_74 wtb_75 wtb_76 wtb_52 wgc_X1_cutOff
theorem whv_X1_cutOff : yX1_cutOff.cls = RX1 ∧ yX1_cutOff.cls ≠ "java/lang/invoke/MethodHandle" ∧ yX1_cutOff.cls ≠ "java/lang/invoke/VarHandle" ∧ (parseMethodDescriptor yX1_cutOff.desc).map (fun d => d.parameters.length) = some 3 := by decide +kernel
theorem wdX1_passOverTones_192 : decode cX1_passOverTones 192 = .ok (.istore 11, 2) := dqU kk_54 (by decide +kernel)
theorem wdX1_passOverTones_194 : decode cX1_passOverTones 194 = .ok (.goto 55, 3) := dqT kk_167 (by decide +kernel)
set_option maxRecDepth 4000 in
theorem lp_X1_over_3 {p : Program} {l : Launch} {e : Env} {s : State} {m : MethodId} {args : Array Value} {below : List Frame} {meth : Method} {c : Code} {D : va_G} {B : Nat} {cy : Nat → ClassId} {H0 : Heap} {Q : State → Prop} {M : Mem} {R : Room} {a ru q hv ed x y n9 : Nat} {o : Wo} {P : Nat → Int} {t0 : Int} (F : CallFix p m c cX1_passOverTones 12 s args TB RX1) (hR1 : 3 ≤ R.frames) (hR2 : 66 ≤ R.locals) (hk : kd a = (9, 0, 0)) (hku : kd ru = (4, 0, 0)) (hP : okP P) (hn12 : o.1 ≤ 12) (hx01 : x = 0 ∨ x = 1) (hy01 : y = 0 ∨ y = 1) (hz5 : P 5 = -2 ∨ (0 ≤ P 5 ∧ P 5 ≤ 6)) (hap : ru + 1 < a ∨ a + 2 < ru)  (kk : ∀ (j : Nat) (tz : Int) (cc : Nat) (Nm : Mem) (o1 : Wo) (H : Heap) (locs : List Loc) (ls : Array Slot), (CW Nm a q hv ed o1) → (tpF P 3 x y n9 q hv ed o.1 t0 o = (o1, cc)) → (Fr3 Nm M a) → (cc ≤ 1884) → Wd D B cy s H0 Nm H locs → lv_has ls 12 [(9, .int (zI (cc : Int)))] → W p l e R s m args below meth c H locs 0 0 Q (F0 m 315 ls [])) : ∀ (f : Nat) (j : Nat) (tz : Int) (cc : Nat) (Nm : Mem) (o1 : Wo), (j ≤ o.1) → (CW Nm a q hv ed o1) → (tpI P 3 x y n9 q hv ed o.1 t0 o (o.1 - j) tz o1 cc) → (cc ≤ 157 * j) → (Fr3 Nm M a) → (isU Nm ru P) → (-2 - (j : Int) ≤ tz ∧ tz ≤ 12 + (j : Int)) → (o.1 ≤ j + f) → ∀ (H : Heap) (locs : List Loc) (ls : Array Slot), Wd D B cy s H0 Nm H locs → lv_has ls 12 [(10, .int (zI (j : Int))), (9, .int (zI (cc : Int))), (8, .int (zI tz)), (7, .int (zI ((o.1 : Nat) : Int))), (6, .int (zI (x : Int))), (5, .int (zI (y : Int))), (4, .int (zI (P 3))), (3, .int (zI 3)), (0, .ref (B + 23)), (1, .ref (B + ru)), (2, .ref (B + a))] → W p l e R s m args below meth c H locs 0 0 Q (F0 m 65 ls []) := by
  have hx := F.1
  have hb := F.2.1
  have hP0 := hP 0 (by decide)
  have hP1 := hP 1 (by decide)
  have hP2 := hP 2 (by decide)
  have hP3 := hP 3 (by decide)
  have hP4 := hP 4 (by decide)
  have hP5 := hP 5 (by decide)
  have hP6 := hP 6 (by decide)
  have hP7 := hP 7 (by decide)
  intro f
  induction f with
  | zero =>
    intro j tz cc Nm o1 i0 i1 i2 i3 i4 i5 i6 hf H locs ls w hl
    have hW1 := i1.1
    have hwf1 := i1.wf
    have hKL1 := hwf1.2.2.2.2
    have hn1 := hwf1.1
    refine lv_iload hx hb wdX1_passOverTones_65 (lv_at hl 0 rfl) ?_
    refine lv_iload hx hb wdX1_passOverTones_67 (lv_at hl 3 rfl) ?_
    refine z_icmp_ge (tgt := 315) hx hb (by omega) (by omega) wdX1_passOverTones_69 (by decide) (fun c1 => ?_) (fun c1 => False.elim (by omega))
    exact kk j tz cc Nm o1 _ _ ls i1 (tpI_e i2 (by omega)) i4 (by omega) w (lv_sub hl [1] rfl)
  | succ f ih =>
    intro j tz cc Nm o1 i0 i1 i2 i3 i4 i5 i6 hf H locs ls w hl
    have hW1 := i1.1
    have hwf1 := i1.wf
    have hKL1 := hwf1.2.2.2.2
    have hn1 := hwf1.1
    refine lv_iload hx hb wdX1_passOverTones_65 (lv_at hl 0 rfl) ?_
    refine lv_iload hx hb wdX1_passOverTones_67 (lv_at hl 3 rfl) ?_
    refine z_icmp_ge (tgt := 315) hx hb (by omega) (by omega) wdX1_passOverTones_69 (by decide) (fun c1 => ?_) (fun c1 => ?_)
    · exact kk j tz cc Nm o1 _ _ ls i1 (tpI_e i2 (by omega)) i4 (by omega) w (lv_sub hl [1] rfl)
    · refine lv_aload_n hx hb wdX1_passOverTones_72 rfl (lv_at hl 10 rfl) ?_
      refine lv_iload hx hb wdX1_passOverTones_73 (lv_at hl 2 rfl) ?_
      refine k_Vi F w (As := [.int (zI tz)]) (rest := []) (a := a) (kd_lt (a := a) hk (by decide)) (sh_9 hk _ _) rfl (s_X9_hasTone hk hW1 hwf1 (by omega)) wgv_X1_47 whv_X9_hasTone ⟨(by omega), (by omega)⟩ hl.1 rfl (Nat.le_of_ble_eq_true rfl) ⟨Nat.zero_le _, Nat.zero_le _⟩ wdX1_passOverTones_75 (fun r Ma3 H locs hp w => ?_)
      rcases hp with ⟨⟨k2, rfl, hk2, rfl⟩ | ⟨nk2, rfl⟩, hMe⟩
      · rw [hMe] at w
        refine z_if_eq (tgt := 315) hx hb (by omega) wdX1_passOverTones_78 (by decide) (fun c4 => False.elim (by omega)) (fun c4 => ?_)
        refine lv_iconst (v := zI 0) hx hb wdX1_passOverTones_81 rfl ?_
        refine lv_istore (lv' := [(11, .int (zI 0)), (10, .int (zI (j : Int))), (9, .int (zI (cc : Int))), (8, .int (zI (k2 : Int))), (7, .int (zI ((o.1 : Nat) : Int))), (6, .int (zI (x : Int))), (5, .int (zI (y : Int))), (4, .int (zI (P 3))), (3, .int (zI 3)), (0, .ref (B + 23)), (1, .ref (B + ru)), (2, .ref (B + a))]) hx hb wdX1_passOverTones_82 hl (by decide) rfl (fun ls hl => ?_)
        refine lv_aload_n hx hb wdX1_passOverTones_84 rfl (lv_at hl 10 rfl) ?_
        refine lv_aload_n hx hb wdX1_passOverTones_85 rfl (lv_at hl 11 rfl) ?_
        refine lv_iload hx hb wdX1_passOverTones_86 (lv_at hl 3 rfl) ?_
        refine k_Vi F w (As := [.int (zI (k2 : Int))]) (rest := [.ref (B + ru)]) (a := a) (kd_lt (a := a) hk (by decide)) (sh_9 hk _ _) rfl (s_X9_kindOf hk hW1 hwf1 (by omega)) wgv_X1_94 whv_X9_kindOf ⟨(by omega), (by omega)⟩ hl.1 rfl (Nat.le_of_ble_eq_true rfl) ⟨Nat.zero_le _, Nat.zero_le _⟩ wdX1_passOverTones_88 (fun r Ma6 H locs hp w => ?_)
        rcases hp with ⟨⟨k5, ek5, hk5, rfl⟩ | ⟨nk5, rfl⟩, hMe⟩
        · obtain rfl : k2 = k5 := by omega
          rw [hMe] at w
          have gk5 := (hKL1 k2 (by omega)).1
          refine k_Vi F w (As := [.int (zI (((o1.2.1 k2) : Nat) : Int))]) (rest := []) (a := ru) (kd_lt (a := ru) hku (by decide)) (sh_4 hku _ _) rfl (s_X4_isOf hku i5 hP (z := (((o1.2.1 k2) : Nat) : Int)) (by omega)) wgv_X1_97 whv_X4_isOf ⟨(by omega), (by omega)⟩ hl.1 rfl (Nat.le_of_ble_eq_true rfl) ⟨Nat.zero_le _, Nat.zero_le _⟩ wdX1_passOverTones_91 (fun r Ma8 H locs hp w => ?_)
          rcases hp with ⟨⟨hof7, rfl⟩ | ⟨hof7, rfl⟩, hMe⟩
          · rw [hMe] at w
            refine z_if_eq (tgt := 249) hx hb (by omega) wdX1_passOverTones_94 (by decide) (fun c9 => False.elim (by omega)) (fun c9 => ?_)
            refine lv_aload_n hx hb wdX1_passOverTones_97 rfl (lv_at hl 10 rfl) ?_
            refine lv_aload_n hx hb wdX1_passOverTones_98 rfl (lv_at hl 11 rfl) ?_
            refine lv_iload hx hb wdX1_passOverTones_99 (lv_at hl 3 rfl) ?_
            refine k_Vi F w (As := [.ref (B + a), .int (zI (k2 : Int))]) (rest := []) (a := ru) (kd_lt (a := ru) hku (by decide)) (sh_4 hku _ _) rfl (s_X4_admits hk i1 hku i5 hP (t := k2) hk2 hz5) wgv_X1_100 whv_X4_admits ⟨(by omega), (by omega)⟩ hl.1 rfl (Nat.le_of_ble_eq_true rfl) ⟨Nat.zero_le _, Nat.zero_le _⟩ wdX1_passOverTones_101 (fun r Ma11 H locs hp w => ?_)
            rcases hp with ⟨⟨had10, rfl⟩ | ⟨had10, rfl⟩, hMe⟩
            · rw [hMe] at w
              refine z_if_eq (tgt := 249) hx hb (by omega) wdX1_passOverTones_104 (by decide) (fun c12 => False.elim (by omega)) (fun c12 => ?_)
              refine lv_iload_n hx hb wdX1_passOverTones_107 rfl (lv_at hl 8 rfl) ?_
              rcases (show (3 : Int) = 3 by omega) with c13
              refine r_val (v := zI 3) (congrArg zI c13) ?_
              refine lv_tableIn (tgt := 183) hx hb wdX1_passOverTones_108 (by decide) (by decide) (off := 75) rfl (by decide) ?_
              refine lv_aload_n hx hb wdX1_passOverTones_183 rfl (lv_at hl 9 rfl) ?_
              refine lv_aload_n hx hb wdX1_passOverTones_184 rfl (lv_at hl 11 rfl) ?_
              refine lv_iload hx hb wdX1_passOverTones_185 (lv_at hl 3 rfl) ?_
              refine lv_iload hx hb wdX1_passOverTones_187 (lv_at hl 6 rfl) ?_
              refine k_Vi F w (As := [.ref (B + a), .int (zI (k2 : Int)), .int (zI (y : Int))]) (rest := []) (a := 23) (kd_lt (a := 23) (show kd 23 = (1, 0, 0) from rfl) (by decide)) (sh_1 rfl _ _) rfl (u_cut hk i1 (t := k2) hk2 (x := y) hy01) wgv_X1_108 whv_X1_cutOff ⟨(by omega), (by omega)⟩ hl.1 rfl (Nat.le_of_ble_eq_true rfl) ⟨Nat.zero_le _, Nat.zero_le _⟩ wdX1_passOverTones_189 (fun r Ma15 H locs hp w => ?_)
              rcases hp with ⟨oT14, dT14, eT14, rfl, hCT14, hFT14, hdT14⟩
              refine lv_istore (lv' := [(11, .int (zI (dT14 : Int))), (10, .int (zI (j : Int))), (9, .int (zI (cc : Int))), (8, .int (zI (k2 : Int))), (7, .int (zI ((o.1 : Nat) : Int))), (6, .int (zI (x : Int))), (5, .int (zI (y : Int))), (4, .int (zI (P 3))), (3, .int (zI 3)), (0, .ref (B + 23)), (1, .ref (B + ru)), (2, .ref (B + a))]) hx hb wdX1_passOverTones_192 hl (by decide) rfl (fun ls hl => ?_)
              refine lv_goto (tgt := 249) hx hb wdX1_passOverTones_194 (by decide) ?_
              refine lv_iload_n hx hb wdX1_passOverTones_249 rfl (lv_at hl 8 rfl) ?_
              refine lv_iconst (v := zI 2) hx hb wdX1_passOverTones_250 rfl ?_
              refine z_icmp_ne (tgt := 273) hx hb (by omega) (by omega) wdX1_passOverTones_251 (by decide) (fun c16 => ?_) (fun c16 => False.elim (by omega))
              refine lv_iload hx hb wdX1_passOverTones_273 (lv_at hl 2 rfl) ?_
              refine lv_iload hx hb wdX1_passOverTones_275 (lv_at hl 0 rfl) ?_
              refine z_iadd (z := (((cc + dT14) : Nat) : Int)) hx hb wdX1_passOverTones_277 (by omega) ?_
              refine lv_istore (lv' := [(9, .int (zI (((cc + dT14) : Nat) : Int))), (11, .int (zI (dT14 : Int))), (10, .int (zI (j : Int))), (8, .int (zI (k2 : Int))), (7, .int (zI ((o.1 : Nat) : Int))), (6, .int (zI (x : Int))), (5, .int (zI (y : Int))), (4, .int (zI (P 3))), (3, .int (zI 3)), (0, .ref (B + 23)), (1, .ref (B + ru)), (2, .ref (B + a))]) hx hb wdX1_passOverTones_278 hl (by decide) rfl (fun ls hl => ?_)
              refine lv_iload hx hb wdX1_passOverTones_280 (lv_at hl 3 rfl) ?_
              refine lv_iload hx hb wdX1_passOverTones_282 (lv_at hl 5 rfl) ?_
              refine z_if_eq (tgt := 291) hx hb (by omega) wdX1_passOverTones_284 (by decide) (fun c17 => ?_) (fun c17 => ?_)
              · refine lv_iload_n hx hb wdX1_passOverTones_291 rfl (lv_at hl 8 rfl) ?_
                refine lv_iconst (v := zI 5) hx hb wdX1_passOverTones_292 rfl ?_
                refine z_icmp_ne (tgt := 305) hx hb (by omega) (by omega) wdX1_passOverTones_293 (by decide) (fun c18 => ?_) (fun c18 => False.elim (by omega))
                refine lv_iconst (v := zI 1) hx hb wdX1_passOverTones_305 rfl ?_
                refine z_iadd (z := (((k2 + 1) : Nat) : Int)) hx hb wdX1_passOverTones_306 (by omega) ?_
                have hnb := nx_b 3 x dT14 (k2 : Int)
                refine r_val (v := zI (nxT 3 x dT14 (k2 : Int))) (congrArg zI (by rw [← nx_r (v := 3) (cc := dT14) (show x ≠ 1 by omega) (by omega)]; omega)) ?_
                refine lv_istore (lv' := [(8, .int (zI (nxT 3 x dT14 (k2 : Int)))), (9, .int (zI (((cc + dT14) : Nat) : Int))), (11, .int (zI (dT14 : Int))), (10, .int (zI (j : Int))), (7, .int (zI ((o.1 : Nat) : Int))), (6, .int (zI (x : Int))), (5, .int (zI (y : Int))), (4, .int (zI (P 3))), (3, .int (zI 3)), (0, .ref (B + 23)), (1, .ref (B + ru)), (2, .ref (B + a))]) hx hb wdX1_passOverTones_307 hl (by decide) rfl (fun ls hl => ?_)
                refine z_iinc (v := (((j + 1) : Nat) : Int)) (lv' := [(10, .int (zI (((j + 1) : Nat) : Int))), (8, .int (zI (nxT 3 x dT14 (k2 : Int)))), (9, .int (zI (((cc + dT14) : Nat) : Int))), (11, .int (zI (dT14 : Int))), (7, .int (zI ((o.1 : Nat) : Int))), (6, .int (zI (x : Int))), (5, .int (zI (y : Int))), (4, .int (zI (P 3))), (3, .int (zI 3)), (0, .ref (B + 23)), (1, .ref (B + ru)), (2, .ref (B + a))]) hx hb wdX1_passOverTones_309 hl (k := 3) rfl (by omega) (by decide) rfl (fun ls hl => ?_)
                refine lv_goto (tgt := 65) hx hb wdX1_passOverTones_312 (by decide) ?_
                exact ih (j + 1) (nxT 3 x dT14 (k2 : Int)) (cc + dT14) Ma15 oT14 (by omega) hCT14 (by have h9 := tpI_s (f := o.1 - (j + 1)) (by rw [show o.1 - (j + 1) + 1 = o.1 - j by omega]; exact i2) hk2 (((trT_y ⟨hof7, had10⟩).trans (trV_3 (x := x) (y := y) (n9 := n9) (q := q) (ed := ed))).trans eT14); exact h9) (by omega) (Fr3.tr i4 hFT14) (isU.fr i5 (hFT14.1 (ru + 1) (by omega) (by omega) (by omega))) (by omega) (by omega) _ _ ls w (lv_sub hl [0, 2, 1, 4, 5, 6, 7, 8, 9, 10, 11] rfl)
              · refine lv_iconst (v := zI (-1)) hx hb wdX1_passOverTones_287 rfl ?_
                refine lv_goto (tgt := 306) hx hb wdX1_passOverTones_288 (by decide) ?_
                refine z_iadd (z := ((k2 : Int) + (-1))) hx hb wdX1_passOverTones_306 (by omega) ?_
                have hnb := nx_b 3 x dT14 (k2 : Int)
                refine r_val (v := zI (nxT 3 x dT14 (k2 : Int))) (congrArg zI (by rw [← nx_l (v := 3) (cc := dT14) (show x = 1 by omega)]; omega)) ?_
                refine lv_istore (lv' := [(8, .int (zI (nxT 3 x dT14 (k2 : Int)))), (9, .int (zI (((cc + dT14) : Nat) : Int))), (11, .int (zI (dT14 : Int))), (10, .int (zI (j : Int))), (7, .int (zI ((o.1 : Nat) : Int))), (6, .int (zI (x : Int))), (5, .int (zI (y : Int))), (4, .int (zI (P 3))), (3, .int (zI 3)), (0, .ref (B + 23)), (1, .ref (B + ru)), (2, .ref (B + a))]) hx hb wdX1_passOverTones_307 hl (by decide) rfl (fun ls hl => ?_)
                refine z_iinc (v := (((j + 1) : Nat) : Int)) (lv' := [(10, .int (zI (((j + 1) : Nat) : Int))), (8, .int (zI (nxT 3 x dT14 (k2 : Int)))), (9, .int (zI (((cc + dT14) : Nat) : Int))), (11, .int (zI (dT14 : Int))), (7, .int (zI ((o.1 : Nat) : Int))), (6, .int (zI (x : Int))), (5, .int (zI (y : Int))), (4, .int (zI (P 3))), (3, .int (zI 3)), (0, .ref (B + 23)), (1, .ref (B + ru)), (2, .ref (B + a))]) hx hb wdX1_passOverTones_309 hl (k := 3) rfl (by omega) (by decide) rfl (fun ls hl => ?_)
                refine lv_goto (tgt := 65) hx hb wdX1_passOverTones_312 (by decide) ?_
                exact ih (j + 1) (nxT 3 x dT14 (k2 : Int)) (cc + dT14) Ma15 oT14 (by omega) hCT14 (by have h9 := tpI_s (f := o.1 - (j + 1)) (by rw [show o.1 - (j + 1) + 1 = o.1 - j by omega]; exact i2) hk2 (((trT_y ⟨hof7, had10⟩).trans (trV_3 (x := x) (y := y) (n9 := n9) (q := q) (ed := ed))).trans eT14); exact h9) (by omega) (Fr3.tr i4 hFT14) (isU.fr i5 (hFT14.1 (ru + 1) (by omega) (by omega) (by omega))) (by omega) (by omega) _ _ ls w (lv_sub hl [0, 2, 1, 4, 5, 6, 7, 8, 9, 10, 11] rfl)
            · rw [hMe] at w
              refine z_if_eq (tgt := 249) hx hb (by omega) wdX1_passOverTones_104 (by decide) (fun c19 => ?_) (fun c19 => False.elim (by omega))
              refine lv_iload_n hx hb wdX1_passOverTones_249 rfl (lv_at hl 8 rfl) ?_
              refine lv_iconst (v := zI 2) hx hb wdX1_passOverTones_250 rfl ?_
              refine z_icmp_ne (tgt := 273) hx hb (by omega) (by omega) wdX1_passOverTones_251 (by decide) (fun c20 => ?_) (fun c20 => False.elim (by omega))
              refine lv_iload hx hb wdX1_passOverTones_273 (lv_at hl 2 rfl) ?_
              refine lv_iload hx hb wdX1_passOverTones_275 (lv_at hl 0 rfl) ?_
              refine z_iadd (z := (((cc + 0) : Nat) : Int)) hx hb wdX1_passOverTones_277 (by omega) ?_
              refine lv_istore (lv' := [(9, .int (zI (((cc + 0) : Nat) : Int))), (11, .int (zI 0)), (10, .int (zI (j : Int))), (8, .int (zI (k2 : Int))), (7, .int (zI ((o.1 : Nat) : Int))), (6, .int (zI (x : Int))), (5, .int (zI (y : Int))), (4, .int (zI (P 3))), (3, .int (zI 3)), (0, .ref (B + 23)), (1, .ref (B + ru)), (2, .ref (B + a))]) hx hb wdX1_passOverTones_278 hl (by decide) rfl (fun ls hl => ?_)
              refine lv_iload hx hb wdX1_passOverTones_280 (lv_at hl 3 rfl) ?_
              refine lv_iload hx hb wdX1_passOverTones_282 (lv_at hl 5 rfl) ?_
              refine z_if_eq (tgt := 291) hx hb (by omega) wdX1_passOverTones_284 (by decide) (fun c21 => ?_) (fun c21 => ?_)
              · refine lv_iload_n hx hb wdX1_passOverTones_291 rfl (lv_at hl 8 rfl) ?_
                refine lv_iconst (v := zI 5) hx hb wdX1_passOverTones_292 rfl ?_
                refine z_icmp_ne (tgt := 305) hx hb (by omega) (by omega) wdX1_passOverTones_293 (by decide) (fun c22 => ?_) (fun c22 => False.elim (by omega))
                refine lv_iconst (v := zI 1) hx hb wdX1_passOverTones_305 rfl ?_
                refine z_iadd (z := (((k2 + 1) : Nat) : Int)) hx hb wdX1_passOverTones_306 (by omega) ?_
                have hnb := nx_b 3 x 0 (k2 : Int)
                refine r_val (v := zI (nxT 3 x 0 (k2 : Int))) (congrArg zI (by rw [← nx_r (v := 3) (cc := 0) (show x ≠ 1 by omega) (by omega)]; omega)) ?_
                refine lv_istore (lv' := [(8, .int (zI (nxT 3 x 0 (k2 : Int)))), (9, .int (zI (((cc + 0) : Nat) : Int))), (11, .int (zI 0)), (10, .int (zI (j : Int))), (7, .int (zI ((o.1 : Nat) : Int))), (6, .int (zI (x : Int))), (5, .int (zI (y : Int))), (4, .int (zI (P 3))), (3, .int (zI 3)), (0, .ref (B + 23)), (1, .ref (B + ru)), (2, .ref (B + a))]) hx hb wdX1_passOverTones_307 hl (by decide) rfl (fun ls hl => ?_)
                refine z_iinc (v := (((j + 1) : Nat) : Int)) (lv' := [(10, .int (zI (((j + 1) : Nat) : Int))), (8, .int (zI (nxT 3 x 0 (k2 : Int)))), (9, .int (zI (((cc + 0) : Nat) : Int))), (11, .int (zI 0)), (7, .int (zI ((o.1 : Nat) : Int))), (6, .int (zI (x : Int))), (5, .int (zI (y : Int))), (4, .int (zI (P 3))), (3, .int (zI 3)), (0, .ref (B + 23)), (1, .ref (B + ru)), (2, .ref (B + a))]) hx hb wdX1_passOverTones_309 hl (k := 3) rfl (by omega) (by decide) rfl (fun ls hl => ?_)
                refine lv_goto (tgt := 65) hx hb wdX1_passOverTones_312 (by decide) ?_
                rw [show cc = cc + 0 from rfl] at hl
                exact ih (j + 1) (nxT 3 x 0 (k2 : Int)) (cc + 0) Nm o1 (by omega) i1 (by have h9 := tpI_s (f := o.1 - (j + 1)) (by rw [show o.1 - (j + 1) + 1 = o.1 - j by omega]; exact i2) hk2 (trT_n (fun h9 => had10 h9.2)); exact h9) (by omega) i4 i5 (by omega) (by omega) _ _ ls w (lv_sub hl [0, 2, 1, 4, 5, 6, 7, 8, 9, 10, 11] rfl)
              · refine lv_iconst (v := zI (-1)) hx hb wdX1_passOverTones_287 rfl ?_
                refine lv_goto (tgt := 306) hx hb wdX1_passOverTones_288 (by decide) ?_
                refine z_iadd (z := ((k2 : Int) + (-1))) hx hb wdX1_passOverTones_306 (by omega) ?_
                have hnb := nx_b 3 x 0 (k2 : Int)
                refine r_val (v := zI (nxT 3 x 0 (k2 : Int))) (congrArg zI (by rw [← nx_l (v := 3) (cc := 0) (show x = 1 by omega)]; omega)) ?_
                refine lv_istore (lv' := [(8, .int (zI (nxT 3 x 0 (k2 : Int)))), (9, .int (zI (((cc + 0) : Nat) : Int))), (11, .int (zI 0)), (10, .int (zI (j : Int))), (7, .int (zI ((o.1 : Nat) : Int))), (6, .int (zI (x : Int))), (5, .int (zI (y : Int))), (4, .int (zI (P 3))), (3, .int (zI 3)), (0, .ref (B + 23)), (1, .ref (B + ru)), (2, .ref (B + a))]) hx hb wdX1_passOverTones_307 hl (by decide) rfl (fun ls hl => ?_)
                refine z_iinc (v := (((j + 1) : Nat) : Int)) (lv' := [(10, .int (zI (((j + 1) : Nat) : Int))), (8, .int (zI (nxT 3 x 0 (k2 : Int)))), (9, .int (zI (((cc + 0) : Nat) : Int))), (11, .int (zI 0)), (7, .int (zI ((o.1 : Nat) : Int))), (6, .int (zI (x : Int))), (5, .int (zI (y : Int))), (4, .int (zI (P 3))), (3, .int (zI 3)), (0, .ref (B + 23)), (1, .ref (B + ru)), (2, .ref (B + a))]) hx hb wdX1_passOverTones_309 hl (k := 3) rfl (by omega) (by decide) rfl (fun ls hl => ?_)
                refine lv_goto (tgt := 65) hx hb wdX1_passOverTones_312 (by decide) ?_
                rw [show cc = cc + 0 from rfl] at hl
                exact ih (j + 1) (nxT 3 x 0 (k2 : Int)) (cc + 0) Nm o1 (by omega) i1 (by have h9 := tpI_s (f := o.1 - (j + 1)) (by rw [show o.1 - (j + 1) + 1 = o.1 - j by omega]; exact i2) hk2 (trT_n (fun h9 => had10 h9.2)); exact h9) (by omega) i4 i5 (by omega) (by omega) _ _ ls w (lv_sub hl [0, 2, 1, 4, 5, 6, 7, 8, 9, 10, 11] rfl)
          · rw [hMe] at w
            refine z_if_eq (tgt := 249) hx hb (by omega) wdX1_passOverTones_94 (by decide) (fun c23 => ?_) (fun c23 => False.elim (by omega))
            refine lv_iload_n hx hb wdX1_passOverTones_249 rfl (lv_at hl 8 rfl) ?_
            refine lv_iconst (v := zI 2) hx hb wdX1_passOverTones_250 rfl ?_
            refine z_icmp_ne (tgt := 273) hx hb (by omega) (by omega) wdX1_passOverTones_251 (by decide) (fun c24 => ?_) (fun c24 => False.elim (by omega))
            refine lv_iload hx hb wdX1_passOverTones_273 (lv_at hl 2 rfl) ?_
            refine lv_iload hx hb wdX1_passOverTones_275 (lv_at hl 0 rfl) ?_
            refine z_iadd (z := (((cc + 0) : Nat) : Int)) hx hb wdX1_passOverTones_277 (by omega) ?_
            refine lv_istore (lv' := [(9, .int (zI (((cc + 0) : Nat) : Int))), (11, .int (zI 0)), (10, .int (zI (j : Int))), (8, .int (zI (k2 : Int))), (7, .int (zI ((o.1 : Nat) : Int))), (6, .int (zI (x : Int))), (5, .int (zI (y : Int))), (4, .int (zI (P 3))), (3, .int (zI 3)), (0, .ref (B + 23)), (1, .ref (B + ru)), (2, .ref (B + a))]) hx hb wdX1_passOverTones_278 hl (by decide) rfl (fun ls hl => ?_)
            refine lv_iload hx hb wdX1_passOverTones_280 (lv_at hl 3 rfl) ?_
            refine lv_iload hx hb wdX1_passOverTones_282 (lv_at hl 5 rfl) ?_
            refine z_if_eq (tgt := 291) hx hb (by omega) wdX1_passOverTones_284 (by decide) (fun c25 => ?_) (fun c25 => ?_)
            · refine lv_iload_n hx hb wdX1_passOverTones_291 rfl (lv_at hl 8 rfl) ?_
              refine lv_iconst (v := zI 5) hx hb wdX1_passOverTones_292 rfl ?_
              refine z_icmp_ne (tgt := 305) hx hb (by omega) (by omega) wdX1_passOverTones_293 (by decide) (fun c26 => ?_) (fun c26 => False.elim (by omega))
              refine lv_iconst (v := zI 1) hx hb wdX1_passOverTones_305 rfl ?_
              refine z_iadd (z := (((k2 + 1) : Nat) : Int)) hx hb wdX1_passOverTones_306 (by omega) ?_
              have hnb := nx_b 3 x 0 (k2 : Int)
              refine r_val (v := zI (nxT 3 x 0 (k2 : Int))) (congrArg zI (by rw [← nx_r (v := 3) (cc := 0) (show x ≠ 1 by omega) (by omega)]; omega)) ?_
              refine lv_istore (lv' := [(8, .int (zI (nxT 3 x 0 (k2 : Int)))), (9, .int (zI (((cc + 0) : Nat) : Int))), (11, .int (zI 0)), (10, .int (zI (j : Int))), (7, .int (zI ((o.1 : Nat) : Int))), (6, .int (zI (x : Int))), (5, .int (zI (y : Int))), (4, .int (zI (P 3))), (3, .int (zI 3)), (0, .ref (B + 23)), (1, .ref (B + ru)), (2, .ref (B + a))]) hx hb wdX1_passOverTones_307 hl (by decide) rfl (fun ls hl => ?_)
              refine z_iinc (v := (((j + 1) : Nat) : Int)) (lv' := [(10, .int (zI (((j + 1) : Nat) : Int))), (8, .int (zI (nxT 3 x 0 (k2 : Int)))), (9, .int (zI (((cc + 0) : Nat) : Int))), (11, .int (zI 0)), (7, .int (zI ((o.1 : Nat) : Int))), (6, .int (zI (x : Int))), (5, .int (zI (y : Int))), (4, .int (zI (P 3))), (3, .int (zI 3)), (0, .ref (B + 23)), (1, .ref (B + ru)), (2, .ref (B + a))]) hx hb wdX1_passOverTones_309 hl (k := 3) rfl (by omega) (by decide) rfl (fun ls hl => ?_)
              refine lv_goto (tgt := 65) hx hb wdX1_passOverTones_312 (by decide) ?_
              rw [show cc = cc + 0 from rfl] at hl
              exact ih (j + 1) (nxT 3 x 0 (k2 : Int)) (cc + 0) Nm o1 (by omega) i1 (by have h9 := tpI_s (f := o.1 - (j + 1)) (by rw [show o.1 - (j + 1) + 1 = o.1 - j by omega]; exact i2) hk2 (trT_n (fun h9 => hof7 h9.1)); exact h9) (by omega) i4 i5 (by omega) (by omega) _ _ ls w (lv_sub hl [0, 2, 1, 4, 5, 6, 7, 8, 9, 10, 11] rfl)
            · refine lv_iconst (v := zI (-1)) hx hb wdX1_passOverTones_287 rfl ?_
              refine lv_goto (tgt := 306) hx hb wdX1_passOverTones_288 (by decide) ?_
              refine z_iadd (z := ((k2 : Int) + (-1))) hx hb wdX1_passOverTones_306 (by omega) ?_
              have hnb := nx_b 3 x 0 (k2 : Int)
              refine r_val (v := zI (nxT 3 x 0 (k2 : Int))) (congrArg zI (by rw [← nx_l (v := 3) (cc := 0) (show x = 1 by omega)]; omega)) ?_
              refine lv_istore (lv' := [(8, .int (zI (nxT 3 x 0 (k2 : Int)))), (9, .int (zI (((cc + 0) : Nat) : Int))), (11, .int (zI 0)), (10, .int (zI (j : Int))), (7, .int (zI ((o.1 : Nat) : Int))), (6, .int (zI (x : Int))), (5, .int (zI (y : Int))), (4, .int (zI (P 3))), (3, .int (zI 3)), (0, .ref (B + 23)), (1, .ref (B + ru)), (2, .ref (B + a))]) hx hb wdX1_passOverTones_307 hl (by decide) rfl (fun ls hl => ?_)
              refine z_iinc (v := (((j + 1) : Nat) : Int)) (lv' := [(10, .int (zI (((j + 1) : Nat) : Int))), (8, .int (zI (nxT 3 x 0 (k2 : Int)))), (9, .int (zI (((cc + 0) : Nat) : Int))), (11, .int (zI 0)), (7, .int (zI ((o.1 : Nat) : Int))), (6, .int (zI (x : Int))), (5, .int (zI (y : Int))), (4, .int (zI (P 3))), (3, .int (zI 3)), (0, .ref (B + 23)), (1, .ref (B + ru)), (2, .ref (B + a))]) hx hb wdX1_passOverTones_309 hl (k := 3) rfl (by omega) (by decide) rfl (fun ls hl => ?_)
              refine lv_goto (tgt := 65) hx hb wdX1_passOverTones_312 (by decide) ?_
              rw [show cc = cc + 0 from rfl] at hl
              exact ih (j + 1) (nxT 3 x 0 (k2 : Int)) (cc + 0) Nm o1 (by omega) i1 (by have h9 := tpI_s (f := o.1 - (j + 1)) (by rw [show o.1 - (j + 1) + 1 = o.1 - j by omega]; exact i2) hk2 (trT_n (fun h9 => hof7 h9.1)); exact h9) (by omega) i4 i5 (by omega) (by omega) _ _ ls w (lv_sub hl [0, 2, 1, 4, 5, 6, 7, 8, 9, 10, 11] rfl)
        · exact False.elim (by omega)
      · rw [hMe] at w
        refine z_if_eq (tgt := 315) hx hb (by omega) wdX1_passOverTones_78 (by decide) (fun c27 => ?_) (fun c27 => False.elim (by omega))
        exact kk j tz cc Nm o1 _ _ ls i1 (tpI_e i2 (by omega)) i4 (by omega) w (lv_sub hl [1] rfl)
set_option maxRecDepth 4000 in
theorem s_X1_over_3 {l : Launch} {D : va_G} {B : Nat} {cy : Nat → ClassId} {M : Mem} {a q hv ed : Nat} {o : Wo} (hk : kd a = (9, 0, 0)) (hC : CW M a q hv ed o) {ru : Nat} {P : Nat → Int} (hku : kd ru = (4, 0, 0)) (hU : isU M ru P) (hP : okP P) (hap : ru + 1 < a ∨ a + 2 < ru) {x y n9 : Nat} {t0 : Int} (hq0 : P 0 = 3) (hx8 : (x = 1 ∧ P 4 = 1 ∧ (P 0 = 1 ∨ P 0 = 2 ∨ P 0 = 4)) ∨ (x = 0 ∧ ¬ (P 4 = 1 ∧ (P 0 = 1 ∨ P 0 = 2 ∨ P 0 = 4)))) (hy8 : (P 4 = 1 ∧ y = 1) ∨ (P 4 ≠ 1 ∧ y = 0)) (ht0 : (x = 1 ∧ t0 = (o.1 : Int) - 1) ∨ (x = 0 ∧ t0 = 0)) (hz5 : P 5 = -2 ∨ (0 ≤ P 5 ∧ P 5 ≤ 6))  : Ci l D B cy yX1_passOverTones cX1_passOverTones 12 (some .int) 3 66 [.ref (B + 23), .ref (B + ru), .ref (B + a)] M (fun r M1 => TQ a q hv ed (tpF P 3 x y n9 q hv ed o.1 t0 o) 1884 M r M1) := by
  refine s_any (by decide) (Nat.le_of_ble_eq_true rfl) ?_
  intro p e s m below meth c ls F hr hlocks w hl
  have F : CallFix p m c cX1_passOverTones 12 s _ TB RX1 := F
  have hx := F.1
  have hb := F.2.1
  have hl : lv_has ls 12 [(0, .ref (B + 23)), (1, .ref (B + ru)), (2, .ref (B + a))] := hl
  have hW := hC.1
  have hwf := hC.wf
  have hKL := hwf.2.2.2.2
  have hn12 := hwf.1
  have hq12 := hwf.2.1
  have hP0 := hP 0 (by decide)
  have hP1 := hP 1 (by decide)
  have hP2 := hP 2 (by decide)
  have hP3 := hP 3 (by decide)
  have hP4 := hP 4 (by decide)
  have hP5 := hP 5 (by decide)
  have hP6 := hP 6 (by decide)
  have hP7 := hP 7 (by decide)
  refine lv_aload_n hx hb wdX1_passOverTones_0 rfl (lv_at hl 1 rfl) ?_
  refine f_4_0 F w (a := ru) hku wtb_45 wdX1_passOverTones_1 ?_
  refine lv_iconst (v := zI 0) hx hb wdX1_passOverTones_4 rfl ?_
  refine g_iald F w (a := (ru + 1)) (kd_r1 hku) (j := 0) ⟨by decide, by decide⟩ (by omega) wdX1_passOverTones_5 ?_
  refine r_val (v := (zI (P 0))) (hU 0 (by decide)) ?_
  refine r_val (v := (zI 3)) (congrArg zI hq0) ?_
  refine lv_istore_n (lv' := [(3, .int (zI 3)), (0, .ref (B + 23)), (1, .ref (B + ru)), (2, .ref (B + a))]) hx hb wdX1_passOverTones_6 rfl hl (by decide) rfl (fun ls hl => ?_)
  refine lv_aload_n hx hb wdX1_passOverTones_7 rfl (lv_at hl 2 rfl) ?_
  refine f_4_0 F w (a := ru) hku wtb_45 wdX1_passOverTones_8 ?_
  refine lv_iconst (v := zI 3) hx hb wdX1_passOverTones_11 rfl ?_
  refine g_iald F w (a := (ru + 1)) (kd_r1 hku) (j := 3) ⟨by decide, by decide⟩ (by omega) wdX1_passOverTones_12 ?_
  refine r_val (v := (zI (P 3))) (hU 3 (by decide)) ?_
  refine lv_istore (lv' := [(4, .int (zI (P 3))), (3, .int (zI 3)), (0, .ref (B + 23)), (1, .ref (B + ru)), (2, .ref (B + a))]) hx hb wdX1_passOverTones_13 hl (by decide) rfl (fun ls hl => ?_)
  refine lv_aload_n hx hb wdX1_passOverTones_15 rfl (lv_at hl 3 rfl) ?_
  refine f_4_0 F w (a := ru) hku wtb_45 wdX1_passOverTones_16 ?_
  refine lv_iconst (v := zI 4) hx hb wdX1_passOverTones_19 rfl ?_
  refine g_iald F w (a := (ru + 1)) (kd_r1 hku) (j := 4) ⟨by decide, by decide⟩ (by omega) wdX1_passOverTones_20 ?_
  refine r_val (v := (zI (P 4))) (hU 4 (by decide)) ?_
  refine lv_iconst (v := zI 1) hx hb wdX1_passOverTones_21 rfl ?_
  refine z_icmp_ne (tgt := 29) hx hb (by omega) (by omega) wdX1_passOverTones_22 (by decide) (fun c1 => ?_) (fun c1 => ?_)
  · refine lv_iconst (v := zI 0) hx hb wdX1_passOverTones_29 rfl ?_
    refine r_val (v := zI ((y : Nat) : Int)) (congrArg zI (by omega)) ?_
    refine lv_istore (lv' := [(5, .int (zI (y : Int))), (4, .int (zI (P 3))), (3, .int (zI 3)), (0, .ref (B + 23)), (1, .ref (B + ru)), (2, .ref (B + a))]) hx hb wdX1_passOverTones_30 hl (by decide) rfl (fun ls hl => ?_)
    refine lv_aload_n hx hb wdX1_passOverTones_32 rfl (lv_at hl 4 rfl) ?_
    refine k_Vi F w (As := []) (rest := []) (a := ru) (kd_lt (a := ru) hku (by decide)) (sh_4 hku _ _) rfl (s_X4_goesLeft hku hU hP) wgv_X1_90 whv_X4_goesLeft ⟨(Nat.le_of_ble_eq_true rfl), (Nat.le_of_ble_eq_true rfl)⟩ hl.1 rfl (Nat.le_of_ble_eq_true rfl) ⟨Nat.zero_le _, Nat.zero_le _⟩ wdX1_passOverTones_33 (fun r Ma3 H locs hp w => ?_)
    rcases hp with ⟨⟨hlf2, rfl⟩ | ⟨hlf2, rfl⟩, hMe⟩
    · rw [hMe] at w
      refine r_val (v := zI ((x : Nat) : Int)) (congrArg zI (by omega)) ?_
      refine lv_istore (lv' := [(6, .int (zI (x : Int))), (5, .int (zI (y : Int))), (4, .int (zI (P 3))), (3, .int (zI 3)), (0, .ref (B + 23)), (1, .ref (B + ru)), (2, .ref (B + a))]) hx hb wdX1_passOverTones_36 hl (by decide) rfl (fun ls hl => ?_)
      refine lv_aload_n hx hb wdX1_passOverTones_38 rfl (lv_at hl 6 rfl) ?_
      refine f_9_0 F w (a := a) hk wtb_32 wdX1_passOverTones_39 ?_
      refine r_val (v := (zI ((o.1 : Nat) : Int))) (hW.1) ?_
      refine lv_istore (lv' := [(7, .int (zI ((o.1 : Nat) : Int))), (6, .int (zI (x : Int))), (5, .int (zI (y : Int))), (4, .int (zI (P 3))), (3, .int (zI 3)), (0, .ref (B + 23)), (1, .ref (B + ru)), (2, .ref (B + a))]) hx hb wdX1_passOverTones_42 hl (by decide) rfl (fun ls hl => ?_)
      refine lv_iload hx hb wdX1_passOverTones_44 (lv_at hl 1 rfl) ?_
      refine z_if_eq (tgt := 56) hx hb (by omega) wdX1_passOverTones_46 (by decide) (fun c4 => ?_) (fun c4 => ?_)
      · refine lv_iconst (v := zI 0) hx hb wdX1_passOverTones_56 rfl ?_
        refine r_val (v := zI t0) (congrArg zI (by omega)) ?_
        refine lv_istore (lv' := [(8, .int (zI t0)), (7, .int (zI ((o.1 : Nat) : Int))), (6, .int (zI (x : Int))), (5, .int (zI (y : Int))), (4, .int (zI (P 3))), (3, .int (zI 3)), (0, .ref (B + 23)), (1, .ref (B + ru)), (2, .ref (B + a))]) hx hb wdX1_passOverTones_57 hl (by decide) rfl (fun ls hl => ?_)
        refine lv_iconst (v := zI 0) hx hb wdX1_passOverTones_59 rfl ?_
        refine lv_istore (lv' := [(9, .int (zI 0)), (8, .int (zI t0)), (7, .int (zI ((o.1 : Nat) : Int))), (6, .int (zI (x : Int))), (5, .int (zI (y : Int))), (4, .int (zI (P 3))), (3, .int (zI 3)), (0, .ref (B + 23)), (1, .ref (B + ru)), (2, .ref (B + a))]) hx hb wdX1_passOverTones_60 hl (by decide) rfl (fun ls hl => ?_)
        refine lv_iconst (v := zI 0) hx hb wdX1_passOverTones_62 rfl ?_
        refine lv_istore (lv' := [(10, .int (zI 0)), (9, .int (zI 0)), (8, .int (zI t0)), (7, .int (zI ((o.1 : Nat) : Int))), (6, .int (zI (x : Int))), (5, .int (zI (y : Int))), (4, .int (zI (P 3))), (3, .int (zI 3)), (0, .ref (B + 23)), (1, .ref (B + ru)), (2, .ref (B + a))]) hx hb wdX1_passOverTones_63 hl (by decide) rfl (fun ls hl => ?_)
        have hx01 : x = 0 ∨ x = 1 := by omega
        have hy01 : y = 0 ∨ y = 1 := by omega
        refine lp_X1_over_3  F (Nat.le_of_ble_eq_true rfl) (Nat.le_of_ble_eq_true rfl) (x := x) (y := y) (n9 := n9) hk hku hP hn12 hx01 hy01 hz5 hap (fun j tz cc Nm o1 H locs ls x0 x1 x2 x3 w hl => ?_) o.1 0 t0 0 M o (by omega) hC tpI_0 (by omega) Fr3.rf hU (by omega) (by omega) _ _ ls w (lv_sub hl [0, 1, 2, 3, 4, 5, 6, 7, 8, 9, 10] rfl)
        refine lv_iload hx hb wdX1_passOverTones_315 (lv_at hl 0 rfl) ?_
        exact e_i F w hr hlocks ⟨o1, cc, x1, rfl, x0, x2, x3⟩ wdX1_passOverTones_317
      · refine lv_iload hx hb wdX1_passOverTones_49 (lv_at hl 0 rfl) ?_
        refine lv_iconst (v := zI 1) hx hb wdX1_passOverTones_51 rfl ?_
        refine z_isub (z := (((o.1 : Nat) : Int) - 1)) hx hb wdX1_passOverTones_52 (by omega) ?_
        refine lv_goto (tgt := 57) hx hb wdX1_passOverTones_53 (by decide) ?_
        refine r_val (v := zI t0) (congrArg zI (by omega)) ?_
        refine lv_istore (lv' := [(8, .int (zI t0)), (7, .int (zI ((o.1 : Nat) : Int))), (6, .int (zI (x : Int))), (5, .int (zI (y : Int))), (4, .int (zI (P 3))), (3, .int (zI 3)), (0, .ref (B + 23)), (1, .ref (B + ru)), (2, .ref (B + a))]) hx hb wdX1_passOverTones_57 hl (by decide) rfl (fun ls hl => ?_)
        refine lv_iconst (v := zI 0) hx hb wdX1_passOverTones_59 rfl ?_
        refine lv_istore (lv' := [(9, .int (zI 0)), (8, .int (zI t0)), (7, .int (zI ((o.1 : Nat) : Int))), (6, .int (zI (x : Int))), (5, .int (zI (y : Int))), (4, .int (zI (P 3))), (3, .int (zI 3)), (0, .ref (B + 23)), (1, .ref (B + ru)), (2, .ref (B + a))]) hx hb wdX1_passOverTones_60 hl (by decide) rfl (fun ls hl => ?_)
        refine lv_iconst (v := zI 0) hx hb wdX1_passOverTones_62 rfl ?_
        refine lv_istore (lv' := [(10, .int (zI 0)), (9, .int (zI 0)), (8, .int (zI t0)), (7, .int (zI ((o.1 : Nat) : Int))), (6, .int (zI (x : Int))), (5, .int (zI (y : Int))), (4, .int (zI (P 3))), (3, .int (zI 3)), (0, .ref (B + 23)), (1, .ref (B + ru)), (2, .ref (B + a))]) hx hb wdX1_passOverTones_63 hl (by decide) rfl (fun ls hl => ?_)
        have hx01 : x = 0 ∨ x = 1 := by omega
        have hy01 : y = 0 ∨ y = 1 := by omega
        refine lp_X1_over_3  F (Nat.le_of_ble_eq_true rfl) (Nat.le_of_ble_eq_true rfl) (x := x) (y := y) (n9 := n9) hk hku hP hn12 hx01 hy01 hz5 hap (fun j tz cc Nm o1 H locs ls x0 x1 x2 x3 w hl => ?_) o.1 0 t0 0 M o (by omega) hC tpI_0 (by omega) Fr3.rf hU (by omega) (by omega) _ _ ls w (lv_sub hl [0, 1, 2, 3, 4, 5, 6, 7, 8, 9, 10] rfl)
        refine lv_iload hx hb wdX1_passOverTones_315 (lv_at hl 0 rfl) ?_
        exact e_i F w hr hlocks ⟨o1, cc, x1, rfl, x0, x2, x3⟩ wdX1_passOverTones_317
    · rw [hMe] at w
      refine r_val (v := zI ((x : Nat) : Int)) (congrArg zI (by omega)) ?_
      refine lv_istore (lv' := [(6, .int (zI (x : Int))), (5, .int (zI (y : Int))), (4, .int (zI (P 3))), (3, .int (zI 3)), (0, .ref (B + 23)), (1, .ref (B + ru)), (2, .ref (B + a))]) hx hb wdX1_passOverTones_36 hl (by decide) rfl (fun ls hl => ?_)
      refine lv_aload_n hx hb wdX1_passOverTones_38 rfl (lv_at hl 6 rfl) ?_
      refine f_9_0 F w (a := a) hk wtb_32 wdX1_passOverTones_39 ?_
      refine r_val (v := (zI ((o.1 : Nat) : Int))) (hW.1) ?_
      refine lv_istore (lv' := [(7, .int (zI ((o.1 : Nat) : Int))), (6, .int (zI (x : Int))), (5, .int (zI (y : Int))), (4, .int (zI (P 3))), (3, .int (zI 3)), (0, .ref (B + 23)), (1, .ref (B + ru)), (2, .ref (B + a))]) hx hb wdX1_passOverTones_42 hl (by decide) rfl (fun ls hl => ?_)
      refine lv_iload hx hb wdX1_passOverTones_44 (lv_at hl 1 rfl) ?_
      refine z_if_eq (tgt := 56) hx hb (by omega) wdX1_passOverTones_46 (by decide) (fun c5 => ?_) (fun c5 => ?_)
      · refine lv_iconst (v := zI 0) hx hb wdX1_passOverTones_56 rfl ?_
        refine r_val (v := zI t0) (congrArg zI (by omega)) ?_
        refine lv_istore (lv' := [(8, .int (zI t0)), (7, .int (zI ((o.1 : Nat) : Int))), (6, .int (zI (x : Int))), (5, .int (zI (y : Int))), (4, .int (zI (P 3))), (3, .int (zI 3)), (0, .ref (B + 23)), (1, .ref (B + ru)), (2, .ref (B + a))]) hx hb wdX1_passOverTones_57 hl (by decide) rfl (fun ls hl => ?_)
        refine lv_iconst (v := zI 0) hx hb wdX1_passOverTones_59 rfl ?_
        refine lv_istore (lv' := [(9, .int (zI 0)), (8, .int (zI t0)), (7, .int (zI ((o.1 : Nat) : Int))), (6, .int (zI (x : Int))), (5, .int (zI (y : Int))), (4, .int (zI (P 3))), (3, .int (zI 3)), (0, .ref (B + 23)), (1, .ref (B + ru)), (2, .ref (B + a))]) hx hb wdX1_passOverTones_60 hl (by decide) rfl (fun ls hl => ?_)
        refine lv_iconst (v := zI 0) hx hb wdX1_passOverTones_62 rfl ?_
        refine lv_istore (lv' := [(10, .int (zI 0)), (9, .int (zI 0)), (8, .int (zI t0)), (7, .int (zI ((o.1 : Nat) : Int))), (6, .int (zI (x : Int))), (5, .int (zI (y : Int))), (4, .int (zI (P 3))), (3, .int (zI 3)), (0, .ref (B + 23)), (1, .ref (B + ru)), (2, .ref (B + a))]) hx hb wdX1_passOverTones_63 hl (by decide) rfl (fun ls hl => ?_)
        have hx01 : x = 0 ∨ x = 1 := by omega
        have hy01 : y = 0 ∨ y = 1 := by omega
        refine lp_X1_over_3  F (Nat.le_of_ble_eq_true rfl) (Nat.le_of_ble_eq_true rfl) (x := x) (y := y) (n9 := n9) hk hku hP hn12 hx01 hy01 hz5 hap (fun j tz cc Nm o1 H locs ls x0 x1 x2 x3 w hl => ?_) o.1 0 t0 0 M o (by omega) hC tpI_0 (by omega) Fr3.rf hU (by omega) (by omega) _ _ ls w (lv_sub hl [0, 1, 2, 3, 4, 5, 6, 7, 8, 9, 10] rfl)
        refine lv_iload hx hb wdX1_passOverTones_315 (lv_at hl 0 rfl) ?_
        exact e_i F w hr hlocks ⟨o1, cc, x1, rfl, x0, x2, x3⟩ wdX1_passOverTones_317
      · refine lv_iload hx hb wdX1_passOverTones_49 (lv_at hl 0 rfl) ?_
        refine lv_iconst (v := zI 1) hx hb wdX1_passOverTones_51 rfl ?_
        refine z_isub (z := (((o.1 : Nat) : Int) - 1)) hx hb wdX1_passOverTones_52 (by omega) ?_
        refine lv_goto (tgt := 57) hx hb wdX1_passOverTones_53 (by decide) ?_
        refine r_val (v := zI t0) (congrArg zI (by omega)) ?_
        refine lv_istore (lv' := [(8, .int (zI t0)), (7, .int (zI ((o.1 : Nat) : Int))), (6, .int (zI (x : Int))), (5, .int (zI (y : Int))), (4, .int (zI (P 3))), (3, .int (zI 3)), (0, .ref (B + 23)), (1, .ref (B + ru)), (2, .ref (B + a))]) hx hb wdX1_passOverTones_57 hl (by decide) rfl (fun ls hl => ?_)
        refine lv_iconst (v := zI 0) hx hb wdX1_passOverTones_59 rfl ?_
        refine lv_istore (lv' := [(9, .int (zI 0)), (8, .int (zI t0)), (7, .int (zI ((o.1 : Nat) : Int))), (6, .int (zI (x : Int))), (5, .int (zI (y : Int))), (4, .int (zI (P 3))), (3, .int (zI 3)), (0, .ref (B + 23)), (1, .ref (B + ru)), (2, .ref (B + a))]) hx hb wdX1_passOverTones_60 hl (by decide) rfl (fun ls hl => ?_)
        refine lv_iconst (v := zI 0) hx hb wdX1_passOverTones_62 rfl ?_
        refine lv_istore (lv' := [(10, .int (zI 0)), (9, .int (zI 0)), (8, .int (zI t0)), (7, .int (zI ((o.1 : Nat) : Int))), (6, .int (zI (x : Int))), (5, .int (zI (y : Int))), (4, .int (zI (P 3))), (3, .int (zI 3)), (0, .ref (B + 23)), (1, .ref (B + ru)), (2, .ref (B + a))]) hx hb wdX1_passOverTones_63 hl (by decide) rfl (fun ls hl => ?_)
        have hx01 : x = 0 ∨ x = 1 := by omega
        have hy01 : y = 0 ∨ y = 1 := by omega
        refine lp_X1_over_3  F (Nat.le_of_ble_eq_true rfl) (Nat.le_of_ble_eq_true rfl) (x := x) (y := y) (n9 := n9) hk hku hP hn12 hx01 hy01 hz5 hap (fun j tz cc Nm o1 H locs ls x0 x1 x2 x3 w hl => ?_) o.1 0 t0 0 M o (by omega) hC tpI_0 (by omega) Fr3.rf hU (by omega) (by omega) _ _ ls w (lv_sub hl [0, 1, 2, 3, 4, 5, 6, 7, 8, 9, 10] rfl)
        refine lv_iload hx hb wdX1_passOverTones_315 (lv_at hl 0 rfl) ?_
        exact e_i F w hr hlocks ⟨o1, cc, x1, rfl, x0, x2, x3⟩ wdX1_passOverTones_317
  · refine lv_iconst (v := zI 1) hx hb wdX1_passOverTones_25 rfl ?_
    refine lv_goto (tgt := 30) hx hb wdX1_passOverTones_26 (by decide) ?_
    refine r_val (v := zI ((y : Nat) : Int)) (congrArg zI (by omega)) ?_
    refine lv_istore (lv' := [(5, .int (zI (y : Int))), (4, .int (zI (P 3))), (3, .int (zI 3)), (0, .ref (B + 23)), (1, .ref (B + ru)), (2, .ref (B + a))]) hx hb wdX1_passOverTones_30 hl (by decide) rfl (fun ls hl => ?_)
    refine lv_aload_n hx hb wdX1_passOverTones_32 rfl (lv_at hl 4 rfl) ?_
    refine k_Vi F w (As := []) (rest := []) (a := ru) (kd_lt (a := ru) hku (by decide)) (sh_4 hku _ _) rfl (s_X4_goesLeft hku hU hP) wgv_X1_90 whv_X4_goesLeft ⟨(Nat.le_of_ble_eq_true rfl), (Nat.le_of_ble_eq_true rfl)⟩ hl.1 rfl (Nat.le_of_ble_eq_true rfl) ⟨Nat.zero_le _, Nat.zero_le _⟩ wdX1_passOverTones_33 (fun r Ma7 H locs hp w => ?_)
    rcases hp with ⟨⟨hlf6, rfl⟩ | ⟨hlf6, rfl⟩, hMe⟩
    · rw [hMe] at w
      refine r_val (v := zI ((x : Nat) : Int)) (congrArg zI (by omega)) ?_
      refine lv_istore (lv' := [(6, .int (zI (x : Int))), (5, .int (zI (y : Int))), (4, .int (zI (P 3))), (3, .int (zI 3)), (0, .ref (B + 23)), (1, .ref (B + ru)), (2, .ref (B + a))]) hx hb wdX1_passOverTones_36 hl (by decide) rfl (fun ls hl => ?_)
      refine lv_aload_n hx hb wdX1_passOverTones_38 rfl (lv_at hl 6 rfl) ?_
      refine f_9_0 F w (a := a) hk wtb_32 wdX1_passOverTones_39 ?_
      refine r_val (v := (zI ((o.1 : Nat) : Int))) (hW.1) ?_
      refine lv_istore (lv' := [(7, .int (zI ((o.1 : Nat) : Int))), (6, .int (zI (x : Int))), (5, .int (zI (y : Int))), (4, .int (zI (P 3))), (3, .int (zI 3)), (0, .ref (B + 23)), (1, .ref (B + ru)), (2, .ref (B + a))]) hx hb wdX1_passOverTones_42 hl (by decide) rfl (fun ls hl => ?_)
      refine lv_iload hx hb wdX1_passOverTones_44 (lv_at hl 1 rfl) ?_
      refine z_if_eq (tgt := 56) hx hb (by omega) wdX1_passOverTones_46 (by decide) (fun c8 => ?_) (fun c8 => ?_)
      · refine lv_iconst (v := zI 0) hx hb wdX1_passOverTones_56 rfl ?_
        refine r_val (v := zI t0) (congrArg zI (by omega)) ?_
        refine lv_istore (lv' := [(8, .int (zI t0)), (7, .int (zI ((o.1 : Nat) : Int))), (6, .int (zI (x : Int))), (5, .int (zI (y : Int))), (4, .int (zI (P 3))), (3, .int (zI 3)), (0, .ref (B + 23)), (1, .ref (B + ru)), (2, .ref (B + a))]) hx hb wdX1_passOverTones_57 hl (by decide) rfl (fun ls hl => ?_)
        refine lv_iconst (v := zI 0) hx hb wdX1_passOverTones_59 rfl ?_
        refine lv_istore (lv' := [(9, .int (zI 0)), (8, .int (zI t0)), (7, .int (zI ((o.1 : Nat) : Int))), (6, .int (zI (x : Int))), (5, .int (zI (y : Int))), (4, .int (zI (P 3))), (3, .int (zI 3)), (0, .ref (B + 23)), (1, .ref (B + ru)), (2, .ref (B + a))]) hx hb wdX1_passOverTones_60 hl (by decide) rfl (fun ls hl => ?_)
        refine lv_iconst (v := zI 0) hx hb wdX1_passOverTones_62 rfl ?_
        refine lv_istore (lv' := [(10, .int (zI 0)), (9, .int (zI 0)), (8, .int (zI t0)), (7, .int (zI ((o.1 : Nat) : Int))), (6, .int (zI (x : Int))), (5, .int (zI (y : Int))), (4, .int (zI (P 3))), (3, .int (zI 3)), (0, .ref (B + 23)), (1, .ref (B + ru)), (2, .ref (B + a))]) hx hb wdX1_passOverTones_63 hl (by decide) rfl (fun ls hl => ?_)
        have hx01 : x = 0 ∨ x = 1 := by omega
        have hy01 : y = 0 ∨ y = 1 := by omega
        refine lp_X1_over_3  F (Nat.le_of_ble_eq_true rfl) (Nat.le_of_ble_eq_true rfl) (x := x) (y := y) (n9 := n9) hk hku hP hn12 hx01 hy01 hz5 hap (fun j tz cc Nm o1 H locs ls x0 x1 x2 x3 w hl => ?_) o.1 0 t0 0 M o (by omega) hC tpI_0 (by omega) Fr3.rf hU (by omega) (by omega) _ _ ls w (lv_sub hl [0, 1, 2, 3, 4, 5, 6, 7, 8, 9, 10] rfl)
        refine lv_iload hx hb wdX1_passOverTones_315 (lv_at hl 0 rfl) ?_
        exact e_i F w hr hlocks ⟨o1, cc, x1, rfl, x0, x2, x3⟩ wdX1_passOverTones_317
      · refine lv_iload hx hb wdX1_passOverTones_49 (lv_at hl 0 rfl) ?_
        refine lv_iconst (v := zI 1) hx hb wdX1_passOverTones_51 rfl ?_
        refine z_isub (z := (((o.1 : Nat) : Int) - 1)) hx hb wdX1_passOverTones_52 (by omega) ?_
        refine lv_goto (tgt := 57) hx hb wdX1_passOverTones_53 (by decide) ?_
        refine r_val (v := zI t0) (congrArg zI (by omega)) ?_
        refine lv_istore (lv' := [(8, .int (zI t0)), (7, .int (zI ((o.1 : Nat) : Int))), (6, .int (zI (x : Int))), (5, .int (zI (y : Int))), (4, .int (zI (P 3))), (3, .int (zI 3)), (0, .ref (B + 23)), (1, .ref (B + ru)), (2, .ref (B + a))]) hx hb wdX1_passOverTones_57 hl (by decide) rfl (fun ls hl => ?_)
        refine lv_iconst (v := zI 0) hx hb wdX1_passOverTones_59 rfl ?_
        refine lv_istore (lv' := [(9, .int (zI 0)), (8, .int (zI t0)), (7, .int (zI ((o.1 : Nat) : Int))), (6, .int (zI (x : Int))), (5, .int (zI (y : Int))), (4, .int (zI (P 3))), (3, .int (zI 3)), (0, .ref (B + 23)), (1, .ref (B + ru)), (2, .ref (B + a))]) hx hb wdX1_passOverTones_60 hl (by decide) rfl (fun ls hl => ?_)
        refine lv_iconst (v := zI 0) hx hb wdX1_passOverTones_62 rfl ?_
        refine lv_istore (lv' := [(10, .int (zI 0)), (9, .int (zI 0)), (8, .int (zI t0)), (7, .int (zI ((o.1 : Nat) : Int))), (6, .int (zI (x : Int))), (5, .int (zI (y : Int))), (4, .int (zI (P 3))), (3, .int (zI 3)), (0, .ref (B + 23)), (1, .ref (B + ru)), (2, .ref (B + a))]) hx hb wdX1_passOverTones_63 hl (by decide) rfl (fun ls hl => ?_)
        have hx01 : x = 0 ∨ x = 1 := by omega
        have hy01 : y = 0 ∨ y = 1 := by omega
        refine lp_X1_over_3  F (Nat.le_of_ble_eq_true rfl) (Nat.le_of_ble_eq_true rfl) (x := x) (y := y) (n9 := n9) hk hku hP hn12 hx01 hy01 hz5 hap (fun j tz cc Nm o1 H locs ls x0 x1 x2 x3 w hl => ?_) o.1 0 t0 0 M o (by omega) hC tpI_0 (by omega) Fr3.rf hU (by omega) (by omega) _ _ ls w (lv_sub hl [0, 1, 2, 3, 4, 5, 6, 7, 8, 9, 10] rfl)
        refine lv_iload hx hb wdX1_passOverTones_315 (lv_at hl 0 rfl) ?_
        exact e_i F w hr hlocks ⟨o1, cc, x1, rfl, x0, x2, x3⟩ wdX1_passOverTones_317
    · rw [hMe] at w
      refine r_val (v := zI ((x : Nat) : Int)) (congrArg zI (by omega)) ?_
      refine lv_istore (lv' := [(6, .int (zI (x : Int))), (5, .int (zI (y : Int))), (4, .int (zI (P 3))), (3, .int (zI 3)), (0, .ref (B + 23)), (1, .ref (B + ru)), (2, .ref (B + a))]) hx hb wdX1_passOverTones_36 hl (by decide) rfl (fun ls hl => ?_)
      refine lv_aload_n hx hb wdX1_passOverTones_38 rfl (lv_at hl 6 rfl) ?_
      refine f_9_0 F w (a := a) hk wtb_32 wdX1_passOverTones_39 ?_
      refine r_val (v := (zI ((o.1 : Nat) : Int))) (hW.1) ?_
      refine lv_istore (lv' := [(7, .int (zI ((o.1 : Nat) : Int))), (6, .int (zI (x : Int))), (5, .int (zI (y : Int))), (4, .int (zI (P 3))), (3, .int (zI 3)), (0, .ref (B + 23)), (1, .ref (B + ru)), (2, .ref (B + a))]) hx hb wdX1_passOverTones_42 hl (by decide) rfl (fun ls hl => ?_)
      refine lv_iload hx hb wdX1_passOverTones_44 (lv_at hl 1 rfl) ?_
      refine z_if_eq (tgt := 56) hx hb (by omega) wdX1_passOverTones_46 (by decide) (fun c9 => ?_) (fun c9 => ?_)
      · refine lv_iconst (v := zI 0) hx hb wdX1_passOverTones_56 rfl ?_
        refine r_val (v := zI t0) (congrArg zI (by omega)) ?_
        refine lv_istore (lv' := [(8, .int (zI t0)), (7, .int (zI ((o.1 : Nat) : Int))), (6, .int (zI (x : Int))), (5, .int (zI (y : Int))), (4, .int (zI (P 3))), (3, .int (zI 3)), (0, .ref (B + 23)), (1, .ref (B + ru)), (2, .ref (B + a))]) hx hb wdX1_passOverTones_57 hl (by decide) rfl (fun ls hl => ?_)
        refine lv_iconst (v := zI 0) hx hb wdX1_passOverTones_59 rfl ?_
        refine lv_istore (lv' := [(9, .int (zI 0)), (8, .int (zI t0)), (7, .int (zI ((o.1 : Nat) : Int))), (6, .int (zI (x : Int))), (5, .int (zI (y : Int))), (4, .int (zI (P 3))), (3, .int (zI 3)), (0, .ref (B + 23)), (1, .ref (B + ru)), (2, .ref (B + a))]) hx hb wdX1_passOverTones_60 hl (by decide) rfl (fun ls hl => ?_)
        refine lv_iconst (v := zI 0) hx hb wdX1_passOverTones_62 rfl ?_
        refine lv_istore (lv' := [(10, .int (zI 0)), (9, .int (zI 0)), (8, .int (zI t0)), (7, .int (zI ((o.1 : Nat) : Int))), (6, .int (zI (x : Int))), (5, .int (zI (y : Int))), (4, .int (zI (P 3))), (3, .int (zI 3)), (0, .ref (B + 23)), (1, .ref (B + ru)), (2, .ref (B + a))]) hx hb wdX1_passOverTones_63 hl (by decide) rfl (fun ls hl => ?_)
        have hx01 : x = 0 ∨ x = 1 := by omega
        have hy01 : y = 0 ∨ y = 1 := by omega
        refine lp_X1_over_3  F (Nat.le_of_ble_eq_true rfl) (Nat.le_of_ble_eq_true rfl) (x := x) (y := y) (n9 := n9) hk hku hP hn12 hx01 hy01 hz5 hap (fun j tz cc Nm o1 H locs ls x0 x1 x2 x3 w hl => ?_) o.1 0 t0 0 M o (by omega) hC tpI_0 (by omega) Fr3.rf hU (by omega) (by omega) _ _ ls w (lv_sub hl [0, 1, 2, 3, 4, 5, 6, 7, 8, 9, 10] rfl)
        refine lv_iload hx hb wdX1_passOverTones_315 (lv_at hl 0 rfl) ?_
        exact e_i F w hr hlocks ⟨o1, cc, x1, rfl, x0, x2, x3⟩ wdX1_passOverTones_317
      · refine lv_iload hx hb wdX1_passOverTones_49 (lv_at hl 0 rfl) ?_
        refine lv_iconst (v := zI 1) hx hb wdX1_passOverTones_51 rfl ?_
        refine z_isub (z := (((o.1 : Nat) : Int) - 1)) hx hb wdX1_passOverTones_52 (by omega) ?_
        refine lv_goto (tgt := 57) hx hb wdX1_passOverTones_53 (by decide) ?_
        refine r_val (v := zI t0) (congrArg zI (by omega)) ?_
        refine lv_istore (lv' := [(8, .int (zI t0)), (7, .int (zI ((o.1 : Nat) : Int))), (6, .int (zI (x : Int))), (5, .int (zI (y : Int))), (4, .int (zI (P 3))), (3, .int (zI 3)), (0, .ref (B + 23)), (1, .ref (B + ru)), (2, .ref (B + a))]) hx hb wdX1_passOverTones_57 hl (by decide) rfl (fun ls hl => ?_)
        refine lv_iconst (v := zI 0) hx hb wdX1_passOverTones_59 rfl ?_
        refine lv_istore (lv' := [(9, .int (zI 0)), (8, .int (zI t0)), (7, .int (zI ((o.1 : Nat) : Int))), (6, .int (zI (x : Int))), (5, .int (zI (y : Int))), (4, .int (zI (P 3))), (3, .int (zI 3)), (0, .ref (B + 23)), (1, .ref (B + ru)), (2, .ref (B + a))]) hx hb wdX1_passOverTones_60 hl (by decide) rfl (fun ls hl => ?_)
        refine lv_iconst (v := zI 0) hx hb wdX1_passOverTones_62 rfl ?_
        refine lv_istore (lv' := [(10, .int (zI 0)), (9, .int (zI 0)), (8, .int (zI t0)), (7, .int (zI ((o.1 : Nat) : Int))), (6, .int (zI (x : Int))), (5, .int (zI (y : Int))), (4, .int (zI (P 3))), (3, .int (zI 3)), (0, .ref (B + 23)), (1, .ref (B + ru)), (2, .ref (B + a))]) hx hb wdX1_passOverTones_63 hl (by decide) rfl (fun ls hl => ?_)
        have hx01 : x = 0 ∨ x = 1 := by omega
        have hy01 : y = 0 ∨ y = 1 := by omega
        refine lp_X1_over_3  F (Nat.le_of_ble_eq_true rfl) (Nat.le_of_ble_eq_true rfl) (x := x) (y := y) (n9 := n9) hk hku hP hn12 hx01 hy01 hz5 hap (fun j tz cc Nm o1 H locs ls x0 x1 x2 x3 w hl => ?_) o.1 0 t0 0 M o (by omega) hC tpI_0 (by omega) Fr3.rf hU (by omega) (by omega) _ _ ls w (lv_sub hl [0, 1, 2, 3, 4, 5, 6, 7, 8, 9, 10] rfl)
        refine lv_iload hx hb wdX1_passOverTones_315 (lv_at hl 0 rfl) ?_
        exact e_i F w hr hlocks ⟨o1, cc, x1, rfl, x0, x2, x3⟩ wdX1_passOverTones_317
theorem wdX1_passOverTones_197 : decode cX1_passOverTones 197 = .ok (.aload_n 0, 1) := dq0 kk_42 (by decide +kernel)
theorem wdX1_passOverTones_198 : decode cX1_passOverTones 198 = .ok (.aload_n 2, 1) := dq0 kk_44 (by decide +kernel)
theorem wdX1_passOverTones_199 : decode cX1_passOverTones 199 = .ok (.iload 8, 2) := dqU kk_21 (by decide +kernel)
theorem wdX1_passOverTones_201 : decode cX1_passOverTones 201 = .ok (.iload 6, 2) := dqU kk_21 (by decide +kernel)
theorem wdX1_passOverTones_203 : decode cX1_passOverTones 203 = .ok (.invokevirtual 111, 3) := dqV kk_182 (by decide +kernel)
theorem wtk_X1_dock : Cond.code yX1_dock cX1_dock 7 (some .int) ∈ TB := tbm (tc4 (List.mem_of_getElem? (i := 71) rfl)) rfl
theorem wgc_X1_dock : GoodIn TB (cw yX1_dock cX1_dock 7 (some .int)) := goodIn_c2 wtk_X1_dock
theorem wtb_77 : Cond.methodLink "ToneLines$Doer" 111 yX1_dock ∈ TB := tbm (tc4 (List.mem_of_getElem? (i := 68) rfl)) rfl
theorem wtb_78 : Cond.instanceMethod yX1_dock ∈ TB := tbm (tc4 (List.mem_of_getElem? (i := 70) rfl)) rfl
theorem wtb_79 : Cond.selects "ToneLines$Doer" yX1_dock yX1_dock ∈ TB := tbp (List.mem_of_getElem? (i := 24) rfl) rfl
theorem wgv_X1_111 : GoodIn TB (wsV RX1 111 RX1 yX1_dock (cw yX1_dock cX1_dock 7 (some .int))) := goodIn_4 wtb_77 wtb_78 wtb_79 wtb_52 wgc_X1_dock
theorem whv_X1_dock : yX1_dock.cls = RX1 ∧ yX1_dock.cls ≠ "java/lang/invoke/MethodHandle" ∧ yX1_dock.cls ≠ "java/lang/invoke/VarHandle" ∧ (parseMethodDescriptor yX1_dock.desc).map (fun d => d.parameters.length) = some 3 := by decide +kernel
theorem wdX1_passOverTones_206 : decode cX1_passOverTones 206 = .ok (.istore 11, 2) := dqU kk_54 (by decide +kernel)
theorem wdX1_passOverTones_208 : decode cX1_passOverTones 208 = .ok (.goto 41, 3) := dqT kk_167 (by decide +kernel)
set_option maxRecDepth 4000 in
theorem lp_X1_over_4 {p : Program} {l : Launch} {e : Env} {s : State} {m : MethodId} {args : Array Value} {below : List Frame} {meth : Method} {c : Code} {D : va_G} {B : Nat} {cy : Nat → ClassId} {H0 : Heap} {Q : State → Prop} {M : Mem} {R : Room} {a ru q hv ed x y n9 : Nat} {o : Wo} {P : Nat → Int} {t0 : Int} (F : CallFix p m c cX1_passOverTones 12 s args TB RX1) (hR1 : 3 ≤ R.frames) (hR2 : 74 ≤ R.locals) (hk : kd a = (9, 0, 0)) (hku : kd ru = (4, 0, 0)) (hP : okP P) (hn12 : o.1 ≤ 12) (hx01 : x = 0 ∨ x = 1) (hy01 : y = 0 ∨ y = 1) (hz5 : P 5 = -2 ∨ (0 ≤ P 5 ∧ P 5 ≤ 6)) (hap : ru + 1 < a ∨ a + 2 < ru)  (kk : ∀ (j : Nat) (tz : Int) (cc : Nat) (Nm : Mem) (o1 : Wo) (H : Heap) (locs : List Loc) (ls : Array Slot), (CW Nm a q hv ed o1) → (tpF P 4 x y n9 q hv ed o.1 t0 o = (o1, cc)) → (Fr3 Nm M a) → (cc ≤ 1884) → Wd D B cy s H0 Nm H locs → lv_has ls 12 [(9, .int (zI (cc : Int)))] → W p l e R s m args below meth c H locs 0 0 Q (F0 m 315 ls [])) : ∀ (f : Nat) (j : Nat) (tz : Int) (cc : Nat) (Nm : Mem) (o1 : Wo), (j ≤ o.1) → (CW Nm a q hv ed o1) → (tpI P 4 x y n9 q hv ed o.1 t0 o (o.1 - j) tz o1 cc) → (cc ≤ 157 * j) → (Fr3 Nm M a) → (isU Nm ru P) → (-2 - (j : Int) ≤ tz ∧ tz ≤ 12 + (j : Int)) → (o.1 ≤ j + f) → ∀ (H : Heap) (locs : List Loc) (ls : Array Slot), Wd D B cy s H0 Nm H locs → lv_has ls 12 [(10, .int (zI (j : Int))), (9, .int (zI (cc : Int))), (8, .int (zI tz)), (7, .int (zI ((o.1 : Nat) : Int))), (6, .int (zI (x : Int))), (5, .int (zI (y : Int))), (4, .int (zI (P 3))), (3, .int (zI 4)), (0, .ref (B + 23)), (1, .ref (B + ru)), (2, .ref (B + a))] → W p l e R s m args below meth c H locs 0 0 Q (F0 m 65 ls []) := by
  have hx := F.1
  have hb := F.2.1
  have hP0 := hP 0 (by decide)
  have hP1 := hP 1 (by decide)
  have hP2 := hP 2 (by decide)
  have hP3 := hP 3 (by decide)
  have hP4 := hP 4 (by decide)
  have hP5 := hP 5 (by decide)
  have hP6 := hP 6 (by decide)
  have hP7 := hP 7 (by decide)
  intro f
  induction f with
  | zero =>
    intro j tz cc Nm o1 i0 i1 i2 i3 i4 i5 i6 hf H locs ls w hl
    have hW1 := i1.1
    have hwf1 := i1.wf
    have hKL1 := hwf1.2.2.2.2
    have hn1 := hwf1.1
    refine lv_iload hx hb wdX1_passOverTones_65 (lv_at hl 0 rfl) ?_
    refine lv_iload hx hb wdX1_passOverTones_67 (lv_at hl 3 rfl) ?_
    refine z_icmp_ge (tgt := 315) hx hb (by omega) (by omega) wdX1_passOverTones_69 (by decide) (fun c1 => ?_) (fun c1 => False.elim (by omega))
    exact kk j tz cc Nm o1 _ _ ls i1 (tpI_e i2 (by omega)) i4 (by omega) w (lv_sub hl [1] rfl)
  | succ f ih =>
    intro j tz cc Nm o1 i0 i1 i2 i3 i4 i5 i6 hf H locs ls w hl
    have hW1 := i1.1
    have hwf1 := i1.wf
    have hKL1 := hwf1.2.2.2.2
    have hn1 := hwf1.1
    refine lv_iload hx hb wdX1_passOverTones_65 (lv_at hl 0 rfl) ?_
    refine lv_iload hx hb wdX1_passOverTones_67 (lv_at hl 3 rfl) ?_
    refine z_icmp_ge (tgt := 315) hx hb (by omega) (by omega) wdX1_passOverTones_69 (by decide) (fun c1 => ?_) (fun c1 => ?_)
    · exact kk j tz cc Nm o1 _ _ ls i1 (tpI_e i2 (by omega)) i4 (by omega) w (lv_sub hl [1] rfl)
    · refine lv_aload_n hx hb wdX1_passOverTones_72 rfl (lv_at hl 10 rfl) ?_
      refine lv_iload hx hb wdX1_passOverTones_73 (lv_at hl 2 rfl) ?_
      refine k_Vi F w (As := [.int (zI tz)]) (rest := []) (a := a) (kd_lt (a := a) hk (by decide)) (sh_9 hk _ _) rfl (s_X9_hasTone hk hW1 hwf1 (by omega)) wgv_X1_47 whv_X9_hasTone ⟨(by omega), (by omega)⟩ hl.1 rfl (Nat.le_of_ble_eq_true rfl) ⟨Nat.zero_le _, Nat.zero_le _⟩ wdX1_passOverTones_75 (fun r Ma3 H locs hp w => ?_)
      rcases hp with ⟨⟨k2, rfl, hk2, rfl⟩ | ⟨nk2, rfl⟩, hMe⟩
      · rw [hMe] at w
        refine z_if_eq (tgt := 315) hx hb (by omega) wdX1_passOverTones_78 (by decide) (fun c4 => False.elim (by omega)) (fun c4 => ?_)
        refine lv_iconst (v := zI 0) hx hb wdX1_passOverTones_81 rfl ?_
        refine lv_istore (lv' := [(11, .int (zI 0)), (10, .int (zI (j : Int))), (9, .int (zI (cc : Int))), (8, .int (zI (k2 : Int))), (7, .int (zI ((o.1 : Nat) : Int))), (6, .int (zI (x : Int))), (5, .int (zI (y : Int))), (4, .int (zI (P 3))), (3, .int (zI 4)), (0, .ref (B + 23)), (1, .ref (B + ru)), (2, .ref (B + a))]) hx hb wdX1_passOverTones_82 hl (by decide) rfl (fun ls hl => ?_)
        refine lv_aload_n hx hb wdX1_passOverTones_84 rfl (lv_at hl 10 rfl) ?_
        refine lv_aload_n hx hb wdX1_passOverTones_85 rfl (lv_at hl 11 rfl) ?_
        refine lv_iload hx hb wdX1_passOverTones_86 (lv_at hl 3 rfl) ?_
        refine k_Vi F w (As := [.int (zI (k2 : Int))]) (rest := [.ref (B + ru)]) (a := a) (kd_lt (a := a) hk (by decide)) (sh_9 hk _ _) rfl (s_X9_kindOf hk hW1 hwf1 (by omega)) wgv_X1_94 whv_X9_kindOf ⟨(by omega), (by omega)⟩ hl.1 rfl (Nat.le_of_ble_eq_true rfl) ⟨Nat.zero_le _, Nat.zero_le _⟩ wdX1_passOverTones_88 (fun r Ma6 H locs hp w => ?_)
        rcases hp with ⟨⟨k5, ek5, hk5, rfl⟩ | ⟨nk5, rfl⟩, hMe⟩
        · obtain rfl : k2 = k5 := by omega
          rw [hMe] at w
          have gk5 := (hKL1 k2 (by omega)).1
          refine k_Vi F w (As := [.int (zI (((o1.2.1 k2) : Nat) : Int))]) (rest := []) (a := ru) (kd_lt (a := ru) hku (by decide)) (sh_4 hku _ _) rfl (s_X4_isOf hku i5 hP (z := (((o1.2.1 k2) : Nat) : Int)) (by omega)) wgv_X1_97 whv_X4_isOf ⟨(by omega), (by omega)⟩ hl.1 rfl (Nat.le_of_ble_eq_true rfl) ⟨Nat.zero_le _, Nat.zero_le _⟩ wdX1_passOverTones_91 (fun r Ma8 H locs hp w => ?_)
          rcases hp with ⟨⟨hof7, rfl⟩ | ⟨hof7, rfl⟩, hMe⟩
          · rw [hMe] at w
            refine z_if_eq (tgt := 249) hx hb (by omega) wdX1_passOverTones_94 (by decide) (fun c9 => False.elim (by omega)) (fun c9 => ?_)
            refine lv_aload_n hx hb wdX1_passOverTones_97 rfl (lv_at hl 10 rfl) ?_
            refine lv_aload_n hx hb wdX1_passOverTones_98 rfl (lv_at hl 11 rfl) ?_
            refine lv_iload hx hb wdX1_passOverTones_99 (lv_at hl 3 rfl) ?_
            refine k_Vi F w (As := [.ref (B + a), .int (zI (k2 : Int))]) (rest := []) (a := ru) (kd_lt (a := ru) hku (by decide)) (sh_4 hku _ _) rfl (s_X4_admits hk i1 hku i5 hP (t := k2) hk2 hz5) wgv_X1_100 whv_X4_admits ⟨(by omega), (by omega)⟩ hl.1 rfl (Nat.le_of_ble_eq_true rfl) ⟨Nat.zero_le _, Nat.zero_le _⟩ wdX1_passOverTones_101 (fun r Ma11 H locs hp w => ?_)
            rcases hp with ⟨⟨had10, rfl⟩ | ⟨had10, rfl⟩, hMe⟩
            · rw [hMe] at w
              refine z_if_eq (tgt := 249) hx hb (by omega) wdX1_passOverTones_104 (by decide) (fun c12 => False.elim (by omega)) (fun c12 => ?_)
              refine lv_iload_n hx hb wdX1_passOverTones_107 rfl (lv_at hl 8 rfl) ?_
              rcases (show (4 : Int) = 4 by omega) with c13
              refine r_val (v := zI 4) (congrArg zI c13) ?_
              refine lv_tableIn (tgt := 197) hx hb wdX1_passOverTones_108 (by decide) (by decide) (off := 89) rfl (by decide) ?_
              refine lv_aload_n hx hb wdX1_passOverTones_197 rfl (lv_at hl 9 rfl) ?_
              refine lv_aload_n hx hb wdX1_passOverTones_198 rfl (lv_at hl 11 rfl) ?_
              refine lv_iload hx hb wdX1_passOverTones_199 (lv_at hl 3 rfl) ?_
              refine lv_iload hx hb wdX1_passOverTones_201 (lv_at hl 5 rfl) ?_
              refine k_Vi F w (As := [.ref (B + a), .int (zI (k2 : Int)), .int (zI (x : Int))]) (rest := []) (a := 23) (kd_lt (a := 23) (show kd 23 = (1, 0, 0) from rfl) (by decide)) (sh_1 rfl _ _) rfl (u_dock hk i1 (t := k2) hk2 (x := x) hx01) wgv_X1_111 whv_X1_dock ⟨(by omega), (by omega)⟩ hl.1 rfl (Nat.le_of_ble_eq_true rfl) ⟨Nat.zero_le _, Nat.zero_le _⟩ wdX1_passOverTones_203 (fun r Ma15 H locs hp w => ?_)
              rcases hp with ⟨oT14, dT14, eT14, rfl, hCT14, hFT14, hdT14⟩
              refine lv_istore (lv' := [(11, .int (zI (dT14 : Int))), (10, .int (zI (j : Int))), (9, .int (zI (cc : Int))), (8, .int (zI (k2 : Int))), (7, .int (zI ((o.1 : Nat) : Int))), (6, .int (zI (x : Int))), (5, .int (zI (y : Int))), (4, .int (zI (P 3))), (3, .int (zI 4)), (0, .ref (B + 23)), (1, .ref (B + ru)), (2, .ref (B + a))]) hx hb wdX1_passOverTones_206 hl (by decide) rfl (fun ls hl => ?_)
              refine lv_goto (tgt := 249) hx hb wdX1_passOverTones_208 (by decide) ?_
              refine lv_iload_n hx hb wdX1_passOverTones_249 rfl (lv_at hl 8 rfl) ?_
              refine lv_iconst (v := zI 2) hx hb wdX1_passOverTones_250 rfl ?_
              refine z_icmp_ne (tgt := 273) hx hb (by omega) (by omega) wdX1_passOverTones_251 (by decide) (fun c16 => ?_) (fun c16 => False.elim (by omega))
              refine lv_iload hx hb wdX1_passOverTones_273 (lv_at hl 2 rfl) ?_
              refine lv_iload hx hb wdX1_passOverTones_275 (lv_at hl 0 rfl) ?_
              refine z_iadd (z := (((cc + dT14) : Nat) : Int)) hx hb wdX1_passOverTones_277 (by omega) ?_
              refine lv_istore (lv' := [(9, .int (zI (((cc + dT14) : Nat) : Int))), (11, .int (zI (dT14 : Int))), (10, .int (zI (j : Int))), (8, .int (zI (k2 : Int))), (7, .int (zI ((o.1 : Nat) : Int))), (6, .int (zI (x : Int))), (5, .int (zI (y : Int))), (4, .int (zI (P 3))), (3, .int (zI 4)), (0, .ref (B + 23)), (1, .ref (B + ru)), (2, .ref (B + a))]) hx hb wdX1_passOverTones_278 hl (by decide) rfl (fun ls hl => ?_)
              refine lv_iload hx hb wdX1_passOverTones_280 (lv_at hl 3 rfl) ?_
              refine lv_iload hx hb wdX1_passOverTones_282 (lv_at hl 5 rfl) ?_
              refine z_if_eq (tgt := 291) hx hb (by omega) wdX1_passOverTones_284 (by decide) (fun c17 => ?_) (fun c17 => ?_)
              · refine lv_iload_n hx hb wdX1_passOverTones_291 rfl (lv_at hl 8 rfl) ?_
                refine lv_iconst (v := zI 5) hx hb wdX1_passOverTones_292 rfl ?_
                refine z_icmp_ne (tgt := 305) hx hb (by omega) (by omega) wdX1_passOverTones_293 (by decide) (fun c18 => ?_) (fun c18 => False.elim (by omega))
                refine lv_iconst (v := zI 1) hx hb wdX1_passOverTones_305 rfl ?_
                refine z_iadd (z := (((k2 + 1) : Nat) : Int)) hx hb wdX1_passOverTones_306 (by omega) ?_
                have hnb := nx_b 4 x dT14 (k2 : Int)
                refine r_val (v := zI (nxT 4 x dT14 (k2 : Int))) (congrArg zI (by rw [← nx_r (v := 4) (cc := dT14) (show x ≠ 1 by omega) (by omega)]; omega)) ?_
                refine lv_istore (lv' := [(8, .int (zI (nxT 4 x dT14 (k2 : Int)))), (9, .int (zI (((cc + dT14) : Nat) : Int))), (11, .int (zI (dT14 : Int))), (10, .int (zI (j : Int))), (7, .int (zI ((o.1 : Nat) : Int))), (6, .int (zI (x : Int))), (5, .int (zI (y : Int))), (4, .int (zI (P 3))), (3, .int (zI 4)), (0, .ref (B + 23)), (1, .ref (B + ru)), (2, .ref (B + a))]) hx hb wdX1_passOverTones_307 hl (by decide) rfl (fun ls hl => ?_)
                refine z_iinc (v := (((j + 1) : Nat) : Int)) (lv' := [(10, .int (zI (((j + 1) : Nat) : Int))), (8, .int (zI (nxT 4 x dT14 (k2 : Int)))), (9, .int (zI (((cc + dT14) : Nat) : Int))), (11, .int (zI (dT14 : Int))), (7, .int (zI ((o.1 : Nat) : Int))), (6, .int (zI (x : Int))), (5, .int (zI (y : Int))), (4, .int (zI (P 3))), (3, .int (zI 4)), (0, .ref (B + 23)), (1, .ref (B + ru)), (2, .ref (B + a))]) hx hb wdX1_passOverTones_309 hl (k := 3) rfl (by omega) (by decide) rfl (fun ls hl => ?_)
                refine lv_goto (tgt := 65) hx hb wdX1_passOverTones_312 (by decide) ?_
                exact ih (j + 1) (nxT 4 x dT14 (k2 : Int)) (cc + dT14) Ma15 oT14 (by omega) hCT14 (by have h9 := tpI_s (f := o.1 - (j + 1)) (by rw [show o.1 - (j + 1) + 1 = o.1 - j by omega]; exact i2) hk2 (((trT_y ⟨hof7, had10⟩).trans (trV_4 (x := x) (y := y) (n9 := n9) (q := q) (ed := ed))).trans eT14); exact h9) (by omega) (Fr3.tr i4 hFT14) (isU.fr i5 (hFT14.1 (ru + 1) (by omega) (by omega) (by omega))) (by omega) (by omega) _ _ ls w (lv_sub hl [0, 2, 1, 4, 5, 6, 7, 8, 9, 10, 11] rfl)
              · refine lv_iconst (v := zI (-1)) hx hb wdX1_passOverTones_287 rfl ?_
                refine lv_goto (tgt := 306) hx hb wdX1_passOverTones_288 (by decide) ?_
                refine z_iadd (z := ((k2 : Int) + (-1))) hx hb wdX1_passOverTones_306 (by omega) ?_
                have hnb := nx_b 4 x dT14 (k2 : Int)
                refine r_val (v := zI (nxT 4 x dT14 (k2 : Int))) (congrArg zI (by rw [← nx_l (v := 4) (cc := dT14) (show x = 1 by omega)]; omega)) ?_
                refine lv_istore (lv' := [(8, .int (zI (nxT 4 x dT14 (k2 : Int)))), (9, .int (zI (((cc + dT14) : Nat) : Int))), (11, .int (zI (dT14 : Int))), (10, .int (zI (j : Int))), (7, .int (zI ((o.1 : Nat) : Int))), (6, .int (zI (x : Int))), (5, .int (zI (y : Int))), (4, .int (zI (P 3))), (3, .int (zI 4)), (0, .ref (B + 23)), (1, .ref (B + ru)), (2, .ref (B + a))]) hx hb wdX1_passOverTones_307 hl (by decide) rfl (fun ls hl => ?_)
                refine z_iinc (v := (((j + 1) : Nat) : Int)) (lv' := [(10, .int (zI (((j + 1) : Nat) : Int))), (8, .int (zI (nxT 4 x dT14 (k2 : Int)))), (9, .int (zI (((cc + dT14) : Nat) : Int))), (11, .int (zI (dT14 : Int))), (7, .int (zI ((o.1 : Nat) : Int))), (6, .int (zI (x : Int))), (5, .int (zI (y : Int))), (4, .int (zI (P 3))), (3, .int (zI 4)), (0, .ref (B + 23)), (1, .ref (B + ru)), (2, .ref (B + a))]) hx hb wdX1_passOverTones_309 hl (k := 3) rfl (by omega) (by decide) rfl (fun ls hl => ?_)
                refine lv_goto (tgt := 65) hx hb wdX1_passOverTones_312 (by decide) ?_
                exact ih (j + 1) (nxT 4 x dT14 (k2 : Int)) (cc + dT14) Ma15 oT14 (by omega) hCT14 (by have h9 := tpI_s (f := o.1 - (j + 1)) (by rw [show o.1 - (j + 1) + 1 = o.1 - j by omega]; exact i2) hk2 (((trT_y ⟨hof7, had10⟩).trans (trV_4 (x := x) (y := y) (n9 := n9) (q := q) (ed := ed))).trans eT14); exact h9) (by omega) (Fr3.tr i4 hFT14) (isU.fr i5 (hFT14.1 (ru + 1) (by omega) (by omega) (by omega))) (by omega) (by omega) _ _ ls w (lv_sub hl [0, 2, 1, 4, 5, 6, 7, 8, 9, 10, 11] rfl)
            · rw [hMe] at w
              refine z_if_eq (tgt := 249) hx hb (by omega) wdX1_passOverTones_104 (by decide) (fun c19 => ?_) (fun c19 => False.elim (by omega))
              refine lv_iload_n hx hb wdX1_passOverTones_249 rfl (lv_at hl 8 rfl) ?_
              refine lv_iconst (v := zI 2) hx hb wdX1_passOverTones_250 rfl ?_
              refine z_icmp_ne (tgt := 273) hx hb (by omega) (by omega) wdX1_passOverTones_251 (by decide) (fun c20 => ?_) (fun c20 => False.elim (by omega))
              refine lv_iload hx hb wdX1_passOverTones_273 (lv_at hl 2 rfl) ?_
              refine lv_iload hx hb wdX1_passOverTones_275 (lv_at hl 0 rfl) ?_
              refine z_iadd (z := (((cc + 0) : Nat) : Int)) hx hb wdX1_passOverTones_277 (by omega) ?_
              refine lv_istore (lv' := [(9, .int (zI (((cc + 0) : Nat) : Int))), (11, .int (zI 0)), (10, .int (zI (j : Int))), (8, .int (zI (k2 : Int))), (7, .int (zI ((o.1 : Nat) : Int))), (6, .int (zI (x : Int))), (5, .int (zI (y : Int))), (4, .int (zI (P 3))), (3, .int (zI 4)), (0, .ref (B + 23)), (1, .ref (B + ru)), (2, .ref (B + a))]) hx hb wdX1_passOverTones_278 hl (by decide) rfl (fun ls hl => ?_)
              refine lv_iload hx hb wdX1_passOverTones_280 (lv_at hl 3 rfl) ?_
              refine lv_iload hx hb wdX1_passOverTones_282 (lv_at hl 5 rfl) ?_
              refine z_if_eq (tgt := 291) hx hb (by omega) wdX1_passOverTones_284 (by decide) (fun c21 => ?_) (fun c21 => ?_)
              · refine lv_iload_n hx hb wdX1_passOverTones_291 rfl (lv_at hl 8 rfl) ?_
                refine lv_iconst (v := zI 5) hx hb wdX1_passOverTones_292 rfl ?_
                refine z_icmp_ne (tgt := 305) hx hb (by omega) (by omega) wdX1_passOverTones_293 (by decide) (fun c22 => ?_) (fun c22 => False.elim (by omega))
                refine lv_iconst (v := zI 1) hx hb wdX1_passOverTones_305 rfl ?_
                refine z_iadd (z := (((k2 + 1) : Nat) : Int)) hx hb wdX1_passOverTones_306 (by omega) ?_
                have hnb := nx_b 4 x 0 (k2 : Int)
                refine r_val (v := zI (nxT 4 x 0 (k2 : Int))) (congrArg zI (by rw [← nx_r (v := 4) (cc := 0) (show x ≠ 1 by omega) (by omega)]; omega)) ?_
                refine lv_istore (lv' := [(8, .int (zI (nxT 4 x 0 (k2 : Int)))), (9, .int (zI (((cc + 0) : Nat) : Int))), (11, .int (zI 0)), (10, .int (zI (j : Int))), (7, .int (zI ((o.1 : Nat) : Int))), (6, .int (zI (x : Int))), (5, .int (zI (y : Int))), (4, .int (zI (P 3))), (3, .int (zI 4)), (0, .ref (B + 23)), (1, .ref (B + ru)), (2, .ref (B + a))]) hx hb wdX1_passOverTones_307 hl (by decide) rfl (fun ls hl => ?_)
                refine z_iinc (v := (((j + 1) : Nat) : Int)) (lv' := [(10, .int (zI (((j + 1) : Nat) : Int))), (8, .int (zI (nxT 4 x 0 (k2 : Int)))), (9, .int (zI (((cc + 0) : Nat) : Int))), (11, .int (zI 0)), (7, .int (zI ((o.1 : Nat) : Int))), (6, .int (zI (x : Int))), (5, .int (zI (y : Int))), (4, .int (zI (P 3))), (3, .int (zI 4)), (0, .ref (B + 23)), (1, .ref (B + ru)), (2, .ref (B + a))]) hx hb wdX1_passOverTones_309 hl (k := 3) rfl (by omega) (by decide) rfl (fun ls hl => ?_)
                refine lv_goto (tgt := 65) hx hb wdX1_passOverTones_312 (by decide) ?_
                rw [show cc = cc + 0 from rfl] at hl
                exact ih (j + 1) (nxT 4 x 0 (k2 : Int)) (cc + 0) Nm o1 (by omega) i1 (by have h9 := tpI_s (f := o.1 - (j + 1)) (by rw [show o.1 - (j + 1) + 1 = o.1 - j by omega]; exact i2) hk2 (trT_n (fun h9 => had10 h9.2)); exact h9) (by omega) i4 i5 (by omega) (by omega) _ _ ls w (lv_sub hl [0, 2, 1, 4, 5, 6, 7, 8, 9, 10, 11] rfl)
              · refine lv_iconst (v := zI (-1)) hx hb wdX1_passOverTones_287 rfl ?_
                refine lv_goto (tgt := 306) hx hb wdX1_passOverTones_288 (by decide) ?_
                refine z_iadd (z := ((k2 : Int) + (-1))) hx hb wdX1_passOverTones_306 (by omega) ?_
                have hnb := nx_b 4 x 0 (k2 : Int)
                refine r_val (v := zI (nxT 4 x 0 (k2 : Int))) (congrArg zI (by rw [← nx_l (v := 4) (cc := 0) (show x = 1 by omega)]; omega)) ?_
                refine lv_istore (lv' := [(8, .int (zI (nxT 4 x 0 (k2 : Int)))), (9, .int (zI (((cc + 0) : Nat) : Int))), (11, .int (zI 0)), (10, .int (zI (j : Int))), (7, .int (zI ((o.1 : Nat) : Int))), (6, .int (zI (x : Int))), (5, .int (zI (y : Int))), (4, .int (zI (P 3))), (3, .int (zI 4)), (0, .ref (B + 23)), (1, .ref (B + ru)), (2, .ref (B + a))]) hx hb wdX1_passOverTones_307 hl (by decide) rfl (fun ls hl => ?_)
                refine z_iinc (v := (((j + 1) : Nat) : Int)) (lv' := [(10, .int (zI (((j + 1) : Nat) : Int))), (8, .int (zI (nxT 4 x 0 (k2 : Int)))), (9, .int (zI (((cc + 0) : Nat) : Int))), (11, .int (zI 0)), (7, .int (zI ((o.1 : Nat) : Int))), (6, .int (zI (x : Int))), (5, .int (zI (y : Int))), (4, .int (zI (P 3))), (3, .int (zI 4)), (0, .ref (B + 23)), (1, .ref (B + ru)), (2, .ref (B + a))]) hx hb wdX1_passOverTones_309 hl (k := 3) rfl (by omega) (by decide) rfl (fun ls hl => ?_)
                refine lv_goto (tgt := 65) hx hb wdX1_passOverTones_312 (by decide) ?_
                rw [show cc = cc + 0 from rfl] at hl
                exact ih (j + 1) (nxT 4 x 0 (k2 : Int)) (cc + 0) Nm o1 (by omega) i1 (by have h9 := tpI_s (f := o.1 - (j + 1)) (by rw [show o.1 - (j + 1) + 1 = o.1 - j by omega]; exact i2) hk2 (trT_n (fun h9 => had10 h9.2)); exact h9) (by omega) i4 i5 (by omega) (by omega) _ _ ls w (lv_sub hl [0, 2, 1, 4, 5, 6, 7, 8, 9, 10, 11] rfl)
          · rw [hMe] at w
            refine z_if_eq (tgt := 249) hx hb (by omega) wdX1_passOverTones_94 (by decide) (fun c23 => ?_) (fun c23 => False.elim (by omega))
            refine lv_iload_n hx hb wdX1_passOverTones_249 rfl (lv_at hl 8 rfl) ?_
            refine lv_iconst (v := zI 2) hx hb wdX1_passOverTones_250 rfl ?_
            refine z_icmp_ne (tgt := 273) hx hb (by omega) (by omega) wdX1_passOverTones_251 (by decide) (fun c24 => ?_) (fun c24 => False.elim (by omega))
            refine lv_iload hx hb wdX1_passOverTones_273 (lv_at hl 2 rfl) ?_
            refine lv_iload hx hb wdX1_passOverTones_275 (lv_at hl 0 rfl) ?_
            refine z_iadd (z := (((cc + 0) : Nat) : Int)) hx hb wdX1_passOverTones_277 (by omega) ?_
            refine lv_istore (lv' := [(9, .int (zI (((cc + 0) : Nat) : Int))), (11, .int (zI 0)), (10, .int (zI (j : Int))), (8, .int (zI (k2 : Int))), (7, .int (zI ((o.1 : Nat) : Int))), (6, .int (zI (x : Int))), (5, .int (zI (y : Int))), (4, .int (zI (P 3))), (3, .int (zI 4)), (0, .ref (B + 23)), (1, .ref (B + ru)), (2, .ref (B + a))]) hx hb wdX1_passOverTones_278 hl (by decide) rfl (fun ls hl => ?_)
            refine lv_iload hx hb wdX1_passOverTones_280 (lv_at hl 3 rfl) ?_
            refine lv_iload hx hb wdX1_passOverTones_282 (lv_at hl 5 rfl) ?_
            refine z_if_eq (tgt := 291) hx hb (by omega) wdX1_passOverTones_284 (by decide) (fun c25 => ?_) (fun c25 => ?_)
            · refine lv_iload_n hx hb wdX1_passOverTones_291 rfl (lv_at hl 8 rfl) ?_
              refine lv_iconst (v := zI 5) hx hb wdX1_passOverTones_292 rfl ?_
              refine z_icmp_ne (tgt := 305) hx hb (by omega) (by omega) wdX1_passOverTones_293 (by decide) (fun c26 => ?_) (fun c26 => False.elim (by omega))
              refine lv_iconst (v := zI 1) hx hb wdX1_passOverTones_305 rfl ?_
              refine z_iadd (z := (((k2 + 1) : Nat) : Int)) hx hb wdX1_passOverTones_306 (by omega) ?_
              have hnb := nx_b 4 x 0 (k2 : Int)
              refine r_val (v := zI (nxT 4 x 0 (k2 : Int))) (congrArg zI (by rw [← nx_r (v := 4) (cc := 0) (show x ≠ 1 by omega) (by omega)]; omega)) ?_
              refine lv_istore (lv' := [(8, .int (zI (nxT 4 x 0 (k2 : Int)))), (9, .int (zI (((cc + 0) : Nat) : Int))), (11, .int (zI 0)), (10, .int (zI (j : Int))), (7, .int (zI ((o.1 : Nat) : Int))), (6, .int (zI (x : Int))), (5, .int (zI (y : Int))), (4, .int (zI (P 3))), (3, .int (zI 4)), (0, .ref (B + 23)), (1, .ref (B + ru)), (2, .ref (B + a))]) hx hb wdX1_passOverTones_307 hl (by decide) rfl (fun ls hl => ?_)
              refine z_iinc (v := (((j + 1) : Nat) : Int)) (lv' := [(10, .int (zI (((j + 1) : Nat) : Int))), (8, .int (zI (nxT 4 x 0 (k2 : Int)))), (9, .int (zI (((cc + 0) : Nat) : Int))), (11, .int (zI 0)), (7, .int (zI ((o.1 : Nat) : Int))), (6, .int (zI (x : Int))), (5, .int (zI (y : Int))), (4, .int (zI (P 3))), (3, .int (zI 4)), (0, .ref (B + 23)), (1, .ref (B + ru)), (2, .ref (B + a))]) hx hb wdX1_passOverTones_309 hl (k := 3) rfl (by omega) (by decide) rfl (fun ls hl => ?_)
              refine lv_goto (tgt := 65) hx hb wdX1_passOverTones_312 (by decide) ?_
              rw [show cc = cc + 0 from rfl] at hl
              exact ih (j + 1) (nxT 4 x 0 (k2 : Int)) (cc + 0) Nm o1 (by omega) i1 (by have h9 := tpI_s (f := o.1 - (j + 1)) (by rw [show o.1 - (j + 1) + 1 = o.1 - j by omega]; exact i2) hk2 (trT_n (fun h9 => hof7 h9.1)); exact h9) (by omega) i4 i5 (by omega) (by omega) _ _ ls w (lv_sub hl [0, 2, 1, 4, 5, 6, 7, 8, 9, 10, 11] rfl)
            · refine lv_iconst (v := zI (-1)) hx hb wdX1_passOverTones_287 rfl ?_
              refine lv_goto (tgt := 306) hx hb wdX1_passOverTones_288 (by decide) ?_
              refine z_iadd (z := ((k2 : Int) + (-1))) hx hb wdX1_passOverTones_306 (by omega) ?_
              have hnb := nx_b 4 x 0 (k2 : Int)
              refine r_val (v := zI (nxT 4 x 0 (k2 : Int))) (congrArg zI (by rw [← nx_l (v := 4) (cc := 0) (show x = 1 by omega)]; omega)) ?_
              refine lv_istore (lv' := [(8, .int (zI (nxT 4 x 0 (k2 : Int)))), (9, .int (zI (((cc + 0) : Nat) : Int))), (11, .int (zI 0)), (10, .int (zI (j : Int))), (7, .int (zI ((o.1 : Nat) : Int))), (6, .int (zI (x : Int))), (5, .int (zI (y : Int))), (4, .int (zI (P 3))), (3, .int (zI 4)), (0, .ref (B + 23)), (1, .ref (B + ru)), (2, .ref (B + a))]) hx hb wdX1_passOverTones_307 hl (by decide) rfl (fun ls hl => ?_)
              refine z_iinc (v := (((j + 1) : Nat) : Int)) (lv' := [(10, .int (zI (((j + 1) : Nat) : Int))), (8, .int (zI (nxT 4 x 0 (k2 : Int)))), (9, .int (zI (((cc + 0) : Nat) : Int))), (11, .int (zI 0)), (7, .int (zI ((o.1 : Nat) : Int))), (6, .int (zI (x : Int))), (5, .int (zI (y : Int))), (4, .int (zI (P 3))), (3, .int (zI 4)), (0, .ref (B + 23)), (1, .ref (B + ru)), (2, .ref (B + a))]) hx hb wdX1_passOverTones_309 hl (k := 3) rfl (by omega) (by decide) rfl (fun ls hl => ?_)
              refine lv_goto (tgt := 65) hx hb wdX1_passOverTones_312 (by decide) ?_
              rw [show cc = cc + 0 from rfl] at hl
              exact ih (j + 1) (nxT 4 x 0 (k2 : Int)) (cc + 0) Nm o1 (by omega) i1 (by have h9 := tpI_s (f := o.1 - (j + 1)) (by rw [show o.1 - (j + 1) + 1 = o.1 - j by omega]; exact i2) hk2 (trT_n (fun h9 => hof7 h9.1)); exact h9) (by omega) i4 i5 (by omega) (by omega) _ _ ls w (lv_sub hl [0, 2, 1, 4, 5, 6, 7, 8, 9, 10, 11] rfl)
        · exact False.elim (by omega)
      · rw [hMe] at w
        refine z_if_eq (tgt := 315) hx hb (by omega) wdX1_passOverTones_78 (by decide) (fun c27 => ?_) (fun c27 => False.elim (by omega))
        exact kk j tz cc Nm o1 _ _ ls i1 (tpI_e i2 (by omega)) i4 (by omega) w (lv_sub hl [1] rfl)
set_option maxRecDepth 4000 in
theorem s_X1_over_4 {l : Launch} {D : va_G} {B : Nat} {cy : Nat → ClassId} {M : Mem} {a q hv ed : Nat} {o : Wo} (hk : kd a = (9, 0, 0)) (hC : CW M a q hv ed o) {ru : Nat} {P : Nat → Int} (hku : kd ru = (4, 0, 0)) (hU : isU M ru P) (hP : okP P) (hap : ru + 1 < a ∨ a + 2 < ru) {x y n9 : Nat} {t0 : Int} (hq0 : P 0 = 4) (hx8 : (x = 1 ∧ P 4 = 1 ∧ (P 0 = 1 ∨ P 0 = 2 ∨ P 0 = 4)) ∨ (x = 0 ∧ ¬ (P 4 = 1 ∧ (P 0 = 1 ∨ P 0 = 2 ∨ P 0 = 4)))) (hy8 : (P 4 = 1 ∧ y = 1) ∨ (P 4 ≠ 1 ∧ y = 0)) (ht0 : (x = 1 ∧ t0 = (o.1 : Int) - 1) ∨ (x = 0 ∧ t0 = 0)) (hz5 : P 5 = -2 ∨ (0 ≤ P 5 ∧ P 5 ≤ 6))  : Ci l D B cy yX1_passOverTones cX1_passOverTones 12 (some .int) 3 74 [.ref (B + 23), .ref (B + ru), .ref (B + a)] M (fun r M1 => TQ a q hv ed (tpF P 4 x y n9 q hv ed o.1 t0 o) 1884 M r M1) := by
  refine s_any (by decide) (Nat.le_of_ble_eq_true rfl) ?_
  intro p e s m below meth c ls F hr hlocks w hl
  have F : CallFix p m c cX1_passOverTones 12 s _ TB RX1 := F
  have hx := F.1
  have hb := F.2.1
  have hl : lv_has ls 12 [(0, .ref (B + 23)), (1, .ref (B + ru)), (2, .ref (B + a))] := hl
  have hW := hC.1
  have hwf := hC.wf
  have hKL := hwf.2.2.2.2
  have hn12 := hwf.1
  have hq12 := hwf.2.1
  have hP0 := hP 0 (by decide)
  have hP1 := hP 1 (by decide)
  have hP2 := hP 2 (by decide)
  have hP3 := hP 3 (by decide)
  have hP4 := hP 4 (by decide)
  have hP5 := hP 5 (by decide)
  have hP6 := hP 6 (by decide)
  have hP7 := hP 7 (by decide)
  refine lv_aload_n hx hb wdX1_passOverTones_0 rfl (lv_at hl 1 rfl) ?_
  refine f_4_0 F w (a := ru) hku wtb_45 wdX1_passOverTones_1 ?_
  refine lv_iconst (v := zI 0) hx hb wdX1_passOverTones_4 rfl ?_
  refine g_iald F w (a := (ru + 1)) (kd_r1 hku) (j := 0) ⟨by decide, by decide⟩ (by omega) wdX1_passOverTones_5 ?_
  refine r_val (v := (zI (P 0))) (hU 0 (by decide)) ?_
  refine r_val (v := (zI 4)) (congrArg zI hq0) ?_
  refine lv_istore_n (lv' := [(3, .int (zI 4)), (0, .ref (B + 23)), (1, .ref (B + ru)), (2, .ref (B + a))]) hx hb wdX1_passOverTones_6 rfl hl (by decide) rfl (fun ls hl => ?_)
  refine lv_aload_n hx hb wdX1_passOverTones_7 rfl (lv_at hl 2 rfl) ?_
  refine f_4_0 F w (a := ru) hku wtb_45 wdX1_passOverTones_8 ?_
  refine lv_iconst (v := zI 3) hx hb wdX1_passOverTones_11 rfl ?_
  refine g_iald F w (a := (ru + 1)) (kd_r1 hku) (j := 3) ⟨by decide, by decide⟩ (by omega) wdX1_passOverTones_12 ?_
  refine r_val (v := (zI (P 3))) (hU 3 (by decide)) ?_
  refine lv_istore (lv' := [(4, .int (zI (P 3))), (3, .int (zI 4)), (0, .ref (B + 23)), (1, .ref (B + ru)), (2, .ref (B + a))]) hx hb wdX1_passOverTones_13 hl (by decide) rfl (fun ls hl => ?_)
  refine lv_aload_n hx hb wdX1_passOverTones_15 rfl (lv_at hl 3 rfl) ?_
  refine f_4_0 F w (a := ru) hku wtb_45 wdX1_passOverTones_16 ?_
  refine lv_iconst (v := zI 4) hx hb wdX1_passOverTones_19 rfl ?_
  refine g_iald F w (a := (ru + 1)) (kd_r1 hku) (j := 4) ⟨by decide, by decide⟩ (by omega) wdX1_passOverTones_20 ?_
  refine r_val (v := (zI (P 4))) (hU 4 (by decide)) ?_
  refine lv_iconst (v := zI 1) hx hb wdX1_passOverTones_21 rfl ?_
  refine z_icmp_ne (tgt := 29) hx hb (by omega) (by omega) wdX1_passOverTones_22 (by decide) (fun c1 => ?_) (fun c1 => ?_)
  · refine lv_iconst (v := zI 0) hx hb wdX1_passOverTones_29 rfl ?_
    refine r_val (v := zI ((y : Nat) : Int)) (congrArg zI (by omega)) ?_
    refine lv_istore (lv' := [(5, .int (zI (y : Int))), (4, .int (zI (P 3))), (3, .int (zI 4)), (0, .ref (B + 23)), (1, .ref (B + ru)), (2, .ref (B + a))]) hx hb wdX1_passOverTones_30 hl (by decide) rfl (fun ls hl => ?_)
    refine lv_aload_n hx hb wdX1_passOverTones_32 rfl (lv_at hl 4 rfl) ?_
    refine k_Vi F w (As := []) (rest := []) (a := ru) (kd_lt (a := ru) hku (by decide)) (sh_4 hku _ _) rfl (s_X4_goesLeft hku hU hP) wgv_X1_90 whv_X4_goesLeft ⟨(Nat.le_of_ble_eq_true rfl), (Nat.le_of_ble_eq_true rfl)⟩ hl.1 rfl (Nat.le_of_ble_eq_true rfl) ⟨Nat.zero_le _, Nat.zero_le _⟩ wdX1_passOverTones_33 (fun r Ma3 H locs hp w => ?_)
    rcases hp with ⟨⟨hlf2, rfl⟩ | ⟨hlf2, rfl⟩, hMe⟩
    · rw [hMe] at w
      refine r_val (v := zI ((x : Nat) : Int)) (congrArg zI (by omega)) ?_
      refine lv_istore (lv' := [(6, .int (zI (x : Int))), (5, .int (zI (y : Int))), (4, .int (zI (P 3))), (3, .int (zI 4)), (0, .ref (B + 23)), (1, .ref (B + ru)), (2, .ref (B + a))]) hx hb wdX1_passOverTones_36 hl (by decide) rfl (fun ls hl => ?_)
      refine lv_aload_n hx hb wdX1_passOverTones_38 rfl (lv_at hl 6 rfl) ?_
      refine f_9_0 F w (a := a) hk wtb_32 wdX1_passOverTones_39 ?_
      refine r_val (v := (zI ((o.1 : Nat) : Int))) (hW.1) ?_
      refine lv_istore (lv' := [(7, .int (zI ((o.1 : Nat) : Int))), (6, .int (zI (x : Int))), (5, .int (zI (y : Int))), (4, .int (zI (P 3))), (3, .int (zI 4)), (0, .ref (B + 23)), (1, .ref (B + ru)), (2, .ref (B + a))]) hx hb wdX1_passOverTones_42 hl (by decide) rfl (fun ls hl => ?_)
      refine lv_iload hx hb wdX1_passOverTones_44 (lv_at hl 1 rfl) ?_
      refine z_if_eq (tgt := 56) hx hb (by omega) wdX1_passOverTones_46 (by decide) (fun c4 => ?_) (fun c4 => ?_)
      · refine lv_iconst (v := zI 0) hx hb wdX1_passOverTones_56 rfl ?_
        refine r_val (v := zI t0) (congrArg zI (by omega)) ?_
        refine lv_istore (lv' := [(8, .int (zI t0)), (7, .int (zI ((o.1 : Nat) : Int))), (6, .int (zI (x : Int))), (5, .int (zI (y : Int))), (4, .int (zI (P 3))), (3, .int (zI 4)), (0, .ref (B + 23)), (1, .ref (B + ru)), (2, .ref (B + a))]) hx hb wdX1_passOverTones_57 hl (by decide) rfl (fun ls hl => ?_)
        refine lv_iconst (v := zI 0) hx hb wdX1_passOverTones_59 rfl ?_
        refine lv_istore (lv' := [(9, .int (zI 0)), (8, .int (zI t0)), (7, .int (zI ((o.1 : Nat) : Int))), (6, .int (zI (x : Int))), (5, .int (zI (y : Int))), (4, .int (zI (P 3))), (3, .int (zI 4)), (0, .ref (B + 23)), (1, .ref (B + ru)), (2, .ref (B + a))]) hx hb wdX1_passOverTones_60 hl (by decide) rfl (fun ls hl => ?_)
        refine lv_iconst (v := zI 0) hx hb wdX1_passOverTones_62 rfl ?_
        refine lv_istore (lv' := [(10, .int (zI 0)), (9, .int (zI 0)), (8, .int (zI t0)), (7, .int (zI ((o.1 : Nat) : Int))), (6, .int (zI (x : Int))), (5, .int (zI (y : Int))), (4, .int (zI (P 3))), (3, .int (zI 4)), (0, .ref (B + 23)), (1, .ref (B + ru)), (2, .ref (B + a))]) hx hb wdX1_passOverTones_63 hl (by decide) rfl (fun ls hl => ?_)
        have hx01 : x = 0 ∨ x = 1 := by omega
        have hy01 : y = 0 ∨ y = 1 := by omega
        refine lp_X1_over_4  F (Nat.le_of_ble_eq_true rfl) (Nat.le_of_ble_eq_true rfl) (x := x) (y := y) (n9 := n9) hk hku hP hn12 hx01 hy01 hz5 hap (fun j tz cc Nm o1 H locs ls x0 x1 x2 x3 w hl => ?_) o.1 0 t0 0 M o (by omega) hC tpI_0 (by omega) Fr3.rf hU (by omega) (by omega) _ _ ls w (lv_sub hl [0, 1, 2, 3, 4, 5, 6, 7, 8, 9, 10] rfl)
        refine lv_iload hx hb wdX1_passOverTones_315 (lv_at hl 0 rfl) ?_
        exact e_i F w hr hlocks ⟨o1, cc, x1, rfl, x0, x2, x3⟩ wdX1_passOverTones_317
      · refine lv_iload hx hb wdX1_passOverTones_49 (lv_at hl 0 rfl) ?_
        refine lv_iconst (v := zI 1) hx hb wdX1_passOverTones_51 rfl ?_
        refine z_isub (z := (((o.1 : Nat) : Int) - 1)) hx hb wdX1_passOverTones_52 (by omega) ?_
        refine lv_goto (tgt := 57) hx hb wdX1_passOverTones_53 (by decide) ?_
        refine r_val (v := zI t0) (congrArg zI (by omega)) ?_
        refine lv_istore (lv' := [(8, .int (zI t0)), (7, .int (zI ((o.1 : Nat) : Int))), (6, .int (zI (x : Int))), (5, .int (zI (y : Int))), (4, .int (zI (P 3))), (3, .int (zI 4)), (0, .ref (B + 23)), (1, .ref (B + ru)), (2, .ref (B + a))]) hx hb wdX1_passOverTones_57 hl (by decide) rfl (fun ls hl => ?_)
        refine lv_iconst (v := zI 0) hx hb wdX1_passOverTones_59 rfl ?_
        refine lv_istore (lv' := [(9, .int (zI 0)), (8, .int (zI t0)), (7, .int (zI ((o.1 : Nat) : Int))), (6, .int (zI (x : Int))), (5, .int (zI (y : Int))), (4, .int (zI (P 3))), (3, .int (zI 4)), (0, .ref (B + 23)), (1, .ref (B + ru)), (2, .ref (B + a))]) hx hb wdX1_passOverTones_60 hl (by decide) rfl (fun ls hl => ?_)
        refine lv_iconst (v := zI 0) hx hb wdX1_passOverTones_62 rfl ?_
        refine lv_istore (lv' := [(10, .int (zI 0)), (9, .int (zI 0)), (8, .int (zI t0)), (7, .int (zI ((o.1 : Nat) : Int))), (6, .int (zI (x : Int))), (5, .int (zI (y : Int))), (4, .int (zI (P 3))), (3, .int (zI 4)), (0, .ref (B + 23)), (1, .ref (B + ru)), (2, .ref (B + a))]) hx hb wdX1_passOverTones_63 hl (by decide) rfl (fun ls hl => ?_)
        have hx01 : x = 0 ∨ x = 1 := by omega
        have hy01 : y = 0 ∨ y = 1 := by omega
        refine lp_X1_over_4  F (Nat.le_of_ble_eq_true rfl) (Nat.le_of_ble_eq_true rfl) (x := x) (y := y) (n9 := n9) hk hku hP hn12 hx01 hy01 hz5 hap (fun j tz cc Nm o1 H locs ls x0 x1 x2 x3 w hl => ?_) o.1 0 t0 0 M o (by omega) hC tpI_0 (by omega) Fr3.rf hU (by omega) (by omega) _ _ ls w (lv_sub hl [0, 1, 2, 3, 4, 5, 6, 7, 8, 9, 10] rfl)
        refine lv_iload hx hb wdX1_passOverTones_315 (lv_at hl 0 rfl) ?_
        exact e_i F w hr hlocks ⟨o1, cc, x1, rfl, x0, x2, x3⟩ wdX1_passOverTones_317
    · rw [hMe] at w
      refine r_val (v := zI ((x : Nat) : Int)) (congrArg zI (by omega)) ?_
      refine lv_istore (lv' := [(6, .int (zI (x : Int))), (5, .int (zI (y : Int))), (4, .int (zI (P 3))), (3, .int (zI 4)), (0, .ref (B + 23)), (1, .ref (B + ru)), (2, .ref (B + a))]) hx hb wdX1_passOverTones_36 hl (by decide) rfl (fun ls hl => ?_)
      refine lv_aload_n hx hb wdX1_passOverTones_38 rfl (lv_at hl 6 rfl) ?_
      refine f_9_0 F w (a := a) hk wtb_32 wdX1_passOverTones_39 ?_
      refine r_val (v := (zI ((o.1 : Nat) : Int))) (hW.1) ?_
      refine lv_istore (lv' := [(7, .int (zI ((o.1 : Nat) : Int))), (6, .int (zI (x : Int))), (5, .int (zI (y : Int))), (4, .int (zI (P 3))), (3, .int (zI 4)), (0, .ref (B + 23)), (1, .ref (B + ru)), (2, .ref (B + a))]) hx hb wdX1_passOverTones_42 hl (by decide) rfl (fun ls hl => ?_)
      refine lv_iload hx hb wdX1_passOverTones_44 (lv_at hl 1 rfl) ?_
      refine z_if_eq (tgt := 56) hx hb (by omega) wdX1_passOverTones_46 (by decide) (fun c5 => ?_) (fun c5 => ?_)
      · refine lv_iconst (v := zI 0) hx hb wdX1_passOverTones_56 rfl ?_
        refine r_val (v := zI t0) (congrArg zI (by omega)) ?_
        refine lv_istore (lv' := [(8, .int (zI t0)), (7, .int (zI ((o.1 : Nat) : Int))), (6, .int (zI (x : Int))), (5, .int (zI (y : Int))), (4, .int (zI (P 3))), (3, .int (zI 4)), (0, .ref (B + 23)), (1, .ref (B + ru)), (2, .ref (B + a))]) hx hb wdX1_passOverTones_57 hl (by decide) rfl (fun ls hl => ?_)
        refine lv_iconst (v := zI 0) hx hb wdX1_passOverTones_59 rfl ?_
        refine lv_istore (lv' := [(9, .int (zI 0)), (8, .int (zI t0)), (7, .int (zI ((o.1 : Nat) : Int))), (6, .int (zI (x : Int))), (5, .int (zI (y : Int))), (4, .int (zI (P 3))), (3, .int (zI 4)), (0, .ref (B + 23)), (1, .ref (B + ru)), (2, .ref (B + a))]) hx hb wdX1_passOverTones_60 hl (by decide) rfl (fun ls hl => ?_)
        refine lv_iconst (v := zI 0) hx hb wdX1_passOverTones_62 rfl ?_
        refine lv_istore (lv' := [(10, .int (zI 0)), (9, .int (zI 0)), (8, .int (zI t0)), (7, .int (zI ((o.1 : Nat) : Int))), (6, .int (zI (x : Int))), (5, .int (zI (y : Int))), (4, .int (zI (P 3))), (3, .int (zI 4)), (0, .ref (B + 23)), (1, .ref (B + ru)), (2, .ref (B + a))]) hx hb wdX1_passOverTones_63 hl (by decide) rfl (fun ls hl => ?_)
        have hx01 : x = 0 ∨ x = 1 := by omega
        have hy01 : y = 0 ∨ y = 1 := by omega
        refine lp_X1_over_4  F (Nat.le_of_ble_eq_true rfl) (Nat.le_of_ble_eq_true rfl) (x := x) (y := y) (n9 := n9) hk hku hP hn12 hx01 hy01 hz5 hap (fun j tz cc Nm o1 H locs ls x0 x1 x2 x3 w hl => ?_) o.1 0 t0 0 M o (by omega) hC tpI_0 (by omega) Fr3.rf hU (by omega) (by omega) _ _ ls w (lv_sub hl [0, 1, 2, 3, 4, 5, 6, 7, 8, 9, 10] rfl)
        refine lv_iload hx hb wdX1_passOverTones_315 (lv_at hl 0 rfl) ?_
        exact e_i F w hr hlocks ⟨o1, cc, x1, rfl, x0, x2, x3⟩ wdX1_passOverTones_317
      · refine lv_iload hx hb wdX1_passOverTones_49 (lv_at hl 0 rfl) ?_
        refine lv_iconst (v := zI 1) hx hb wdX1_passOverTones_51 rfl ?_
        refine z_isub (z := (((o.1 : Nat) : Int) - 1)) hx hb wdX1_passOverTones_52 (by omega) ?_
        refine lv_goto (tgt := 57) hx hb wdX1_passOverTones_53 (by decide) ?_
        refine r_val (v := zI t0) (congrArg zI (by omega)) ?_
        refine lv_istore (lv' := [(8, .int (zI t0)), (7, .int (zI ((o.1 : Nat) : Int))), (6, .int (zI (x : Int))), (5, .int (zI (y : Int))), (4, .int (zI (P 3))), (3, .int (zI 4)), (0, .ref (B + 23)), (1, .ref (B + ru)), (2, .ref (B + a))]) hx hb wdX1_passOverTones_57 hl (by decide) rfl (fun ls hl => ?_)
        refine lv_iconst (v := zI 0) hx hb wdX1_passOverTones_59 rfl ?_
        refine lv_istore (lv' := [(9, .int (zI 0)), (8, .int (zI t0)), (7, .int (zI ((o.1 : Nat) : Int))), (6, .int (zI (x : Int))), (5, .int (zI (y : Int))), (4, .int (zI (P 3))), (3, .int (zI 4)), (0, .ref (B + 23)), (1, .ref (B + ru)), (2, .ref (B + a))]) hx hb wdX1_passOverTones_60 hl (by decide) rfl (fun ls hl => ?_)
        refine lv_iconst (v := zI 0) hx hb wdX1_passOverTones_62 rfl ?_
        refine lv_istore (lv' := [(10, .int (zI 0)), (9, .int (zI 0)), (8, .int (zI t0)), (7, .int (zI ((o.1 : Nat) : Int))), (6, .int (zI (x : Int))), (5, .int (zI (y : Int))), (4, .int (zI (P 3))), (3, .int (zI 4)), (0, .ref (B + 23)), (1, .ref (B + ru)), (2, .ref (B + a))]) hx hb wdX1_passOverTones_63 hl (by decide) rfl (fun ls hl => ?_)
        have hx01 : x = 0 ∨ x = 1 := by omega
        have hy01 : y = 0 ∨ y = 1 := by omega
        refine lp_X1_over_4  F (Nat.le_of_ble_eq_true rfl) (Nat.le_of_ble_eq_true rfl) (x := x) (y := y) (n9 := n9) hk hku hP hn12 hx01 hy01 hz5 hap (fun j tz cc Nm o1 H locs ls x0 x1 x2 x3 w hl => ?_) o.1 0 t0 0 M o (by omega) hC tpI_0 (by omega) Fr3.rf hU (by omega) (by omega) _ _ ls w (lv_sub hl [0, 1, 2, 3, 4, 5, 6, 7, 8, 9, 10] rfl)
        refine lv_iload hx hb wdX1_passOverTones_315 (lv_at hl 0 rfl) ?_
        exact e_i F w hr hlocks ⟨o1, cc, x1, rfl, x0, x2, x3⟩ wdX1_passOverTones_317
  · refine lv_iconst (v := zI 1) hx hb wdX1_passOverTones_25 rfl ?_
    refine lv_goto (tgt := 30) hx hb wdX1_passOverTones_26 (by decide) ?_
    refine r_val (v := zI ((y : Nat) : Int)) (congrArg zI (by omega)) ?_
    refine lv_istore (lv' := [(5, .int (zI (y : Int))), (4, .int (zI (P 3))), (3, .int (zI 4)), (0, .ref (B + 23)), (1, .ref (B + ru)), (2, .ref (B + a))]) hx hb wdX1_passOverTones_30 hl (by decide) rfl (fun ls hl => ?_)
    refine lv_aload_n hx hb wdX1_passOverTones_32 rfl (lv_at hl 4 rfl) ?_
    refine k_Vi F w (As := []) (rest := []) (a := ru) (kd_lt (a := ru) hku (by decide)) (sh_4 hku _ _) rfl (s_X4_goesLeft hku hU hP) wgv_X1_90 whv_X4_goesLeft ⟨(Nat.le_of_ble_eq_true rfl), (Nat.le_of_ble_eq_true rfl)⟩ hl.1 rfl (Nat.le_of_ble_eq_true rfl) ⟨Nat.zero_le _, Nat.zero_le _⟩ wdX1_passOverTones_33 (fun r Ma7 H locs hp w => ?_)
    rcases hp with ⟨⟨hlf6, rfl⟩ | ⟨hlf6, rfl⟩, hMe⟩
    · rw [hMe] at w
      refine r_val (v := zI ((x : Nat) : Int)) (congrArg zI (by omega)) ?_
      refine lv_istore (lv' := [(6, .int (zI (x : Int))), (5, .int (zI (y : Int))), (4, .int (zI (P 3))), (3, .int (zI 4)), (0, .ref (B + 23)), (1, .ref (B + ru)), (2, .ref (B + a))]) hx hb wdX1_passOverTones_36 hl (by decide) rfl (fun ls hl => ?_)
      refine lv_aload_n hx hb wdX1_passOverTones_38 rfl (lv_at hl 6 rfl) ?_
      refine f_9_0 F w (a := a) hk wtb_32 wdX1_passOverTones_39 ?_
      refine r_val (v := (zI ((o.1 : Nat) : Int))) (hW.1) ?_
      refine lv_istore (lv' := [(7, .int (zI ((o.1 : Nat) : Int))), (6, .int (zI (x : Int))), (5, .int (zI (y : Int))), (4, .int (zI (P 3))), (3, .int (zI 4)), (0, .ref (B + 23)), (1, .ref (B + ru)), (2, .ref (B + a))]) hx hb wdX1_passOverTones_42 hl (by decide) rfl (fun ls hl => ?_)
      refine lv_iload hx hb wdX1_passOverTones_44 (lv_at hl 1 rfl) ?_
      refine z_if_eq (tgt := 56) hx hb (by omega) wdX1_passOverTones_46 (by decide) (fun c8 => ?_) (fun c8 => ?_)
      · refine lv_iconst (v := zI 0) hx hb wdX1_passOverTones_56 rfl ?_
        refine r_val (v := zI t0) (congrArg zI (by omega)) ?_
        refine lv_istore (lv' := [(8, .int (zI t0)), (7, .int (zI ((o.1 : Nat) : Int))), (6, .int (zI (x : Int))), (5, .int (zI (y : Int))), (4, .int (zI (P 3))), (3, .int (zI 4)), (0, .ref (B + 23)), (1, .ref (B + ru)), (2, .ref (B + a))]) hx hb wdX1_passOverTones_57 hl (by decide) rfl (fun ls hl => ?_)
        refine lv_iconst (v := zI 0) hx hb wdX1_passOverTones_59 rfl ?_
        refine lv_istore (lv' := [(9, .int (zI 0)), (8, .int (zI t0)), (7, .int (zI ((o.1 : Nat) : Int))), (6, .int (zI (x : Int))), (5, .int (zI (y : Int))), (4, .int (zI (P 3))), (3, .int (zI 4)), (0, .ref (B + 23)), (1, .ref (B + ru)), (2, .ref (B + a))]) hx hb wdX1_passOverTones_60 hl (by decide) rfl (fun ls hl => ?_)
        refine lv_iconst (v := zI 0) hx hb wdX1_passOverTones_62 rfl ?_
        refine lv_istore (lv' := [(10, .int (zI 0)), (9, .int (zI 0)), (8, .int (zI t0)), (7, .int (zI ((o.1 : Nat) : Int))), (6, .int (zI (x : Int))), (5, .int (zI (y : Int))), (4, .int (zI (P 3))), (3, .int (zI 4)), (0, .ref (B + 23)), (1, .ref (B + ru)), (2, .ref (B + a))]) hx hb wdX1_passOverTones_63 hl (by decide) rfl (fun ls hl => ?_)
        have hx01 : x = 0 ∨ x = 1 := by omega
        have hy01 : y = 0 ∨ y = 1 := by omega
        refine lp_X1_over_4  F (Nat.le_of_ble_eq_true rfl) (Nat.le_of_ble_eq_true rfl) (x := x) (y := y) (n9 := n9) hk hku hP hn12 hx01 hy01 hz5 hap (fun j tz cc Nm o1 H locs ls x0 x1 x2 x3 w hl => ?_) o.1 0 t0 0 M o (by omega) hC tpI_0 (by omega) Fr3.rf hU (by omega) (by omega) _ _ ls w (lv_sub hl [0, 1, 2, 3, 4, 5, 6, 7, 8, 9, 10] rfl)
        refine lv_iload hx hb wdX1_passOverTones_315 (lv_at hl 0 rfl) ?_
        exact e_i F w hr hlocks ⟨o1, cc, x1, rfl, x0, x2, x3⟩ wdX1_passOverTones_317
      · refine lv_iload hx hb wdX1_passOverTones_49 (lv_at hl 0 rfl) ?_
        refine lv_iconst (v := zI 1) hx hb wdX1_passOverTones_51 rfl ?_
        refine z_isub (z := (((o.1 : Nat) : Int) - 1)) hx hb wdX1_passOverTones_52 (by omega) ?_
        refine lv_goto (tgt := 57) hx hb wdX1_passOverTones_53 (by decide) ?_
        refine r_val (v := zI t0) (congrArg zI (by omega)) ?_
        refine lv_istore (lv' := [(8, .int (zI t0)), (7, .int (zI ((o.1 : Nat) : Int))), (6, .int (zI (x : Int))), (5, .int (zI (y : Int))), (4, .int (zI (P 3))), (3, .int (zI 4)), (0, .ref (B + 23)), (1, .ref (B + ru)), (2, .ref (B + a))]) hx hb wdX1_passOverTones_57 hl (by decide) rfl (fun ls hl => ?_)
        refine lv_iconst (v := zI 0) hx hb wdX1_passOverTones_59 rfl ?_
        refine lv_istore (lv' := [(9, .int (zI 0)), (8, .int (zI t0)), (7, .int (zI ((o.1 : Nat) : Int))), (6, .int (zI (x : Int))), (5, .int (zI (y : Int))), (4, .int (zI (P 3))), (3, .int (zI 4)), (0, .ref (B + 23)), (1, .ref (B + ru)), (2, .ref (B + a))]) hx hb wdX1_passOverTones_60 hl (by decide) rfl (fun ls hl => ?_)
        refine lv_iconst (v := zI 0) hx hb wdX1_passOverTones_62 rfl ?_
        refine lv_istore (lv' := [(10, .int (zI 0)), (9, .int (zI 0)), (8, .int (zI t0)), (7, .int (zI ((o.1 : Nat) : Int))), (6, .int (zI (x : Int))), (5, .int (zI (y : Int))), (4, .int (zI (P 3))), (3, .int (zI 4)), (0, .ref (B + 23)), (1, .ref (B + ru)), (2, .ref (B + a))]) hx hb wdX1_passOverTones_63 hl (by decide) rfl (fun ls hl => ?_)
        have hx01 : x = 0 ∨ x = 1 := by omega
        have hy01 : y = 0 ∨ y = 1 := by omega
        refine lp_X1_over_4  F (Nat.le_of_ble_eq_true rfl) (Nat.le_of_ble_eq_true rfl) (x := x) (y := y) (n9 := n9) hk hku hP hn12 hx01 hy01 hz5 hap (fun j tz cc Nm o1 H locs ls x0 x1 x2 x3 w hl => ?_) o.1 0 t0 0 M o (by omega) hC tpI_0 (by omega) Fr3.rf hU (by omega) (by omega) _ _ ls w (lv_sub hl [0, 1, 2, 3, 4, 5, 6, 7, 8, 9, 10] rfl)
        refine lv_iload hx hb wdX1_passOverTones_315 (lv_at hl 0 rfl) ?_
        exact e_i F w hr hlocks ⟨o1, cc, x1, rfl, x0, x2, x3⟩ wdX1_passOverTones_317
    · rw [hMe] at w
      refine r_val (v := zI ((x : Nat) : Int)) (congrArg zI (by omega)) ?_
      refine lv_istore (lv' := [(6, .int (zI (x : Int))), (5, .int (zI (y : Int))), (4, .int (zI (P 3))), (3, .int (zI 4)), (0, .ref (B + 23)), (1, .ref (B + ru)), (2, .ref (B + a))]) hx hb wdX1_passOverTones_36 hl (by decide) rfl (fun ls hl => ?_)
      refine lv_aload_n hx hb wdX1_passOverTones_38 rfl (lv_at hl 6 rfl) ?_
      refine f_9_0 F w (a := a) hk wtb_32 wdX1_passOverTones_39 ?_
      refine r_val (v := (zI ((o.1 : Nat) : Int))) (hW.1) ?_
      refine lv_istore (lv' := [(7, .int (zI ((o.1 : Nat) : Int))), (6, .int (zI (x : Int))), (5, .int (zI (y : Int))), (4, .int (zI (P 3))), (3, .int (zI 4)), (0, .ref (B + 23)), (1, .ref (B + ru)), (2, .ref (B + a))]) hx hb wdX1_passOverTones_42 hl (by decide) rfl (fun ls hl => ?_)
      refine lv_iload hx hb wdX1_passOverTones_44 (lv_at hl 1 rfl) ?_
      refine z_if_eq (tgt := 56) hx hb (by omega) wdX1_passOverTones_46 (by decide) (fun c9 => ?_) (fun c9 => ?_)
      · refine lv_iconst (v := zI 0) hx hb wdX1_passOverTones_56 rfl ?_
        refine r_val (v := zI t0) (congrArg zI (by omega)) ?_
        refine lv_istore (lv' := [(8, .int (zI t0)), (7, .int (zI ((o.1 : Nat) : Int))), (6, .int (zI (x : Int))), (5, .int (zI (y : Int))), (4, .int (zI (P 3))), (3, .int (zI 4)), (0, .ref (B + 23)), (1, .ref (B + ru)), (2, .ref (B + a))]) hx hb wdX1_passOverTones_57 hl (by decide) rfl (fun ls hl => ?_)
        refine lv_iconst (v := zI 0) hx hb wdX1_passOverTones_59 rfl ?_
        refine lv_istore (lv' := [(9, .int (zI 0)), (8, .int (zI t0)), (7, .int (zI ((o.1 : Nat) : Int))), (6, .int (zI (x : Int))), (5, .int (zI (y : Int))), (4, .int (zI (P 3))), (3, .int (zI 4)), (0, .ref (B + 23)), (1, .ref (B + ru)), (2, .ref (B + a))]) hx hb wdX1_passOverTones_60 hl (by decide) rfl (fun ls hl => ?_)
        refine lv_iconst (v := zI 0) hx hb wdX1_passOverTones_62 rfl ?_
        refine lv_istore (lv' := [(10, .int (zI 0)), (9, .int (zI 0)), (8, .int (zI t0)), (7, .int (zI ((o.1 : Nat) : Int))), (6, .int (zI (x : Int))), (5, .int (zI (y : Int))), (4, .int (zI (P 3))), (3, .int (zI 4)), (0, .ref (B + 23)), (1, .ref (B + ru)), (2, .ref (B + a))]) hx hb wdX1_passOverTones_63 hl (by decide) rfl (fun ls hl => ?_)
        have hx01 : x = 0 ∨ x = 1 := by omega
        have hy01 : y = 0 ∨ y = 1 := by omega
        refine lp_X1_over_4  F (Nat.le_of_ble_eq_true rfl) (Nat.le_of_ble_eq_true rfl) (x := x) (y := y) (n9 := n9) hk hku hP hn12 hx01 hy01 hz5 hap (fun j tz cc Nm o1 H locs ls x0 x1 x2 x3 w hl => ?_) o.1 0 t0 0 M o (by omega) hC tpI_0 (by omega) Fr3.rf hU (by omega) (by omega) _ _ ls w (lv_sub hl [0, 1, 2, 3, 4, 5, 6, 7, 8, 9, 10] rfl)
        refine lv_iload hx hb wdX1_passOverTones_315 (lv_at hl 0 rfl) ?_
        exact e_i F w hr hlocks ⟨o1, cc, x1, rfl, x0, x2, x3⟩ wdX1_passOverTones_317
      · refine lv_iload hx hb wdX1_passOverTones_49 (lv_at hl 0 rfl) ?_
        refine lv_iconst (v := zI 1) hx hb wdX1_passOverTones_51 rfl ?_
        refine z_isub (z := (((o.1 : Nat) : Int) - 1)) hx hb wdX1_passOverTones_52 (by omega) ?_
        refine lv_goto (tgt := 57) hx hb wdX1_passOverTones_53 (by decide) ?_
        refine r_val (v := zI t0) (congrArg zI (by omega)) ?_
        refine lv_istore (lv' := [(8, .int (zI t0)), (7, .int (zI ((o.1 : Nat) : Int))), (6, .int (zI (x : Int))), (5, .int (zI (y : Int))), (4, .int (zI (P 3))), (3, .int (zI 4)), (0, .ref (B + 23)), (1, .ref (B + ru)), (2, .ref (B + a))]) hx hb wdX1_passOverTones_57 hl (by decide) rfl (fun ls hl => ?_)
        refine lv_iconst (v := zI 0) hx hb wdX1_passOverTones_59 rfl ?_
        refine lv_istore (lv' := [(9, .int (zI 0)), (8, .int (zI t0)), (7, .int (zI ((o.1 : Nat) : Int))), (6, .int (zI (x : Int))), (5, .int (zI (y : Int))), (4, .int (zI (P 3))), (3, .int (zI 4)), (0, .ref (B + 23)), (1, .ref (B + ru)), (2, .ref (B + a))]) hx hb wdX1_passOverTones_60 hl (by decide) rfl (fun ls hl => ?_)
        refine lv_iconst (v := zI 0) hx hb wdX1_passOverTones_62 rfl ?_
        refine lv_istore (lv' := [(10, .int (zI 0)), (9, .int (zI 0)), (8, .int (zI t0)), (7, .int (zI ((o.1 : Nat) : Int))), (6, .int (zI (x : Int))), (5, .int (zI (y : Int))), (4, .int (zI (P 3))), (3, .int (zI 4)), (0, .ref (B + 23)), (1, .ref (B + ru)), (2, .ref (B + a))]) hx hb wdX1_passOverTones_63 hl (by decide) rfl (fun ls hl => ?_)
        have hx01 : x = 0 ∨ x = 1 := by omega
        have hy01 : y = 0 ∨ y = 1 := by omega
        refine lp_X1_over_4  F (Nat.le_of_ble_eq_true rfl) (Nat.le_of_ble_eq_true rfl) (x := x) (y := y) (n9 := n9) hk hku hP hn12 hx01 hy01 hz5 hap (fun j tz cc Nm o1 H locs ls x0 x1 x2 x3 w hl => ?_) o.1 0 t0 0 M o (by omega) hC tpI_0 (by omega) Fr3.rf hU (by omega) (by omega) _ _ ls w (lv_sub hl [0, 1, 2, 3, 4, 5, 6, 7, 8, 9, 10] rfl)
        refine lv_iload hx hb wdX1_passOverTones_315 (lv_at hl 0 rfl) ?_
        exact e_i F w hr hlocks ⟨o1, cc, x1, rfl, x0, x2, x3⟩ wdX1_passOverTones_317
theorem wdX1_passOverTones_211 : decode cX1_passOverTones 211 = .ok (.aload_n 0, 1) := dq0 kk_42 (by decide +kernel)
theorem wdX1_passOverTones_212 : decode cX1_passOverTones 212 = .ok (.aload_n 2, 1) := dq0 kk_44 (by decide +kernel)
theorem wdX1_passOverTones_213 : decode cX1_passOverTones 213 = .ok (.iload 8, 2) := dqU kk_21 (by decide +kernel)
theorem wdX1_passOverTones_215 : decode cX1_passOverTones 215 = .ok (.invokevirtual 114, 3) := dqV kk_182 (by decide +kernel)
theorem wtk_X1_drop : Cond.code yX1_drop cX1_drop 3 (some .int) ∈ TB := tbm (tc4 (List.mem_of_getElem? (i := 75) rfl)) rfl
theorem wgc_X1_drop : GoodIn TB (cw yX1_drop cX1_drop 3 (some .int)) := goodIn_c2 wtk_X1_drop
theorem wtb_80 : Cond.methodLink "ToneLines$Doer" 114 yX1_drop ∈ TB := tbm (tc4 (List.mem_of_getElem? (i := 72) rfl)) rfl
theorem wtb_81 : Cond.instanceMethod yX1_drop ∈ TB := tbm (tc4 (List.mem_of_getElem? (i := 74) rfl)) rfl
theorem wtb_82 : Cond.selects "ToneLines$Doer" yX1_drop yX1_drop ∈ TB := tbp (List.mem_of_getElem? (i := 25) rfl) rfl
theorem wgv_X1_114 : GoodIn TB (wsV RX1 114 RX1 yX1_drop (cw yX1_drop cX1_drop 3 (some .int))) := goodIn_4 wtb_80 wtb_81 wtb_82 wtb_52 wgc_X1_drop
theorem whv_X1_drop : yX1_drop.cls = RX1 ∧ yX1_drop.cls ≠ "java/lang/invoke/MethodHandle" ∧ yX1_drop.cls ≠ "java/lang/invoke/VarHandle" ∧ (parseMethodDescriptor yX1_drop.desc).map (fun d => d.parameters.length) = some 2 := by decide +kernel
theorem wdX1_passOverTones_218 : decode cX1_passOverTones 218 = .ok (.istore 11, 2) := dqU kk_54 (by decide +kernel)
theorem wdX1_passOverTones_220 : decode cX1_passOverTones 220 = .ok (.goto 29, 3) := dqT kk_167 (by decide +kernel)
theorem wdX1_passOverTones_296 : decode cX1_passOverTones 296 = .ok (.iload 11, 2) := dqU kk_21 (by decide +kernel)
theorem wdX1_passOverTones_298 : decode cX1_passOverTones 298 = .ok (.ifCond .le 7, 3) := dqT kk_158 (by decide +kernel)
theorem wdX1_passOverTones_301 : decode cX1_passOverTones 301 = .ok (.iconst 0, 1) := dq0 kk_3 (by decide +kernel)
theorem wdX1_passOverTones_302 : decode cX1_passOverTones 302 = .ok (.goto 4, 3) := dqT kk_167 (by decide +kernel)
set_option maxRecDepth 4000 in
theorem lp_X1_over_5 {p : Program} {l : Launch} {e : Env} {s : State} {m : MethodId} {args : Array Value} {below : List Frame} {meth : Method} {c : Code} {D : va_G} {B : Nat} {cy : Nat → ClassId} {H0 : Heap} {Q : State → Prop} {M : Mem} {R : Room} {a ru q hv ed x y n9 : Nat} {o : Wo} {P : Nat → Int} {t0 : Int} (F : CallFix p m c cX1_passOverTones 12 s args TB RX1) (hR1 : 3 ≤ R.frames) (hR2 : 66 ≤ R.locals) (hk : kd a = (9, 0, 0)) (hku : kd ru = (4, 0, 0)) (hP : okP P) (hn12 : o.1 ≤ 12) (hx01 : x = 0 ∨ x = 1) (hy01 : y = 0 ∨ y = 1) (hz5 : P 5 = -2 ∨ (0 ≤ P 5 ∧ P 5 ≤ 6)) (hap : ru + 1 < a ∨ a + 2 < ru)  (kk : ∀ (j : Nat) (tz : Int) (cc : Nat) (Nm : Mem) (o1 : Wo) (H : Heap) (locs : List Loc) (ls : Array Slot), (CW Nm a q hv ed o1) → (tpF P 5 x y n9 q hv ed o.1 t0 o = (o1, cc)) → (Fr3 Nm M a) → (cc ≤ 1884) → Wd D B cy s H0 Nm H locs → lv_has ls 12 [(9, .int (zI (cc : Int)))] → W p l e R s m args below meth c H locs 0 0 Q (F0 m 315 ls [])) : ∀ (f : Nat) (j : Nat) (tz : Int) (cc : Nat) (Nm : Mem) (o1 : Wo), (j ≤ o.1) → (CW Nm a q hv ed o1) → (tpI P 5 x y n9 q hv ed o.1 t0 o (o.1 - j) tz o1 cc) → (cc ≤ 157 * j) → (Fr3 Nm M a) → (isU Nm ru P) → (-2 - (j : Int) ≤ tz ∧ tz ≤ 12 + (j : Int)) → (o.1 ≤ j + f) → ∀ (H : Heap) (locs : List Loc) (ls : Array Slot), Wd D B cy s H0 Nm H locs → lv_has ls 12 [(10, .int (zI (j : Int))), (9, .int (zI (cc : Int))), (8, .int (zI tz)), (7, .int (zI ((o.1 : Nat) : Int))), (6, .int (zI (x : Int))), (5, .int (zI (y : Int))), (4, .int (zI (P 3))), (3, .int (zI 5)), (0, .ref (B + 23)), (1, .ref (B + ru)), (2, .ref (B + a))] → W p l e R s m args below meth c H locs 0 0 Q (F0 m 65 ls []) := by
  have hx := F.1
  have hb := F.2.1
  have hP0 := hP 0 (by decide)
  have hP1 := hP 1 (by decide)
  have hP2 := hP 2 (by decide)
  have hP3 := hP 3 (by decide)
  have hP4 := hP 4 (by decide)
  have hP5 := hP 5 (by decide)
  have hP6 := hP 6 (by decide)
  have hP7 := hP 7 (by decide)
  intro f
  induction f with
  | zero =>
    intro j tz cc Nm o1 i0 i1 i2 i3 i4 i5 i6 hf H locs ls w hl
    have hW1 := i1.1
    have hwf1 := i1.wf
    have hKL1 := hwf1.2.2.2.2
    have hn1 := hwf1.1
    refine lv_iload hx hb wdX1_passOverTones_65 (lv_at hl 0 rfl) ?_
    refine lv_iload hx hb wdX1_passOverTones_67 (lv_at hl 3 rfl) ?_
    refine z_icmp_ge (tgt := 315) hx hb (by omega) (by omega) wdX1_passOverTones_69 (by decide) (fun c1 => ?_) (fun c1 => False.elim (by omega))
    exact kk j tz cc Nm o1 _ _ ls i1 (tpI_e i2 (by omega)) i4 (by omega) w (lv_sub hl [1] rfl)
  | succ f ih =>
    intro j tz cc Nm o1 i0 i1 i2 i3 i4 i5 i6 hf H locs ls w hl
    have hW1 := i1.1
    have hwf1 := i1.wf
    have hKL1 := hwf1.2.2.2.2
    have hn1 := hwf1.1
    refine lv_iload hx hb wdX1_passOverTones_65 (lv_at hl 0 rfl) ?_
    refine lv_iload hx hb wdX1_passOverTones_67 (lv_at hl 3 rfl) ?_
    refine z_icmp_ge (tgt := 315) hx hb (by omega) (by omega) wdX1_passOverTones_69 (by decide) (fun c1 => ?_) (fun c1 => ?_)
    · exact kk j tz cc Nm o1 _ _ ls i1 (tpI_e i2 (by omega)) i4 (by omega) w (lv_sub hl [1] rfl)
    · refine lv_aload_n hx hb wdX1_passOverTones_72 rfl (lv_at hl 10 rfl) ?_
      refine lv_iload hx hb wdX1_passOverTones_73 (lv_at hl 2 rfl) ?_
      refine k_Vi F w (As := [.int (zI tz)]) (rest := []) (a := a) (kd_lt (a := a) hk (by decide)) (sh_9 hk _ _) rfl (s_X9_hasTone hk hW1 hwf1 (by omega)) wgv_X1_47 whv_X9_hasTone ⟨(by omega), (by omega)⟩ hl.1 rfl (Nat.le_of_ble_eq_true rfl) ⟨Nat.zero_le _, Nat.zero_le _⟩ wdX1_passOverTones_75 (fun r Ma3 H locs hp w => ?_)
      rcases hp with ⟨⟨k2, rfl, hk2, rfl⟩ | ⟨nk2, rfl⟩, hMe⟩
      · rw [hMe] at w
        refine z_if_eq (tgt := 315) hx hb (by omega) wdX1_passOverTones_78 (by decide) (fun c4 => False.elim (by omega)) (fun c4 => ?_)
        refine lv_iconst (v := zI 0) hx hb wdX1_passOverTones_81 rfl ?_
        refine lv_istore (lv' := [(11, .int (zI 0)), (10, .int (zI (j : Int))), (9, .int (zI (cc : Int))), (8, .int (zI (k2 : Int))), (7, .int (zI ((o.1 : Nat) : Int))), (6, .int (zI (x : Int))), (5, .int (zI (y : Int))), (4, .int (zI (P 3))), (3, .int (zI 5)), (0, .ref (B + 23)), (1, .ref (B + ru)), (2, .ref (B + a))]) hx hb wdX1_passOverTones_82 hl (by decide) rfl (fun ls hl => ?_)
        refine lv_aload_n hx hb wdX1_passOverTones_84 rfl (lv_at hl 10 rfl) ?_
        refine lv_aload_n hx hb wdX1_passOverTones_85 rfl (lv_at hl 11 rfl) ?_
        refine lv_iload hx hb wdX1_passOverTones_86 (lv_at hl 3 rfl) ?_
        refine k_Vi F w (As := [.int (zI (k2 : Int))]) (rest := [.ref (B + ru)]) (a := a) (kd_lt (a := a) hk (by decide)) (sh_9 hk _ _) rfl (s_X9_kindOf hk hW1 hwf1 (by omega)) wgv_X1_94 whv_X9_kindOf ⟨(by omega), (by omega)⟩ hl.1 rfl (Nat.le_of_ble_eq_true rfl) ⟨Nat.zero_le _, Nat.zero_le _⟩ wdX1_passOverTones_88 (fun r Ma6 H locs hp w => ?_)
        rcases hp with ⟨⟨k5, ek5, hk5, rfl⟩ | ⟨nk5, rfl⟩, hMe⟩
        · obtain rfl : k2 = k5 := by omega
          rw [hMe] at w
          have gk5 := (hKL1 k2 (by omega)).1
          refine k_Vi F w (As := [.int (zI (((o1.2.1 k2) : Nat) : Int))]) (rest := []) (a := ru) (kd_lt (a := ru) hku (by decide)) (sh_4 hku _ _) rfl (s_X4_isOf hku i5 hP (z := (((o1.2.1 k2) : Nat) : Int)) (by omega)) wgv_X1_97 whv_X4_isOf ⟨(by omega), (by omega)⟩ hl.1 rfl (Nat.le_of_ble_eq_true rfl) ⟨Nat.zero_le _, Nat.zero_le _⟩ wdX1_passOverTones_91 (fun r Ma8 H locs hp w => ?_)
          rcases hp with ⟨⟨hof7, rfl⟩ | ⟨hof7, rfl⟩, hMe⟩
          · rw [hMe] at w
            refine z_if_eq (tgt := 249) hx hb (by omega) wdX1_passOverTones_94 (by decide) (fun c9 => False.elim (by omega)) (fun c9 => ?_)
            refine lv_aload_n hx hb wdX1_passOverTones_97 rfl (lv_at hl 10 rfl) ?_
            refine lv_aload_n hx hb wdX1_passOverTones_98 rfl (lv_at hl 11 rfl) ?_
            refine lv_iload hx hb wdX1_passOverTones_99 (lv_at hl 3 rfl) ?_
            refine k_Vi F w (As := [.ref (B + a), .int (zI (k2 : Int))]) (rest := []) (a := ru) (kd_lt (a := ru) hku (by decide)) (sh_4 hku _ _) rfl (s_X4_admits hk i1 hku i5 hP (t := k2) hk2 hz5) wgv_X1_100 whv_X4_admits ⟨(by omega), (by omega)⟩ hl.1 rfl (Nat.le_of_ble_eq_true rfl) ⟨Nat.zero_le _, Nat.zero_le _⟩ wdX1_passOverTones_101 (fun r Ma11 H locs hp w => ?_)
            rcases hp with ⟨⟨had10, rfl⟩ | ⟨had10, rfl⟩, hMe⟩
            · rw [hMe] at w
              refine z_if_eq (tgt := 249) hx hb (by omega) wdX1_passOverTones_104 (by decide) (fun c12 => False.elim (by omega)) (fun c12 => ?_)
              refine lv_iload_n hx hb wdX1_passOverTones_107 rfl (lv_at hl 8 rfl) ?_
              rcases (show (5 : Int) = 5 by omega) with c13
              refine r_val (v := zI 5) (congrArg zI c13) ?_
              refine lv_tableIn (tgt := 211) hx hb wdX1_passOverTones_108 (by decide) (by decide) (off := 103) rfl (by decide) ?_
              refine lv_aload_n hx hb wdX1_passOverTones_211 rfl (lv_at hl 9 rfl) ?_
              refine lv_aload_n hx hb wdX1_passOverTones_212 rfl (lv_at hl 11 rfl) ?_
              refine lv_iload hx hb wdX1_passOverTones_213 (lv_at hl 3 rfl) ?_
              refine k_Vi F w (As := [.ref (B + a), .int (zI (k2 : Int))]) (rest := []) (a := 23) (kd_lt (a := 23) (show kd 23 = (1, 0, 0) from rfl) (by decide)) (sh_1 rfl _ _) rfl (u_drop hk i1 (t := k2) hk2 ) wgv_X1_114 whv_X1_drop ⟨(by omega), (by omega)⟩ hl.1 rfl (Nat.le_of_ble_eq_true rfl) ⟨Nat.zero_le _, Nat.zero_le _⟩ wdX1_passOverTones_215 (fun r Ma15 H locs hp w => ?_)
              rcases hp with ⟨oT14, dT14, eT14, rfl, hCT14, hFT14, hdT14⟩
              refine lv_istore (lv' := [(11, .int (zI (dT14 : Int))), (10, .int (zI (j : Int))), (9, .int (zI (cc : Int))), (8, .int (zI (k2 : Int))), (7, .int (zI ((o.1 : Nat) : Int))), (6, .int (zI (x : Int))), (5, .int (zI (y : Int))), (4, .int (zI (P 3))), (3, .int (zI 5)), (0, .ref (B + 23)), (1, .ref (B + ru)), (2, .ref (B + a))]) hx hb wdX1_passOverTones_218 hl (by decide) rfl (fun ls hl => ?_)
              refine lv_goto (tgt := 249) hx hb wdX1_passOverTones_220 (by decide) ?_
              refine lv_iload_n hx hb wdX1_passOverTones_249 rfl (lv_at hl 8 rfl) ?_
              refine lv_iconst (v := zI 2) hx hb wdX1_passOverTones_250 rfl ?_
              refine z_icmp_ne (tgt := 273) hx hb (by omega) (by omega) wdX1_passOverTones_251 (by decide) (fun c16 => ?_) (fun c16 => False.elim (by omega))
              refine lv_iload hx hb wdX1_passOverTones_273 (lv_at hl 2 rfl) ?_
              refine lv_iload hx hb wdX1_passOverTones_275 (lv_at hl 0 rfl) ?_
              refine z_iadd (z := (((cc + dT14) : Nat) : Int)) hx hb wdX1_passOverTones_277 (by omega) ?_
              refine lv_istore (lv' := [(9, .int (zI (((cc + dT14) : Nat) : Int))), (11, .int (zI (dT14 : Int))), (10, .int (zI (j : Int))), (8, .int (zI (k2 : Int))), (7, .int (zI ((o.1 : Nat) : Int))), (6, .int (zI (x : Int))), (5, .int (zI (y : Int))), (4, .int (zI (P 3))), (3, .int (zI 5)), (0, .ref (B + 23)), (1, .ref (B + ru)), (2, .ref (B + a))]) hx hb wdX1_passOverTones_278 hl (by decide) rfl (fun ls hl => ?_)
              refine lv_iload hx hb wdX1_passOverTones_280 (lv_at hl 3 rfl) ?_
              refine lv_iload hx hb wdX1_passOverTones_282 (lv_at hl 5 rfl) ?_
              refine z_if_eq (tgt := 291) hx hb (by omega) wdX1_passOverTones_284 (by decide) (fun c17 => ?_) (fun c17 => ?_)
              · refine lv_iload_n hx hb wdX1_passOverTones_291 rfl (lv_at hl 8 rfl) ?_
                refine lv_iconst (v := zI 5) hx hb wdX1_passOverTones_292 rfl ?_
                refine z_icmp_ne (tgt := 305) hx hb (by omega) (by omega) wdX1_passOverTones_293 (by decide) (fun c18 => False.elim (by omega)) (fun c18 => ?_)
                refine lv_iload hx hb wdX1_passOverTones_296 (lv_at hl 1 rfl) ?_
                refine z_if_le (tgt := 305) hx hb (by omega) wdX1_passOverTones_298 (by decide) (fun c19 => ?_) (fun c19 => ?_)
                · refine lv_iconst (v := zI 1) hx hb wdX1_passOverTones_305 rfl ?_
                  refine z_iadd (z := (((k2 + 1) : Nat) : Int)) hx hb wdX1_passOverTones_306 (by omega) ?_
                  have hnb := nx_b 5 x dT14 (k2 : Int)
                  refine r_val (v := zI (nxT 5 x dT14 (k2 : Int))) (congrArg zI (by rw [← nx_r (v := 5) (cc := dT14) (show x ≠ 1 by omega) (by omega)]; omega)) ?_
                  refine lv_istore (lv' := [(8, .int (zI (nxT 5 x dT14 (k2 : Int)))), (9, .int (zI (((cc + dT14) : Nat) : Int))), (11, .int (zI (dT14 : Int))), (10, .int (zI (j : Int))), (7, .int (zI ((o.1 : Nat) : Int))), (6, .int (zI (x : Int))), (5, .int (zI (y : Int))), (4, .int (zI (P 3))), (3, .int (zI 5)), (0, .ref (B + 23)), (1, .ref (B + ru)), (2, .ref (B + a))]) hx hb wdX1_passOverTones_307 hl (by decide) rfl (fun ls hl => ?_)
                  refine z_iinc (v := (((j + 1) : Nat) : Int)) (lv' := [(10, .int (zI (((j + 1) : Nat) : Int))), (8, .int (zI (nxT 5 x dT14 (k2 : Int)))), (9, .int (zI (((cc + dT14) : Nat) : Int))), (11, .int (zI (dT14 : Int))), (7, .int (zI ((o.1 : Nat) : Int))), (6, .int (zI (x : Int))), (5, .int (zI (y : Int))), (4, .int (zI (P 3))), (3, .int (zI 5)), (0, .ref (B + 23)), (1, .ref (B + ru)), (2, .ref (B + a))]) hx hb wdX1_passOverTones_309 hl (k := 3) rfl (by omega) (by decide) rfl (fun ls hl => ?_)
                  refine lv_goto (tgt := 65) hx hb wdX1_passOverTones_312 (by decide) ?_
                  exact ih (j + 1) (nxT 5 x dT14 (k2 : Int)) (cc + dT14) Ma15 oT14 (by omega) hCT14 (by have h9 := tpI_s (f := o.1 - (j + 1)) (by rw [show o.1 - (j + 1) + 1 = o.1 - j by omega]; exact i2) hk2 (((trT_y ⟨hof7, had10⟩).trans (trV_5 (x := x) (y := y) (n9 := n9) (q := q) (ed := ed))).trans eT14); exact h9) (by omega) (Fr3.tr i4 hFT14) (isU.fr i5 (hFT14.1 (ru + 1) (by omega) (by omega) (by omega))) (by omega) (by omega) _ _ ls w (lv_sub hl [0, 2, 1, 4, 5, 6, 7, 8, 9, 10, 11] rfl)
                · refine lv_iconst (v := zI 0) hx hb wdX1_passOverTones_301 rfl ?_
                  refine lv_goto (tgt := 306) hx hb wdX1_passOverTones_302 (by decide) ?_
                  refine z_iadd (z := (((k2 + 0) : Nat) : Int)) hx hb wdX1_passOverTones_306 (by omega) ?_
                  have hnb := nx_b 5 x dT14 (k2 : Int)
                  refine r_val (v := zI (nxT 5 x dT14 (k2 : Int))) (congrArg zI (by rw [← nx_0 (v := 5) (cc := dT14) (show x ≠ 1 by omega) rfl (by omega)]; omega)) ?_
                  refine lv_istore (lv' := [(8, .int (zI (nxT 5 x dT14 (k2 : Int)))), (9, .int (zI (((cc + dT14) : Nat) : Int))), (11, .int (zI (dT14 : Int))), (10, .int (zI (j : Int))), (7, .int (zI ((o.1 : Nat) : Int))), (6, .int (zI (x : Int))), (5, .int (zI (y : Int))), (4, .int (zI (P 3))), (3, .int (zI 5)), (0, .ref (B + 23)), (1, .ref (B + ru)), (2, .ref (B + a))]) hx hb wdX1_passOverTones_307 hl (by decide) rfl (fun ls hl => ?_)
                  refine z_iinc (v := (((j + 1) : Nat) : Int)) (lv' := [(10, .int (zI (((j + 1) : Nat) : Int))), (8, .int (zI (nxT 5 x dT14 (k2 : Int)))), (9, .int (zI (((cc + dT14) : Nat) : Int))), (11, .int (zI (dT14 : Int))), (7, .int (zI ((o.1 : Nat) : Int))), (6, .int (zI (x : Int))), (5, .int (zI (y : Int))), (4, .int (zI (P 3))), (3, .int (zI 5)), (0, .ref (B + 23)), (1, .ref (B + ru)), (2, .ref (B + a))]) hx hb wdX1_passOverTones_309 hl (k := 3) rfl (by omega) (by decide) rfl (fun ls hl => ?_)
                  refine lv_goto (tgt := 65) hx hb wdX1_passOverTones_312 (by decide) ?_
                  exact ih (j + 1) (nxT 5 x dT14 (k2 : Int)) (cc + dT14) Ma15 oT14 (by omega) hCT14 (by have h9 := tpI_s (f := o.1 - (j + 1)) (by rw [show o.1 - (j + 1) + 1 = o.1 - j by omega]; exact i2) hk2 (((trT_y ⟨hof7, had10⟩).trans (trV_5 (x := x) (y := y) (n9 := n9) (q := q) (ed := ed))).trans eT14); exact h9) (by omega) (Fr3.tr i4 hFT14) (isU.fr i5 (hFT14.1 (ru + 1) (by omega) (by omega) (by omega))) (by omega) (by omega) _ _ ls w (lv_sub hl [0, 2, 1, 4, 5, 6, 7, 8, 9, 10, 11] rfl)
              · refine lv_iconst (v := zI (-1)) hx hb wdX1_passOverTones_287 rfl ?_
                refine lv_goto (tgt := 306) hx hb wdX1_passOverTones_288 (by decide) ?_
                refine z_iadd (z := ((k2 : Int) + (-1))) hx hb wdX1_passOverTones_306 (by omega) ?_
                have hnb := nx_b 5 x dT14 (k2 : Int)
                refine r_val (v := zI (nxT 5 x dT14 (k2 : Int))) (congrArg zI (by rw [← nx_l (v := 5) (cc := dT14) (show x = 1 by omega)]; omega)) ?_
                refine lv_istore (lv' := [(8, .int (zI (nxT 5 x dT14 (k2 : Int)))), (9, .int (zI (((cc + dT14) : Nat) : Int))), (11, .int (zI (dT14 : Int))), (10, .int (zI (j : Int))), (7, .int (zI ((o.1 : Nat) : Int))), (6, .int (zI (x : Int))), (5, .int (zI (y : Int))), (4, .int (zI (P 3))), (3, .int (zI 5)), (0, .ref (B + 23)), (1, .ref (B + ru)), (2, .ref (B + a))]) hx hb wdX1_passOverTones_307 hl (by decide) rfl (fun ls hl => ?_)
                refine z_iinc (v := (((j + 1) : Nat) : Int)) (lv' := [(10, .int (zI (((j + 1) : Nat) : Int))), (8, .int (zI (nxT 5 x dT14 (k2 : Int)))), (9, .int (zI (((cc + dT14) : Nat) : Int))), (11, .int (zI (dT14 : Int))), (7, .int (zI ((o.1 : Nat) : Int))), (6, .int (zI (x : Int))), (5, .int (zI (y : Int))), (4, .int (zI (P 3))), (3, .int (zI 5)), (0, .ref (B + 23)), (1, .ref (B + ru)), (2, .ref (B + a))]) hx hb wdX1_passOverTones_309 hl (k := 3) rfl (by omega) (by decide) rfl (fun ls hl => ?_)
                refine lv_goto (tgt := 65) hx hb wdX1_passOverTones_312 (by decide) ?_
                exact ih (j + 1) (nxT 5 x dT14 (k2 : Int)) (cc + dT14) Ma15 oT14 (by omega) hCT14 (by have h9 := tpI_s (f := o.1 - (j + 1)) (by rw [show o.1 - (j + 1) + 1 = o.1 - j by omega]; exact i2) hk2 (((trT_y ⟨hof7, had10⟩).trans (trV_5 (x := x) (y := y) (n9 := n9) (q := q) (ed := ed))).trans eT14); exact h9) (by omega) (Fr3.tr i4 hFT14) (isU.fr i5 (hFT14.1 (ru + 1) (by omega) (by omega) (by omega))) (by omega) (by omega) _ _ ls w (lv_sub hl [0, 2, 1, 4, 5, 6, 7, 8, 9, 10, 11] rfl)
            · rw [hMe] at w
              refine z_if_eq (tgt := 249) hx hb (by omega) wdX1_passOverTones_104 (by decide) (fun c20 => ?_) (fun c20 => False.elim (by omega))
              refine lv_iload_n hx hb wdX1_passOverTones_249 rfl (lv_at hl 8 rfl) ?_
              refine lv_iconst (v := zI 2) hx hb wdX1_passOverTones_250 rfl ?_
              refine z_icmp_ne (tgt := 273) hx hb (by omega) (by omega) wdX1_passOverTones_251 (by decide) (fun c21 => ?_) (fun c21 => False.elim (by omega))
              refine lv_iload hx hb wdX1_passOverTones_273 (lv_at hl 2 rfl) ?_
              refine lv_iload hx hb wdX1_passOverTones_275 (lv_at hl 0 rfl) ?_
              refine z_iadd (z := (((cc + 0) : Nat) : Int)) hx hb wdX1_passOverTones_277 (by omega) ?_
              refine lv_istore (lv' := [(9, .int (zI (((cc + 0) : Nat) : Int))), (11, .int (zI 0)), (10, .int (zI (j : Int))), (8, .int (zI (k2 : Int))), (7, .int (zI ((o.1 : Nat) : Int))), (6, .int (zI (x : Int))), (5, .int (zI (y : Int))), (4, .int (zI (P 3))), (3, .int (zI 5)), (0, .ref (B + 23)), (1, .ref (B + ru)), (2, .ref (B + a))]) hx hb wdX1_passOverTones_278 hl (by decide) rfl (fun ls hl => ?_)
              refine lv_iload hx hb wdX1_passOverTones_280 (lv_at hl 3 rfl) ?_
              refine lv_iload hx hb wdX1_passOverTones_282 (lv_at hl 5 rfl) ?_
              refine z_if_eq (tgt := 291) hx hb (by omega) wdX1_passOverTones_284 (by decide) (fun c22 => ?_) (fun c22 => ?_)
              · refine lv_iload_n hx hb wdX1_passOverTones_291 rfl (lv_at hl 8 rfl) ?_
                refine lv_iconst (v := zI 5) hx hb wdX1_passOverTones_292 rfl ?_
                refine z_icmp_ne (tgt := 305) hx hb (by omega) (by omega) wdX1_passOverTones_293 (by decide) (fun c23 => False.elim (by omega)) (fun c23 => ?_)
                refine lv_iload hx hb wdX1_passOverTones_296 (lv_at hl 1 rfl) ?_
                refine z_if_le (tgt := 305) hx hb (by omega) wdX1_passOverTones_298 (by decide) (fun c24 => ?_) (fun c24 => False.elim (by omega))
                refine lv_iconst (v := zI 1) hx hb wdX1_passOverTones_305 rfl ?_
                refine z_iadd (z := (((k2 + 1) : Nat) : Int)) hx hb wdX1_passOverTones_306 (by omega) ?_
                have hnb := nx_b 5 x 0 (k2 : Int)
                refine r_val (v := zI (nxT 5 x 0 (k2 : Int))) (congrArg zI (by rw [← nx_r (v := 5) (cc := 0) (show x ≠ 1 by omega) (by omega)]; omega)) ?_
                refine lv_istore (lv' := [(8, .int (zI (nxT 5 x 0 (k2 : Int)))), (9, .int (zI (((cc + 0) : Nat) : Int))), (11, .int (zI 0)), (10, .int (zI (j : Int))), (7, .int (zI ((o.1 : Nat) : Int))), (6, .int (zI (x : Int))), (5, .int (zI (y : Int))), (4, .int (zI (P 3))), (3, .int (zI 5)), (0, .ref (B + 23)), (1, .ref (B + ru)), (2, .ref (B + a))]) hx hb wdX1_passOverTones_307 hl (by decide) rfl (fun ls hl => ?_)
                refine z_iinc (v := (((j + 1) : Nat) : Int)) (lv' := [(10, .int (zI (((j + 1) : Nat) : Int))), (8, .int (zI (nxT 5 x 0 (k2 : Int)))), (9, .int (zI (((cc + 0) : Nat) : Int))), (11, .int (zI 0)), (7, .int (zI ((o.1 : Nat) : Int))), (6, .int (zI (x : Int))), (5, .int (zI (y : Int))), (4, .int (zI (P 3))), (3, .int (zI 5)), (0, .ref (B + 23)), (1, .ref (B + ru)), (2, .ref (B + a))]) hx hb wdX1_passOverTones_309 hl (k := 3) rfl (by omega) (by decide) rfl (fun ls hl => ?_)
                refine lv_goto (tgt := 65) hx hb wdX1_passOverTones_312 (by decide) ?_
                rw [show cc = cc + 0 from rfl] at hl
                exact ih (j + 1) (nxT 5 x 0 (k2 : Int)) (cc + 0) Nm o1 (by omega) i1 (by have h9 := tpI_s (f := o.1 - (j + 1)) (by rw [show o.1 - (j + 1) + 1 = o.1 - j by omega]; exact i2) hk2 (trT_n (fun h9 => had10 h9.2)); exact h9) (by omega) i4 i5 (by omega) (by omega) _ _ ls w (lv_sub hl [0, 2, 1, 4, 5, 6, 7, 8, 9, 10, 11] rfl)
              · refine lv_iconst (v := zI (-1)) hx hb wdX1_passOverTones_287 rfl ?_
                refine lv_goto (tgt := 306) hx hb wdX1_passOverTones_288 (by decide) ?_
                refine z_iadd (z := ((k2 : Int) + (-1))) hx hb wdX1_passOverTones_306 (by omega) ?_
                have hnb := nx_b 5 x 0 (k2 : Int)
                refine r_val (v := zI (nxT 5 x 0 (k2 : Int))) (congrArg zI (by rw [← nx_l (v := 5) (cc := 0) (show x = 1 by omega)]; omega)) ?_
                refine lv_istore (lv' := [(8, .int (zI (nxT 5 x 0 (k2 : Int)))), (9, .int (zI (((cc + 0) : Nat) : Int))), (11, .int (zI 0)), (10, .int (zI (j : Int))), (7, .int (zI ((o.1 : Nat) : Int))), (6, .int (zI (x : Int))), (5, .int (zI (y : Int))), (4, .int (zI (P 3))), (3, .int (zI 5)), (0, .ref (B + 23)), (1, .ref (B + ru)), (2, .ref (B + a))]) hx hb wdX1_passOverTones_307 hl (by decide) rfl (fun ls hl => ?_)
                refine z_iinc (v := (((j + 1) : Nat) : Int)) (lv' := [(10, .int (zI (((j + 1) : Nat) : Int))), (8, .int (zI (nxT 5 x 0 (k2 : Int)))), (9, .int (zI (((cc + 0) : Nat) : Int))), (11, .int (zI 0)), (7, .int (zI ((o.1 : Nat) : Int))), (6, .int (zI (x : Int))), (5, .int (zI (y : Int))), (4, .int (zI (P 3))), (3, .int (zI 5)), (0, .ref (B + 23)), (1, .ref (B + ru)), (2, .ref (B + a))]) hx hb wdX1_passOverTones_309 hl (k := 3) rfl (by omega) (by decide) rfl (fun ls hl => ?_)
                refine lv_goto (tgt := 65) hx hb wdX1_passOverTones_312 (by decide) ?_
                rw [show cc = cc + 0 from rfl] at hl
                exact ih (j + 1) (nxT 5 x 0 (k2 : Int)) (cc + 0) Nm o1 (by omega) i1 (by have h9 := tpI_s (f := o.1 - (j + 1)) (by rw [show o.1 - (j + 1) + 1 = o.1 - j by omega]; exact i2) hk2 (trT_n (fun h9 => had10 h9.2)); exact h9) (by omega) i4 i5 (by omega) (by omega) _ _ ls w (lv_sub hl [0, 2, 1, 4, 5, 6, 7, 8, 9, 10, 11] rfl)
          · rw [hMe] at w
            refine z_if_eq (tgt := 249) hx hb (by omega) wdX1_passOverTones_94 (by decide) (fun c25 => ?_) (fun c25 => False.elim (by omega))
            refine lv_iload_n hx hb wdX1_passOverTones_249 rfl (lv_at hl 8 rfl) ?_
            refine lv_iconst (v := zI 2) hx hb wdX1_passOverTones_250 rfl ?_
            refine z_icmp_ne (tgt := 273) hx hb (by omega) (by omega) wdX1_passOverTones_251 (by decide) (fun c26 => ?_) (fun c26 => False.elim (by omega))
            refine lv_iload hx hb wdX1_passOverTones_273 (lv_at hl 2 rfl) ?_
            refine lv_iload hx hb wdX1_passOverTones_275 (lv_at hl 0 rfl) ?_
            refine z_iadd (z := (((cc + 0) : Nat) : Int)) hx hb wdX1_passOverTones_277 (by omega) ?_
            refine lv_istore (lv' := [(9, .int (zI (((cc + 0) : Nat) : Int))), (11, .int (zI 0)), (10, .int (zI (j : Int))), (8, .int (zI (k2 : Int))), (7, .int (zI ((o.1 : Nat) : Int))), (6, .int (zI (x : Int))), (5, .int (zI (y : Int))), (4, .int (zI (P 3))), (3, .int (zI 5)), (0, .ref (B + 23)), (1, .ref (B + ru)), (2, .ref (B + a))]) hx hb wdX1_passOverTones_278 hl (by decide) rfl (fun ls hl => ?_)
            refine lv_iload hx hb wdX1_passOverTones_280 (lv_at hl 3 rfl) ?_
            refine lv_iload hx hb wdX1_passOverTones_282 (lv_at hl 5 rfl) ?_
            refine z_if_eq (tgt := 291) hx hb (by omega) wdX1_passOverTones_284 (by decide) (fun c27 => ?_) (fun c27 => ?_)
            · refine lv_iload_n hx hb wdX1_passOverTones_291 rfl (lv_at hl 8 rfl) ?_
              refine lv_iconst (v := zI 5) hx hb wdX1_passOverTones_292 rfl ?_
              refine z_icmp_ne (tgt := 305) hx hb (by omega) (by omega) wdX1_passOverTones_293 (by decide) (fun c28 => False.elim (by omega)) (fun c28 => ?_)
              refine lv_iload hx hb wdX1_passOverTones_296 (lv_at hl 1 rfl) ?_
              refine z_if_le (tgt := 305) hx hb (by omega) wdX1_passOverTones_298 (by decide) (fun c29 => ?_) (fun c29 => False.elim (by omega))
              refine lv_iconst (v := zI 1) hx hb wdX1_passOverTones_305 rfl ?_
              refine z_iadd (z := (((k2 + 1) : Nat) : Int)) hx hb wdX1_passOverTones_306 (by omega) ?_
              have hnb := nx_b 5 x 0 (k2 : Int)
              refine r_val (v := zI (nxT 5 x 0 (k2 : Int))) (congrArg zI (by rw [← nx_r (v := 5) (cc := 0) (show x ≠ 1 by omega) (by omega)]; omega)) ?_
              refine lv_istore (lv' := [(8, .int (zI (nxT 5 x 0 (k2 : Int)))), (9, .int (zI (((cc + 0) : Nat) : Int))), (11, .int (zI 0)), (10, .int (zI (j : Int))), (7, .int (zI ((o.1 : Nat) : Int))), (6, .int (zI (x : Int))), (5, .int (zI (y : Int))), (4, .int (zI (P 3))), (3, .int (zI 5)), (0, .ref (B + 23)), (1, .ref (B + ru)), (2, .ref (B + a))]) hx hb wdX1_passOverTones_307 hl (by decide) rfl (fun ls hl => ?_)
              refine z_iinc (v := (((j + 1) : Nat) : Int)) (lv' := [(10, .int (zI (((j + 1) : Nat) : Int))), (8, .int (zI (nxT 5 x 0 (k2 : Int)))), (9, .int (zI (((cc + 0) : Nat) : Int))), (11, .int (zI 0)), (7, .int (zI ((o.1 : Nat) : Int))), (6, .int (zI (x : Int))), (5, .int (zI (y : Int))), (4, .int (zI (P 3))), (3, .int (zI 5)), (0, .ref (B + 23)), (1, .ref (B + ru)), (2, .ref (B + a))]) hx hb wdX1_passOverTones_309 hl (k := 3) rfl (by omega) (by decide) rfl (fun ls hl => ?_)
              refine lv_goto (tgt := 65) hx hb wdX1_passOverTones_312 (by decide) ?_
              rw [show cc = cc + 0 from rfl] at hl
              exact ih (j + 1) (nxT 5 x 0 (k2 : Int)) (cc + 0) Nm o1 (by omega) i1 (by have h9 := tpI_s (f := o.1 - (j + 1)) (by rw [show o.1 - (j + 1) + 1 = o.1 - j by omega]; exact i2) hk2 (trT_n (fun h9 => hof7 h9.1)); exact h9) (by omega) i4 i5 (by omega) (by omega) _ _ ls w (lv_sub hl [0, 2, 1, 4, 5, 6, 7, 8, 9, 10, 11] rfl)
            · refine lv_iconst (v := zI (-1)) hx hb wdX1_passOverTones_287 rfl ?_
              refine lv_goto (tgt := 306) hx hb wdX1_passOverTones_288 (by decide) ?_
              refine z_iadd (z := ((k2 : Int) + (-1))) hx hb wdX1_passOverTones_306 (by omega) ?_
              have hnb := nx_b 5 x 0 (k2 : Int)
              refine r_val (v := zI (nxT 5 x 0 (k2 : Int))) (congrArg zI (by rw [← nx_l (v := 5) (cc := 0) (show x = 1 by omega)]; omega)) ?_
              refine lv_istore (lv' := [(8, .int (zI (nxT 5 x 0 (k2 : Int)))), (9, .int (zI (((cc + 0) : Nat) : Int))), (11, .int (zI 0)), (10, .int (zI (j : Int))), (7, .int (zI ((o.1 : Nat) : Int))), (6, .int (zI (x : Int))), (5, .int (zI (y : Int))), (4, .int (zI (P 3))), (3, .int (zI 5)), (0, .ref (B + 23)), (1, .ref (B + ru)), (2, .ref (B + a))]) hx hb wdX1_passOverTones_307 hl (by decide) rfl (fun ls hl => ?_)
              refine z_iinc (v := (((j + 1) : Nat) : Int)) (lv' := [(10, .int (zI (((j + 1) : Nat) : Int))), (8, .int (zI (nxT 5 x 0 (k2 : Int)))), (9, .int (zI (((cc + 0) : Nat) : Int))), (11, .int (zI 0)), (7, .int (zI ((o.1 : Nat) : Int))), (6, .int (zI (x : Int))), (5, .int (zI (y : Int))), (4, .int (zI (P 3))), (3, .int (zI 5)), (0, .ref (B + 23)), (1, .ref (B + ru)), (2, .ref (B + a))]) hx hb wdX1_passOverTones_309 hl (k := 3) rfl (by omega) (by decide) rfl (fun ls hl => ?_)
              refine lv_goto (tgt := 65) hx hb wdX1_passOverTones_312 (by decide) ?_
              rw [show cc = cc + 0 from rfl] at hl
              exact ih (j + 1) (nxT 5 x 0 (k2 : Int)) (cc + 0) Nm o1 (by omega) i1 (by have h9 := tpI_s (f := o.1 - (j + 1)) (by rw [show o.1 - (j + 1) + 1 = o.1 - j by omega]; exact i2) hk2 (trT_n (fun h9 => hof7 h9.1)); exact h9) (by omega) i4 i5 (by omega) (by omega) _ _ ls w (lv_sub hl [0, 2, 1, 4, 5, 6, 7, 8, 9, 10, 11] rfl)
        · exact False.elim (by omega)
      · rw [hMe] at w
        refine z_if_eq (tgt := 315) hx hb (by omega) wdX1_passOverTones_78 (by decide) (fun c30 => ?_) (fun c30 => False.elim (by omega))
        exact kk j tz cc Nm o1 _ _ ls i1 (tpI_e i2 (by omega)) i4 (by omega) w (lv_sub hl [1] rfl)
set_option maxRecDepth 4000 in
theorem s_X1_over_5 {l : Launch} {D : va_G} {B : Nat} {cy : Nat → ClassId} {M : Mem} {a q hv ed : Nat} {o : Wo} (hk : kd a = (9, 0, 0)) (hC : CW M a q hv ed o) {ru : Nat} {P : Nat → Int} (hku : kd ru = (4, 0, 0)) (hU : isU M ru P) (hP : okP P) (hap : ru + 1 < a ∨ a + 2 < ru) {x y n9 : Nat} {t0 : Int} (hq0 : P 0 = 5) (hx8 : (x = 1 ∧ P 4 = 1 ∧ (P 0 = 1 ∨ P 0 = 2 ∨ P 0 = 4)) ∨ (x = 0 ∧ ¬ (P 4 = 1 ∧ (P 0 = 1 ∨ P 0 = 2 ∨ P 0 = 4)))) (hy8 : (P 4 = 1 ∧ y = 1) ∨ (P 4 ≠ 1 ∧ y = 0)) (ht0 : (x = 1 ∧ t0 = (o.1 : Int) - 1) ∨ (x = 0 ∧ t0 = 0)) (hz5 : P 5 = -2 ∨ (0 ≤ P 5 ∧ P 5 ≤ 6))  : Ci l D B cy yX1_passOverTones cX1_passOverTones 12 (some .int) 3 66 [.ref (B + 23), .ref (B + ru), .ref (B + a)] M (fun r M1 => TQ a q hv ed (tpF P 5 x y n9 q hv ed o.1 t0 o) 1884 M r M1) := by
  refine s_any (by decide) (Nat.le_of_ble_eq_true rfl) ?_
  intro p e s m below meth c ls F hr hlocks w hl
  have F : CallFix p m c cX1_passOverTones 12 s _ TB RX1 := F
  have hx := F.1
  have hb := F.2.1
  have hl : lv_has ls 12 [(0, .ref (B + 23)), (1, .ref (B + ru)), (2, .ref (B + a))] := hl
  have hW := hC.1
  have hwf := hC.wf
  have hKL := hwf.2.2.2.2
  have hn12 := hwf.1
  have hq12 := hwf.2.1
  have hP0 := hP 0 (by decide)
  have hP1 := hP 1 (by decide)
  have hP2 := hP 2 (by decide)
  have hP3 := hP 3 (by decide)
  have hP4 := hP 4 (by decide)
  have hP5 := hP 5 (by decide)
  have hP6 := hP 6 (by decide)
  have hP7 := hP 7 (by decide)
  refine lv_aload_n hx hb wdX1_passOverTones_0 rfl (lv_at hl 1 rfl) ?_
  refine f_4_0 F w (a := ru) hku wtb_45 wdX1_passOverTones_1 ?_
  refine lv_iconst (v := zI 0) hx hb wdX1_passOverTones_4 rfl ?_
  refine g_iald F w (a := (ru + 1)) (kd_r1 hku) (j := 0) ⟨by decide, by decide⟩ (by omega) wdX1_passOverTones_5 ?_
  refine r_val (v := (zI (P 0))) (hU 0 (by decide)) ?_
  refine r_val (v := (zI 5)) (congrArg zI hq0) ?_
  refine lv_istore_n (lv' := [(3, .int (zI 5)), (0, .ref (B + 23)), (1, .ref (B + ru)), (2, .ref (B + a))]) hx hb wdX1_passOverTones_6 rfl hl (by decide) rfl (fun ls hl => ?_)
  refine lv_aload_n hx hb wdX1_passOverTones_7 rfl (lv_at hl 2 rfl) ?_
  refine f_4_0 F w (a := ru) hku wtb_45 wdX1_passOverTones_8 ?_
  refine lv_iconst (v := zI 3) hx hb wdX1_passOverTones_11 rfl ?_
  refine g_iald F w (a := (ru + 1)) (kd_r1 hku) (j := 3) ⟨by decide, by decide⟩ (by omega) wdX1_passOverTones_12 ?_
  refine r_val (v := (zI (P 3))) (hU 3 (by decide)) ?_
  refine lv_istore (lv' := [(4, .int (zI (P 3))), (3, .int (zI 5)), (0, .ref (B + 23)), (1, .ref (B + ru)), (2, .ref (B + a))]) hx hb wdX1_passOverTones_13 hl (by decide) rfl (fun ls hl => ?_)
  refine lv_aload_n hx hb wdX1_passOverTones_15 rfl (lv_at hl 3 rfl) ?_
  refine f_4_0 F w (a := ru) hku wtb_45 wdX1_passOverTones_16 ?_
  refine lv_iconst (v := zI 4) hx hb wdX1_passOverTones_19 rfl ?_
  refine g_iald F w (a := (ru + 1)) (kd_r1 hku) (j := 4) ⟨by decide, by decide⟩ (by omega) wdX1_passOverTones_20 ?_
  refine r_val (v := (zI (P 4))) (hU 4 (by decide)) ?_
  refine lv_iconst (v := zI 1) hx hb wdX1_passOverTones_21 rfl ?_
  refine z_icmp_ne (tgt := 29) hx hb (by omega) (by omega) wdX1_passOverTones_22 (by decide) (fun c1 => ?_) (fun c1 => ?_)
  · refine lv_iconst (v := zI 0) hx hb wdX1_passOverTones_29 rfl ?_
    refine r_val (v := zI ((y : Nat) : Int)) (congrArg zI (by omega)) ?_
    refine lv_istore (lv' := [(5, .int (zI (y : Int))), (4, .int (zI (P 3))), (3, .int (zI 5)), (0, .ref (B + 23)), (1, .ref (B + ru)), (2, .ref (B + a))]) hx hb wdX1_passOverTones_30 hl (by decide) rfl (fun ls hl => ?_)
    refine lv_aload_n hx hb wdX1_passOverTones_32 rfl (lv_at hl 4 rfl) ?_
    refine k_Vi F w (As := []) (rest := []) (a := ru) (kd_lt (a := ru) hku (by decide)) (sh_4 hku _ _) rfl (s_X4_goesLeft hku hU hP) wgv_X1_90 whv_X4_goesLeft ⟨(Nat.le_of_ble_eq_true rfl), (Nat.le_of_ble_eq_true rfl)⟩ hl.1 rfl (Nat.le_of_ble_eq_true rfl) ⟨Nat.zero_le _, Nat.zero_le _⟩ wdX1_passOverTones_33 (fun r Ma3 H locs hp w => ?_)
    rcases hp with ⟨⟨hlf2, rfl⟩ | ⟨hlf2, rfl⟩, hMe⟩
    · rw [hMe] at w
      refine r_val (v := zI ((x : Nat) : Int)) (congrArg zI (by omega)) ?_
      refine lv_istore (lv' := [(6, .int (zI (x : Int))), (5, .int (zI (y : Int))), (4, .int (zI (P 3))), (3, .int (zI 5)), (0, .ref (B + 23)), (1, .ref (B + ru)), (2, .ref (B + a))]) hx hb wdX1_passOverTones_36 hl (by decide) rfl (fun ls hl => ?_)
      refine lv_aload_n hx hb wdX1_passOverTones_38 rfl (lv_at hl 6 rfl) ?_
      refine f_9_0 F w (a := a) hk wtb_32 wdX1_passOverTones_39 ?_
      refine r_val (v := (zI ((o.1 : Nat) : Int))) (hW.1) ?_
      refine lv_istore (lv' := [(7, .int (zI ((o.1 : Nat) : Int))), (6, .int (zI (x : Int))), (5, .int (zI (y : Int))), (4, .int (zI (P 3))), (3, .int (zI 5)), (0, .ref (B + 23)), (1, .ref (B + ru)), (2, .ref (B + a))]) hx hb wdX1_passOverTones_42 hl (by decide) rfl (fun ls hl => ?_)
      refine lv_iload hx hb wdX1_passOverTones_44 (lv_at hl 1 rfl) ?_
      refine z_if_eq (tgt := 56) hx hb (by omega) wdX1_passOverTones_46 (by decide) (fun c4 => ?_) (fun c4 => ?_)
      · refine lv_iconst (v := zI 0) hx hb wdX1_passOverTones_56 rfl ?_
        refine r_val (v := zI t0) (congrArg zI (by omega)) ?_
        refine lv_istore (lv' := [(8, .int (zI t0)), (7, .int (zI ((o.1 : Nat) : Int))), (6, .int (zI (x : Int))), (5, .int (zI (y : Int))), (4, .int (zI (P 3))), (3, .int (zI 5)), (0, .ref (B + 23)), (1, .ref (B + ru)), (2, .ref (B + a))]) hx hb wdX1_passOverTones_57 hl (by decide) rfl (fun ls hl => ?_)
        refine lv_iconst (v := zI 0) hx hb wdX1_passOverTones_59 rfl ?_
        refine lv_istore (lv' := [(9, .int (zI 0)), (8, .int (zI t0)), (7, .int (zI ((o.1 : Nat) : Int))), (6, .int (zI (x : Int))), (5, .int (zI (y : Int))), (4, .int (zI (P 3))), (3, .int (zI 5)), (0, .ref (B + 23)), (1, .ref (B + ru)), (2, .ref (B + a))]) hx hb wdX1_passOverTones_60 hl (by decide) rfl (fun ls hl => ?_)
        refine lv_iconst (v := zI 0) hx hb wdX1_passOverTones_62 rfl ?_
        refine lv_istore (lv' := [(10, .int (zI 0)), (9, .int (zI 0)), (8, .int (zI t0)), (7, .int (zI ((o.1 : Nat) : Int))), (6, .int (zI (x : Int))), (5, .int (zI (y : Int))), (4, .int (zI (P 3))), (3, .int (zI 5)), (0, .ref (B + 23)), (1, .ref (B + ru)), (2, .ref (B + a))]) hx hb wdX1_passOverTones_63 hl (by decide) rfl (fun ls hl => ?_)
        have hx01 : x = 0 ∨ x = 1 := by omega
        have hy01 : y = 0 ∨ y = 1 := by omega
        refine lp_X1_over_5  F (Nat.le_of_ble_eq_true rfl) (Nat.le_of_ble_eq_true rfl) (x := x) (y := y) (n9 := n9) hk hku hP hn12 hx01 hy01 hz5 hap (fun j tz cc Nm o1 H locs ls x0 x1 x2 x3 w hl => ?_) o.1 0 t0 0 M o (by omega) hC tpI_0 (by omega) Fr3.rf hU (by omega) (by omega) _ _ ls w (lv_sub hl [0, 1, 2, 3, 4, 5, 6, 7, 8, 9, 10] rfl)
        refine lv_iload hx hb wdX1_passOverTones_315 (lv_at hl 0 rfl) ?_
        exact e_i F w hr hlocks ⟨o1, cc, x1, rfl, x0, x2, x3⟩ wdX1_passOverTones_317
      · refine lv_iload hx hb wdX1_passOverTones_49 (lv_at hl 0 rfl) ?_
        refine lv_iconst (v := zI 1) hx hb wdX1_passOverTones_51 rfl ?_
        refine z_isub (z := (((o.1 : Nat) : Int) - 1)) hx hb wdX1_passOverTones_52 (by omega) ?_
        refine lv_goto (tgt := 57) hx hb wdX1_passOverTones_53 (by decide) ?_
        refine r_val (v := zI t0) (congrArg zI (by omega)) ?_
        refine lv_istore (lv' := [(8, .int (zI t0)), (7, .int (zI ((o.1 : Nat) : Int))), (6, .int (zI (x : Int))), (5, .int (zI (y : Int))), (4, .int (zI (P 3))), (3, .int (zI 5)), (0, .ref (B + 23)), (1, .ref (B + ru)), (2, .ref (B + a))]) hx hb wdX1_passOverTones_57 hl (by decide) rfl (fun ls hl => ?_)
        refine lv_iconst (v := zI 0) hx hb wdX1_passOverTones_59 rfl ?_
        refine lv_istore (lv' := [(9, .int (zI 0)), (8, .int (zI t0)), (7, .int (zI ((o.1 : Nat) : Int))), (6, .int (zI (x : Int))), (5, .int (zI (y : Int))), (4, .int (zI (P 3))), (3, .int (zI 5)), (0, .ref (B + 23)), (1, .ref (B + ru)), (2, .ref (B + a))]) hx hb wdX1_passOverTones_60 hl (by decide) rfl (fun ls hl => ?_)
        refine lv_iconst (v := zI 0) hx hb wdX1_passOverTones_62 rfl ?_
        refine lv_istore (lv' := [(10, .int (zI 0)), (9, .int (zI 0)), (8, .int (zI t0)), (7, .int (zI ((o.1 : Nat) : Int))), (6, .int (zI (x : Int))), (5, .int (zI (y : Int))), (4, .int (zI (P 3))), (3, .int (zI 5)), (0, .ref (B + 23)), (1, .ref (B + ru)), (2, .ref (B + a))]) hx hb wdX1_passOverTones_63 hl (by decide) rfl (fun ls hl => ?_)
        have hx01 : x = 0 ∨ x = 1 := by omega
        have hy01 : y = 0 ∨ y = 1 := by omega
        refine lp_X1_over_5  F (Nat.le_of_ble_eq_true rfl) (Nat.le_of_ble_eq_true rfl) (x := x) (y := y) (n9 := n9) hk hku hP hn12 hx01 hy01 hz5 hap (fun j tz cc Nm o1 H locs ls x0 x1 x2 x3 w hl => ?_) o.1 0 t0 0 M o (by omega) hC tpI_0 (by omega) Fr3.rf hU (by omega) (by omega) _ _ ls w (lv_sub hl [0, 1, 2, 3, 4, 5, 6, 7, 8, 9, 10] rfl)
        refine lv_iload hx hb wdX1_passOverTones_315 (lv_at hl 0 rfl) ?_
        exact e_i F w hr hlocks ⟨o1, cc, x1, rfl, x0, x2, x3⟩ wdX1_passOverTones_317
    · rw [hMe] at w
      refine r_val (v := zI ((x : Nat) : Int)) (congrArg zI (by omega)) ?_
      refine lv_istore (lv' := [(6, .int (zI (x : Int))), (5, .int (zI (y : Int))), (4, .int (zI (P 3))), (3, .int (zI 5)), (0, .ref (B + 23)), (1, .ref (B + ru)), (2, .ref (B + a))]) hx hb wdX1_passOverTones_36 hl (by decide) rfl (fun ls hl => ?_)
      refine lv_aload_n hx hb wdX1_passOverTones_38 rfl (lv_at hl 6 rfl) ?_
      refine f_9_0 F w (a := a) hk wtb_32 wdX1_passOverTones_39 ?_
      refine r_val (v := (zI ((o.1 : Nat) : Int))) (hW.1) ?_
      refine lv_istore (lv' := [(7, .int (zI ((o.1 : Nat) : Int))), (6, .int (zI (x : Int))), (5, .int (zI (y : Int))), (4, .int (zI (P 3))), (3, .int (zI 5)), (0, .ref (B + 23)), (1, .ref (B + ru)), (2, .ref (B + a))]) hx hb wdX1_passOverTones_42 hl (by decide) rfl (fun ls hl => ?_)
      refine lv_iload hx hb wdX1_passOverTones_44 (lv_at hl 1 rfl) ?_
      refine z_if_eq (tgt := 56) hx hb (by omega) wdX1_passOverTones_46 (by decide) (fun c5 => ?_) (fun c5 => ?_)
      · refine lv_iconst (v := zI 0) hx hb wdX1_passOverTones_56 rfl ?_
        refine r_val (v := zI t0) (congrArg zI (by omega)) ?_
        refine lv_istore (lv' := [(8, .int (zI t0)), (7, .int (zI ((o.1 : Nat) : Int))), (6, .int (zI (x : Int))), (5, .int (zI (y : Int))), (4, .int (zI (P 3))), (3, .int (zI 5)), (0, .ref (B + 23)), (1, .ref (B + ru)), (2, .ref (B + a))]) hx hb wdX1_passOverTones_57 hl (by decide) rfl (fun ls hl => ?_)
        refine lv_iconst (v := zI 0) hx hb wdX1_passOverTones_59 rfl ?_
        refine lv_istore (lv' := [(9, .int (zI 0)), (8, .int (zI t0)), (7, .int (zI ((o.1 : Nat) : Int))), (6, .int (zI (x : Int))), (5, .int (zI (y : Int))), (4, .int (zI (P 3))), (3, .int (zI 5)), (0, .ref (B + 23)), (1, .ref (B + ru)), (2, .ref (B + a))]) hx hb wdX1_passOverTones_60 hl (by decide) rfl (fun ls hl => ?_)
        refine lv_iconst (v := zI 0) hx hb wdX1_passOverTones_62 rfl ?_
        refine lv_istore (lv' := [(10, .int (zI 0)), (9, .int (zI 0)), (8, .int (zI t0)), (7, .int (zI ((o.1 : Nat) : Int))), (6, .int (zI (x : Int))), (5, .int (zI (y : Int))), (4, .int (zI (P 3))), (3, .int (zI 5)), (0, .ref (B + 23)), (1, .ref (B + ru)), (2, .ref (B + a))]) hx hb wdX1_passOverTones_63 hl (by decide) rfl (fun ls hl => ?_)
        have hx01 : x = 0 ∨ x = 1 := by omega
        have hy01 : y = 0 ∨ y = 1 := by omega
        refine lp_X1_over_5  F (Nat.le_of_ble_eq_true rfl) (Nat.le_of_ble_eq_true rfl) (x := x) (y := y) (n9 := n9) hk hku hP hn12 hx01 hy01 hz5 hap (fun j tz cc Nm o1 H locs ls x0 x1 x2 x3 w hl => ?_) o.1 0 t0 0 M o (by omega) hC tpI_0 (by omega) Fr3.rf hU (by omega) (by omega) _ _ ls w (lv_sub hl [0, 1, 2, 3, 4, 5, 6, 7, 8, 9, 10] rfl)
        refine lv_iload hx hb wdX1_passOverTones_315 (lv_at hl 0 rfl) ?_
        exact e_i F w hr hlocks ⟨o1, cc, x1, rfl, x0, x2, x3⟩ wdX1_passOverTones_317
      · refine lv_iload hx hb wdX1_passOverTones_49 (lv_at hl 0 rfl) ?_
        refine lv_iconst (v := zI 1) hx hb wdX1_passOverTones_51 rfl ?_
        refine z_isub (z := (((o.1 : Nat) : Int) - 1)) hx hb wdX1_passOverTones_52 (by omega) ?_
        refine lv_goto (tgt := 57) hx hb wdX1_passOverTones_53 (by decide) ?_
        refine r_val (v := zI t0) (congrArg zI (by omega)) ?_
        refine lv_istore (lv' := [(8, .int (zI t0)), (7, .int (zI ((o.1 : Nat) : Int))), (6, .int (zI (x : Int))), (5, .int (zI (y : Int))), (4, .int (zI (P 3))), (3, .int (zI 5)), (0, .ref (B + 23)), (1, .ref (B + ru)), (2, .ref (B + a))]) hx hb wdX1_passOverTones_57 hl (by decide) rfl (fun ls hl => ?_)
        refine lv_iconst (v := zI 0) hx hb wdX1_passOverTones_59 rfl ?_
        refine lv_istore (lv' := [(9, .int (zI 0)), (8, .int (zI t0)), (7, .int (zI ((o.1 : Nat) : Int))), (6, .int (zI (x : Int))), (5, .int (zI (y : Int))), (4, .int (zI (P 3))), (3, .int (zI 5)), (0, .ref (B + 23)), (1, .ref (B + ru)), (2, .ref (B + a))]) hx hb wdX1_passOverTones_60 hl (by decide) rfl (fun ls hl => ?_)
        refine lv_iconst (v := zI 0) hx hb wdX1_passOverTones_62 rfl ?_
        refine lv_istore (lv' := [(10, .int (zI 0)), (9, .int (zI 0)), (8, .int (zI t0)), (7, .int (zI ((o.1 : Nat) : Int))), (6, .int (zI (x : Int))), (5, .int (zI (y : Int))), (4, .int (zI (P 3))), (3, .int (zI 5)), (0, .ref (B + 23)), (1, .ref (B + ru)), (2, .ref (B + a))]) hx hb wdX1_passOverTones_63 hl (by decide) rfl (fun ls hl => ?_)
        have hx01 : x = 0 ∨ x = 1 := by omega
        have hy01 : y = 0 ∨ y = 1 := by omega
        refine lp_X1_over_5  F (Nat.le_of_ble_eq_true rfl) (Nat.le_of_ble_eq_true rfl) (x := x) (y := y) (n9 := n9) hk hku hP hn12 hx01 hy01 hz5 hap (fun j tz cc Nm o1 H locs ls x0 x1 x2 x3 w hl => ?_) o.1 0 t0 0 M o (by omega) hC tpI_0 (by omega) Fr3.rf hU (by omega) (by omega) _ _ ls w (lv_sub hl [0, 1, 2, 3, 4, 5, 6, 7, 8, 9, 10] rfl)
        refine lv_iload hx hb wdX1_passOverTones_315 (lv_at hl 0 rfl) ?_
        exact e_i F w hr hlocks ⟨o1, cc, x1, rfl, x0, x2, x3⟩ wdX1_passOverTones_317
  · refine lv_iconst (v := zI 1) hx hb wdX1_passOverTones_25 rfl ?_
    refine lv_goto (tgt := 30) hx hb wdX1_passOverTones_26 (by decide) ?_
    refine r_val (v := zI ((y : Nat) : Int)) (congrArg zI (by omega)) ?_
    refine lv_istore (lv' := [(5, .int (zI (y : Int))), (4, .int (zI (P 3))), (3, .int (zI 5)), (0, .ref (B + 23)), (1, .ref (B + ru)), (2, .ref (B + a))]) hx hb wdX1_passOverTones_30 hl (by decide) rfl (fun ls hl => ?_)
    refine lv_aload_n hx hb wdX1_passOverTones_32 rfl (lv_at hl 4 rfl) ?_
    refine k_Vi F w (As := []) (rest := []) (a := ru) (kd_lt (a := ru) hku (by decide)) (sh_4 hku _ _) rfl (s_X4_goesLeft hku hU hP) wgv_X1_90 whv_X4_goesLeft ⟨(Nat.le_of_ble_eq_true rfl), (Nat.le_of_ble_eq_true rfl)⟩ hl.1 rfl (Nat.le_of_ble_eq_true rfl) ⟨Nat.zero_le _, Nat.zero_le _⟩ wdX1_passOverTones_33 (fun r Ma7 H locs hp w => ?_)
    rcases hp with ⟨⟨hlf6, rfl⟩ | ⟨hlf6, rfl⟩, hMe⟩
    · rw [hMe] at w
      refine r_val (v := zI ((x : Nat) : Int)) (congrArg zI (by omega)) ?_
      refine lv_istore (lv' := [(6, .int (zI (x : Int))), (5, .int (zI (y : Int))), (4, .int (zI (P 3))), (3, .int (zI 5)), (0, .ref (B + 23)), (1, .ref (B + ru)), (2, .ref (B + a))]) hx hb wdX1_passOverTones_36 hl (by decide) rfl (fun ls hl => ?_)
      refine lv_aload_n hx hb wdX1_passOverTones_38 rfl (lv_at hl 6 rfl) ?_
      refine f_9_0 F w (a := a) hk wtb_32 wdX1_passOverTones_39 ?_
      refine r_val (v := (zI ((o.1 : Nat) : Int))) (hW.1) ?_
      refine lv_istore (lv' := [(7, .int (zI ((o.1 : Nat) : Int))), (6, .int (zI (x : Int))), (5, .int (zI (y : Int))), (4, .int (zI (P 3))), (3, .int (zI 5)), (0, .ref (B + 23)), (1, .ref (B + ru)), (2, .ref (B + a))]) hx hb wdX1_passOverTones_42 hl (by decide) rfl (fun ls hl => ?_)
      refine lv_iload hx hb wdX1_passOverTones_44 (lv_at hl 1 rfl) ?_
      refine z_if_eq (tgt := 56) hx hb (by omega) wdX1_passOverTones_46 (by decide) (fun c8 => ?_) (fun c8 => ?_)
      · refine lv_iconst (v := zI 0) hx hb wdX1_passOverTones_56 rfl ?_
        refine r_val (v := zI t0) (congrArg zI (by omega)) ?_
        refine lv_istore (lv' := [(8, .int (zI t0)), (7, .int (zI ((o.1 : Nat) : Int))), (6, .int (zI (x : Int))), (5, .int (zI (y : Int))), (4, .int (zI (P 3))), (3, .int (zI 5)), (0, .ref (B + 23)), (1, .ref (B + ru)), (2, .ref (B + a))]) hx hb wdX1_passOverTones_57 hl (by decide) rfl (fun ls hl => ?_)
        refine lv_iconst (v := zI 0) hx hb wdX1_passOverTones_59 rfl ?_
        refine lv_istore (lv' := [(9, .int (zI 0)), (8, .int (zI t0)), (7, .int (zI ((o.1 : Nat) : Int))), (6, .int (zI (x : Int))), (5, .int (zI (y : Int))), (4, .int (zI (P 3))), (3, .int (zI 5)), (0, .ref (B + 23)), (1, .ref (B + ru)), (2, .ref (B + a))]) hx hb wdX1_passOverTones_60 hl (by decide) rfl (fun ls hl => ?_)
        refine lv_iconst (v := zI 0) hx hb wdX1_passOverTones_62 rfl ?_
        refine lv_istore (lv' := [(10, .int (zI 0)), (9, .int (zI 0)), (8, .int (zI t0)), (7, .int (zI ((o.1 : Nat) : Int))), (6, .int (zI (x : Int))), (5, .int (zI (y : Int))), (4, .int (zI (P 3))), (3, .int (zI 5)), (0, .ref (B + 23)), (1, .ref (B + ru)), (2, .ref (B + a))]) hx hb wdX1_passOverTones_63 hl (by decide) rfl (fun ls hl => ?_)
        have hx01 : x = 0 ∨ x = 1 := by omega
        have hy01 : y = 0 ∨ y = 1 := by omega
        refine lp_X1_over_5  F (Nat.le_of_ble_eq_true rfl) (Nat.le_of_ble_eq_true rfl) (x := x) (y := y) (n9 := n9) hk hku hP hn12 hx01 hy01 hz5 hap (fun j tz cc Nm o1 H locs ls x0 x1 x2 x3 w hl => ?_) o.1 0 t0 0 M o (by omega) hC tpI_0 (by omega) Fr3.rf hU (by omega) (by omega) _ _ ls w (lv_sub hl [0, 1, 2, 3, 4, 5, 6, 7, 8, 9, 10] rfl)
        refine lv_iload hx hb wdX1_passOverTones_315 (lv_at hl 0 rfl) ?_
        exact e_i F w hr hlocks ⟨o1, cc, x1, rfl, x0, x2, x3⟩ wdX1_passOverTones_317
      · refine lv_iload hx hb wdX1_passOverTones_49 (lv_at hl 0 rfl) ?_
        refine lv_iconst (v := zI 1) hx hb wdX1_passOverTones_51 rfl ?_
        refine z_isub (z := (((o.1 : Nat) : Int) - 1)) hx hb wdX1_passOverTones_52 (by omega) ?_
        refine lv_goto (tgt := 57) hx hb wdX1_passOverTones_53 (by decide) ?_
        refine r_val (v := zI t0) (congrArg zI (by omega)) ?_
        refine lv_istore (lv' := [(8, .int (zI t0)), (7, .int (zI ((o.1 : Nat) : Int))), (6, .int (zI (x : Int))), (5, .int (zI (y : Int))), (4, .int (zI (P 3))), (3, .int (zI 5)), (0, .ref (B + 23)), (1, .ref (B + ru)), (2, .ref (B + a))]) hx hb wdX1_passOverTones_57 hl (by decide) rfl (fun ls hl => ?_)
        refine lv_iconst (v := zI 0) hx hb wdX1_passOverTones_59 rfl ?_
        refine lv_istore (lv' := [(9, .int (zI 0)), (8, .int (zI t0)), (7, .int (zI ((o.1 : Nat) : Int))), (6, .int (zI (x : Int))), (5, .int (zI (y : Int))), (4, .int (zI (P 3))), (3, .int (zI 5)), (0, .ref (B + 23)), (1, .ref (B + ru)), (2, .ref (B + a))]) hx hb wdX1_passOverTones_60 hl (by decide) rfl (fun ls hl => ?_)
        refine lv_iconst (v := zI 0) hx hb wdX1_passOverTones_62 rfl ?_
        refine lv_istore (lv' := [(10, .int (zI 0)), (9, .int (zI 0)), (8, .int (zI t0)), (7, .int (zI ((o.1 : Nat) : Int))), (6, .int (zI (x : Int))), (5, .int (zI (y : Int))), (4, .int (zI (P 3))), (3, .int (zI 5)), (0, .ref (B + 23)), (1, .ref (B + ru)), (2, .ref (B + a))]) hx hb wdX1_passOverTones_63 hl (by decide) rfl (fun ls hl => ?_)
        have hx01 : x = 0 ∨ x = 1 := by omega
        have hy01 : y = 0 ∨ y = 1 := by omega
        refine lp_X1_over_5  F (Nat.le_of_ble_eq_true rfl) (Nat.le_of_ble_eq_true rfl) (x := x) (y := y) (n9 := n9) hk hku hP hn12 hx01 hy01 hz5 hap (fun j tz cc Nm o1 H locs ls x0 x1 x2 x3 w hl => ?_) o.1 0 t0 0 M o (by omega) hC tpI_0 (by omega) Fr3.rf hU (by omega) (by omega) _ _ ls w (lv_sub hl [0, 1, 2, 3, 4, 5, 6, 7, 8, 9, 10] rfl)
        refine lv_iload hx hb wdX1_passOverTones_315 (lv_at hl 0 rfl) ?_
        exact e_i F w hr hlocks ⟨o1, cc, x1, rfl, x0, x2, x3⟩ wdX1_passOverTones_317
    · rw [hMe] at w
      refine r_val (v := zI ((x : Nat) : Int)) (congrArg zI (by omega)) ?_
      refine lv_istore (lv' := [(6, .int (zI (x : Int))), (5, .int (zI (y : Int))), (4, .int (zI (P 3))), (3, .int (zI 5)), (0, .ref (B + 23)), (1, .ref (B + ru)), (2, .ref (B + a))]) hx hb wdX1_passOverTones_36 hl (by decide) rfl (fun ls hl => ?_)
      refine lv_aload_n hx hb wdX1_passOverTones_38 rfl (lv_at hl 6 rfl) ?_
      refine f_9_0 F w (a := a) hk wtb_32 wdX1_passOverTones_39 ?_
      refine r_val (v := (zI ((o.1 : Nat) : Int))) (hW.1) ?_
      refine lv_istore (lv' := [(7, .int (zI ((o.1 : Nat) : Int))), (6, .int (zI (x : Int))), (5, .int (zI (y : Int))), (4, .int (zI (P 3))), (3, .int (zI 5)), (0, .ref (B + 23)), (1, .ref (B + ru)), (2, .ref (B + a))]) hx hb wdX1_passOverTones_42 hl (by decide) rfl (fun ls hl => ?_)
      refine lv_iload hx hb wdX1_passOverTones_44 (lv_at hl 1 rfl) ?_
      refine z_if_eq (tgt := 56) hx hb (by omega) wdX1_passOverTones_46 (by decide) (fun c9 => ?_) (fun c9 => ?_)
      · refine lv_iconst (v := zI 0) hx hb wdX1_passOverTones_56 rfl ?_
        refine r_val (v := zI t0) (congrArg zI (by omega)) ?_
        refine lv_istore (lv' := [(8, .int (zI t0)), (7, .int (zI ((o.1 : Nat) : Int))), (6, .int (zI (x : Int))), (5, .int (zI (y : Int))), (4, .int (zI (P 3))), (3, .int (zI 5)), (0, .ref (B + 23)), (1, .ref (B + ru)), (2, .ref (B + a))]) hx hb wdX1_passOverTones_57 hl (by decide) rfl (fun ls hl => ?_)
        refine lv_iconst (v := zI 0) hx hb wdX1_passOverTones_59 rfl ?_
        refine lv_istore (lv' := [(9, .int (zI 0)), (8, .int (zI t0)), (7, .int (zI ((o.1 : Nat) : Int))), (6, .int (zI (x : Int))), (5, .int (zI (y : Int))), (4, .int (zI (P 3))), (3, .int (zI 5)), (0, .ref (B + 23)), (1, .ref (B + ru)), (2, .ref (B + a))]) hx hb wdX1_passOverTones_60 hl (by decide) rfl (fun ls hl => ?_)
        refine lv_iconst (v := zI 0) hx hb wdX1_passOverTones_62 rfl ?_
        refine lv_istore (lv' := [(10, .int (zI 0)), (9, .int (zI 0)), (8, .int (zI t0)), (7, .int (zI ((o.1 : Nat) : Int))), (6, .int (zI (x : Int))), (5, .int (zI (y : Int))), (4, .int (zI (P 3))), (3, .int (zI 5)), (0, .ref (B + 23)), (1, .ref (B + ru)), (2, .ref (B + a))]) hx hb wdX1_passOverTones_63 hl (by decide) rfl (fun ls hl => ?_)
        have hx01 : x = 0 ∨ x = 1 := by omega
        have hy01 : y = 0 ∨ y = 1 := by omega
        refine lp_X1_over_5  F (Nat.le_of_ble_eq_true rfl) (Nat.le_of_ble_eq_true rfl) (x := x) (y := y) (n9 := n9) hk hku hP hn12 hx01 hy01 hz5 hap (fun j tz cc Nm o1 H locs ls x0 x1 x2 x3 w hl => ?_) o.1 0 t0 0 M o (by omega) hC tpI_0 (by omega) Fr3.rf hU (by omega) (by omega) _ _ ls w (lv_sub hl [0, 1, 2, 3, 4, 5, 6, 7, 8, 9, 10] rfl)
        refine lv_iload hx hb wdX1_passOverTones_315 (lv_at hl 0 rfl) ?_
        exact e_i F w hr hlocks ⟨o1, cc, x1, rfl, x0, x2, x3⟩ wdX1_passOverTones_317
      · refine lv_iload hx hb wdX1_passOverTones_49 (lv_at hl 0 rfl) ?_
        refine lv_iconst (v := zI 1) hx hb wdX1_passOverTones_51 rfl ?_
        refine z_isub (z := (((o.1 : Nat) : Int) - 1)) hx hb wdX1_passOverTones_52 (by omega) ?_
        refine lv_goto (tgt := 57) hx hb wdX1_passOverTones_53 (by decide) ?_
        refine r_val (v := zI t0) (congrArg zI (by omega)) ?_
        refine lv_istore (lv' := [(8, .int (zI t0)), (7, .int (zI ((o.1 : Nat) : Int))), (6, .int (zI (x : Int))), (5, .int (zI (y : Int))), (4, .int (zI (P 3))), (3, .int (zI 5)), (0, .ref (B + 23)), (1, .ref (B + ru)), (2, .ref (B + a))]) hx hb wdX1_passOverTones_57 hl (by decide) rfl (fun ls hl => ?_)
        refine lv_iconst (v := zI 0) hx hb wdX1_passOverTones_59 rfl ?_
        refine lv_istore (lv' := [(9, .int (zI 0)), (8, .int (zI t0)), (7, .int (zI ((o.1 : Nat) : Int))), (6, .int (zI (x : Int))), (5, .int (zI (y : Int))), (4, .int (zI (P 3))), (3, .int (zI 5)), (0, .ref (B + 23)), (1, .ref (B + ru)), (2, .ref (B + a))]) hx hb wdX1_passOverTones_60 hl (by decide) rfl (fun ls hl => ?_)
        refine lv_iconst (v := zI 0) hx hb wdX1_passOverTones_62 rfl ?_
        refine lv_istore (lv' := [(10, .int (zI 0)), (9, .int (zI 0)), (8, .int (zI t0)), (7, .int (zI ((o.1 : Nat) : Int))), (6, .int (zI (x : Int))), (5, .int (zI (y : Int))), (4, .int (zI (P 3))), (3, .int (zI 5)), (0, .ref (B + 23)), (1, .ref (B + ru)), (2, .ref (B + a))]) hx hb wdX1_passOverTones_63 hl (by decide) rfl (fun ls hl => ?_)
        have hx01 : x = 0 ∨ x = 1 := by omega
        have hy01 : y = 0 ∨ y = 1 := by omega
        refine lp_X1_over_5  F (Nat.le_of_ble_eq_true rfl) (Nat.le_of_ble_eq_true rfl) (x := x) (y := y) (n9 := n9) hk hku hP hn12 hx01 hy01 hz5 hap (fun j tz cc Nm o1 H locs ls x0 x1 x2 x3 w hl => ?_) o.1 0 t0 0 M o (by omega) hC tpI_0 (by omega) Fr3.rf hU (by omega) (by omega) _ _ ls w (lv_sub hl [0, 1, 2, 3, 4, 5, 6, 7, 8, 9, 10] rfl)
        refine lv_iload hx hb wdX1_passOverTones_315 (lv_at hl 0 rfl) ?_
        exact e_i F w hr hlocks ⟨o1, cc, x1, rfl, x0, x2, x3⟩ wdX1_passOverTones_317
theorem wdX1_passOverTones_223 : decode cX1_passOverTones 223 = .ok (.aload_n 0, 1) := dq0 kk_42 (by decide +kernel)
theorem wdX1_passOverTones_224 : decode cX1_passOverTones 224 = .ok (.aload_n 2, 1) := dq0 kk_44 (by decide +kernel)
theorem wdX1_passOverTones_225 : decode cX1_passOverTones 225 = .ok (.iload 8, 2) := dqU kk_21 (by decide +kernel)
theorem wdX1_passOverTones_227 : decode cX1_passOverTones 227 = .ok (.invokevirtual 117, 3) := dqV kk_182 (by decide +kernel)
theorem wtk_X1_fuse : Cond.code yX1_fuse cX1_fuse 6 (some .int) ∈ TB := tbm (tc4 (List.mem_of_getElem? (i := 80) rfl)) rfl
theorem wgc_X1_fuse : GoodIn TB (cw yX1_fuse cX1_fuse 6 (some .int)) := goodIn_c2 wtk_X1_fuse
theorem wtb_83 : Cond.methodLink "ToneLines$Doer" 117 yX1_fuse ∈ TB := tbm (tc4 (List.mem_of_getElem? (i := 77) rfl)) rfl
theorem wtb_84 : Cond.instanceMethod yX1_fuse ∈ TB := tbm (tc4 (List.mem_of_getElem? (i := 79) rfl)) rfl
theorem wtb_85 : Cond.selects "ToneLines$Doer" yX1_fuse yX1_fuse ∈ TB := tbp (List.mem_of_getElem? (i := 26) rfl) rfl
theorem wgv_X1_117 : GoodIn TB (wsV RX1 117 RX1 yX1_fuse (cw yX1_fuse cX1_fuse 6 (some .int))) := goodIn_4 wtb_83 wtb_84 wtb_85 wtb_52 wgc_X1_fuse
theorem whv_X1_fuse : yX1_fuse.cls = RX1 ∧ yX1_fuse.cls ≠ "java/lang/invoke/MethodHandle" ∧ yX1_fuse.cls ≠ "java/lang/invoke/VarHandle" ∧ (parseMethodDescriptor yX1_fuse.desc).map (fun d => d.parameters.length) = some 2 := by decide +kernel
theorem wdX1_passOverTones_230 : decode cX1_passOverTones 230 = .ok (.istore 11, 2) := dqU kk_54 (by decide +kernel)
theorem wdX1_passOverTones_232 : decode cX1_passOverTones 232 = .ok (.goto 17, 3) := dqT kk_167 (by decide +kernel)
set_option maxRecDepth 4000 in
theorem lp_X1_over_6 {p : Program} {l : Launch} {e : Env} {s : State} {m : MethodId} {args : Array Value} {below : List Frame} {meth : Method} {c : Code} {D : va_G} {B : Nat} {cy : Nat → ClassId} {H0 : Heap} {Q : State → Prop} {M : Mem} {R : Room} {a ru q hv ed x y n9 : Nat} {o : Wo} {P : Nat → Int} {t0 : Int} (F : CallFix p m c cX1_passOverTones 12 s args TB RX1) (hR1 : 3 ≤ R.frames) (hR2 : 68 ≤ R.locals) (hk : kd a = (9, 0, 0)) (hku : kd ru = (4, 0, 0)) (hP : okP P) (hn12 : o.1 ≤ 12) (hx01 : x = 0 ∨ x = 1) (hy01 : y = 0 ∨ y = 1) (hz5 : P 5 = -2 ∨ (0 ≤ P 5 ∧ P 5 ≤ 6)) (hap : ru + 1 < a ∨ a + 2 < ru)  (kk : ∀ (j : Nat) (tz : Int) (cc : Nat) (Nm : Mem) (o1 : Wo) (H : Heap) (locs : List Loc) (ls : Array Slot), (CW Nm a q hv ed o1) → (tpF P 6 x y n9 q hv ed o.1 t0 o = (o1, cc)) → (Fr3 Nm M a) → (cc ≤ 1884) → Wd D B cy s H0 Nm H locs → lv_has ls 12 [(9, .int (zI (cc : Int)))] → W p l e R s m args below meth c H locs 0 0 Q (F0 m 315 ls [])) : ∀ (f : Nat) (j : Nat) (tz : Int) (cc : Nat) (Nm : Mem) (o1 : Wo), (j ≤ o.1) → (CW Nm a q hv ed o1) → (tpI P 6 x y n9 q hv ed o.1 t0 o (o.1 - j) tz o1 cc) → (cc ≤ 157 * j) → (Fr3 Nm M a) → (isU Nm ru P) → (-2 - (j : Int) ≤ tz ∧ tz ≤ 12 + (j : Int)) → (o.1 ≤ j + f) → ∀ (H : Heap) (locs : List Loc) (ls : Array Slot), Wd D B cy s H0 Nm H locs → lv_has ls 12 [(10, .int (zI (j : Int))), (9, .int (zI (cc : Int))), (8, .int (zI tz)), (7, .int (zI ((o.1 : Nat) : Int))), (6, .int (zI (x : Int))), (5, .int (zI (y : Int))), (4, .int (zI (P 3))), (3, .int (zI 6)), (0, .ref (B + 23)), (1, .ref (B + ru)), (2, .ref (B + a))] → W p l e R s m args below meth c H locs 0 0 Q (F0 m 65 ls []) := by
  have hx := F.1
  have hb := F.2.1
  have hP0 := hP 0 (by decide)
  have hP1 := hP 1 (by decide)
  have hP2 := hP 2 (by decide)
  have hP3 := hP 3 (by decide)
  have hP4 := hP 4 (by decide)
  have hP5 := hP 5 (by decide)
  have hP6 := hP 6 (by decide)
  have hP7 := hP 7 (by decide)
  intro f
  induction f with
  | zero =>
    intro j tz cc Nm o1 i0 i1 i2 i3 i4 i5 i6 hf H locs ls w hl
    have hW1 := i1.1
    have hwf1 := i1.wf
    have hKL1 := hwf1.2.2.2.2
    have hn1 := hwf1.1
    refine lv_iload hx hb wdX1_passOverTones_65 (lv_at hl 0 rfl) ?_
    refine lv_iload hx hb wdX1_passOverTones_67 (lv_at hl 3 rfl) ?_
    refine z_icmp_ge (tgt := 315) hx hb (by omega) (by omega) wdX1_passOverTones_69 (by decide) (fun c1 => ?_) (fun c1 => False.elim (by omega))
    exact kk j tz cc Nm o1 _ _ ls i1 (tpI_e i2 (by omega)) i4 (by omega) w (lv_sub hl [1] rfl)
  | succ f ih =>
    intro j tz cc Nm o1 i0 i1 i2 i3 i4 i5 i6 hf H locs ls w hl
    have hW1 := i1.1
    have hwf1 := i1.wf
    have hKL1 := hwf1.2.2.2.2
    have hn1 := hwf1.1
    refine lv_iload hx hb wdX1_passOverTones_65 (lv_at hl 0 rfl) ?_
    refine lv_iload hx hb wdX1_passOverTones_67 (lv_at hl 3 rfl) ?_
    refine z_icmp_ge (tgt := 315) hx hb (by omega) (by omega) wdX1_passOverTones_69 (by decide) (fun c1 => ?_) (fun c1 => ?_)
    · exact kk j tz cc Nm o1 _ _ ls i1 (tpI_e i2 (by omega)) i4 (by omega) w (lv_sub hl [1] rfl)
    · refine lv_aload_n hx hb wdX1_passOverTones_72 rfl (lv_at hl 10 rfl) ?_
      refine lv_iload hx hb wdX1_passOverTones_73 (lv_at hl 2 rfl) ?_
      refine k_Vi F w (As := [.int (zI tz)]) (rest := []) (a := a) (kd_lt (a := a) hk (by decide)) (sh_9 hk _ _) rfl (s_X9_hasTone hk hW1 hwf1 (by omega)) wgv_X1_47 whv_X9_hasTone ⟨(by omega), (by omega)⟩ hl.1 rfl (Nat.le_of_ble_eq_true rfl) ⟨Nat.zero_le _, Nat.zero_le _⟩ wdX1_passOverTones_75 (fun r Ma3 H locs hp w => ?_)
      rcases hp with ⟨⟨k2, rfl, hk2, rfl⟩ | ⟨nk2, rfl⟩, hMe⟩
      · rw [hMe] at w
        refine z_if_eq (tgt := 315) hx hb (by omega) wdX1_passOverTones_78 (by decide) (fun c4 => False.elim (by omega)) (fun c4 => ?_)
        refine lv_iconst (v := zI 0) hx hb wdX1_passOverTones_81 rfl ?_
        refine lv_istore (lv' := [(11, .int (zI 0)), (10, .int (zI (j : Int))), (9, .int (zI (cc : Int))), (8, .int (zI (k2 : Int))), (7, .int (zI ((o.1 : Nat) : Int))), (6, .int (zI (x : Int))), (5, .int (zI (y : Int))), (4, .int (zI (P 3))), (3, .int (zI 6)), (0, .ref (B + 23)), (1, .ref (B + ru)), (2, .ref (B + a))]) hx hb wdX1_passOverTones_82 hl (by decide) rfl (fun ls hl => ?_)
        refine lv_aload_n hx hb wdX1_passOverTones_84 rfl (lv_at hl 10 rfl) ?_
        refine lv_aload_n hx hb wdX1_passOverTones_85 rfl (lv_at hl 11 rfl) ?_
        refine lv_iload hx hb wdX1_passOverTones_86 (lv_at hl 3 rfl) ?_
        refine k_Vi F w (As := [.int (zI (k2 : Int))]) (rest := [.ref (B + ru)]) (a := a) (kd_lt (a := a) hk (by decide)) (sh_9 hk _ _) rfl (s_X9_kindOf hk hW1 hwf1 (by omega)) wgv_X1_94 whv_X9_kindOf ⟨(by omega), (by omega)⟩ hl.1 rfl (Nat.le_of_ble_eq_true rfl) ⟨Nat.zero_le _, Nat.zero_le _⟩ wdX1_passOverTones_88 (fun r Ma6 H locs hp w => ?_)
        rcases hp with ⟨⟨k5, ek5, hk5, rfl⟩ | ⟨nk5, rfl⟩, hMe⟩
        · obtain rfl : k2 = k5 := by omega
          rw [hMe] at w
          have gk5 := (hKL1 k2 (by omega)).1
          refine k_Vi F w (As := [.int (zI (((o1.2.1 k2) : Nat) : Int))]) (rest := []) (a := ru) (kd_lt (a := ru) hku (by decide)) (sh_4 hku _ _) rfl (s_X4_isOf hku i5 hP (z := (((o1.2.1 k2) : Nat) : Int)) (by omega)) wgv_X1_97 whv_X4_isOf ⟨(by omega), (by omega)⟩ hl.1 rfl (Nat.le_of_ble_eq_true rfl) ⟨Nat.zero_le _, Nat.zero_le _⟩ wdX1_passOverTones_91 (fun r Ma8 H locs hp w => ?_)
          rcases hp with ⟨⟨hof7, rfl⟩ | ⟨hof7, rfl⟩, hMe⟩
          · rw [hMe] at w
            refine z_if_eq (tgt := 249) hx hb (by omega) wdX1_passOverTones_94 (by decide) (fun c9 => False.elim (by omega)) (fun c9 => ?_)
            refine lv_aload_n hx hb wdX1_passOverTones_97 rfl (lv_at hl 10 rfl) ?_
            refine lv_aload_n hx hb wdX1_passOverTones_98 rfl (lv_at hl 11 rfl) ?_
            refine lv_iload hx hb wdX1_passOverTones_99 (lv_at hl 3 rfl) ?_
            refine k_Vi F w (As := [.ref (B + a), .int (zI (k2 : Int))]) (rest := []) (a := ru) (kd_lt (a := ru) hku (by decide)) (sh_4 hku _ _) rfl (s_X4_admits hk i1 hku i5 hP (t := k2) hk2 hz5) wgv_X1_100 whv_X4_admits ⟨(by omega), (by omega)⟩ hl.1 rfl (Nat.le_of_ble_eq_true rfl) ⟨Nat.zero_le _, Nat.zero_le _⟩ wdX1_passOverTones_101 (fun r Ma11 H locs hp w => ?_)
            rcases hp with ⟨⟨had10, rfl⟩ | ⟨had10, rfl⟩, hMe⟩
            · rw [hMe] at w
              refine z_if_eq (tgt := 249) hx hb (by omega) wdX1_passOverTones_104 (by decide) (fun c12 => False.elim (by omega)) (fun c12 => ?_)
              refine lv_iload_n hx hb wdX1_passOverTones_107 rfl (lv_at hl 8 rfl) ?_
              rcases (show (6 : Int) = 6 by omega) with c13
              refine r_val (v := zI 6) (congrArg zI c13) ?_
              refine lv_tableIn (tgt := 223) hx hb wdX1_passOverTones_108 (by decide) (by decide) (off := 115) rfl (by decide) ?_
              refine lv_aload_n hx hb wdX1_passOverTones_223 rfl (lv_at hl 9 rfl) ?_
              refine lv_aload_n hx hb wdX1_passOverTones_224 rfl (lv_at hl 11 rfl) ?_
              refine lv_iload hx hb wdX1_passOverTones_225 (lv_at hl 3 rfl) ?_
              refine k_Vi F w (As := [.ref (B + a), .int (zI (k2 : Int))]) (rest := []) (a := 23) (kd_lt (a := 23) (show kd 23 = (1, 0, 0) from rfl) (by decide)) (sh_1 rfl _ _) rfl (u_fuse hk i1 (t := k2) hk2 ) wgv_X1_117 whv_X1_fuse ⟨(by omega), (by omega)⟩ hl.1 rfl (Nat.le_of_ble_eq_true rfl) ⟨Nat.zero_le _, Nat.zero_le _⟩ wdX1_passOverTones_227 (fun r Ma15 H locs hp w => ?_)
              rcases hp with ⟨oT14, dT14, eT14, rfl, hCT14, hFT14, hdT14⟩
              refine lv_istore (lv' := [(11, .int (zI (dT14 : Int))), (10, .int (zI (j : Int))), (9, .int (zI (cc : Int))), (8, .int (zI (k2 : Int))), (7, .int (zI ((o.1 : Nat) : Int))), (6, .int (zI (x : Int))), (5, .int (zI (y : Int))), (4, .int (zI (P 3))), (3, .int (zI 6)), (0, .ref (B + 23)), (1, .ref (B + ru)), (2, .ref (B + a))]) hx hb wdX1_passOverTones_230 hl (by decide) rfl (fun ls hl => ?_)
              refine lv_goto (tgt := 249) hx hb wdX1_passOverTones_232 (by decide) ?_
              refine lv_iload_n hx hb wdX1_passOverTones_249 rfl (lv_at hl 8 rfl) ?_
              refine lv_iconst (v := zI 2) hx hb wdX1_passOverTones_250 rfl ?_
              refine z_icmp_ne (tgt := 273) hx hb (by omega) (by omega) wdX1_passOverTones_251 (by decide) (fun c16 => ?_) (fun c16 => False.elim (by omega))
              refine lv_iload hx hb wdX1_passOverTones_273 (lv_at hl 2 rfl) ?_
              refine lv_iload hx hb wdX1_passOverTones_275 (lv_at hl 0 rfl) ?_
              refine z_iadd (z := (((cc + dT14) : Nat) : Int)) hx hb wdX1_passOverTones_277 (by omega) ?_
              refine lv_istore (lv' := [(9, .int (zI (((cc + dT14) : Nat) : Int))), (11, .int (zI (dT14 : Int))), (10, .int (zI (j : Int))), (8, .int (zI (k2 : Int))), (7, .int (zI ((o.1 : Nat) : Int))), (6, .int (zI (x : Int))), (5, .int (zI (y : Int))), (4, .int (zI (P 3))), (3, .int (zI 6)), (0, .ref (B + 23)), (1, .ref (B + ru)), (2, .ref (B + a))]) hx hb wdX1_passOverTones_278 hl (by decide) rfl (fun ls hl => ?_)
              refine lv_iload hx hb wdX1_passOverTones_280 (lv_at hl 3 rfl) ?_
              refine lv_iload hx hb wdX1_passOverTones_282 (lv_at hl 5 rfl) ?_
              refine z_if_eq (tgt := 291) hx hb (by omega) wdX1_passOverTones_284 (by decide) (fun c17 => ?_) (fun c17 => ?_)
              · refine lv_iload_n hx hb wdX1_passOverTones_291 rfl (lv_at hl 8 rfl) ?_
                refine lv_iconst (v := zI 5) hx hb wdX1_passOverTones_292 rfl ?_
                refine z_icmp_ne (tgt := 305) hx hb (by omega) (by omega) wdX1_passOverTones_293 (by decide) (fun c18 => ?_) (fun c18 => False.elim (by omega))
                refine lv_iconst (v := zI 1) hx hb wdX1_passOverTones_305 rfl ?_
                refine z_iadd (z := (((k2 + 1) : Nat) : Int)) hx hb wdX1_passOverTones_306 (by omega) ?_
                have hnb := nx_b 6 x dT14 (k2 : Int)
                refine r_val (v := zI (nxT 6 x dT14 (k2 : Int))) (congrArg zI (by rw [← nx_r (v := 6) (cc := dT14) (show x ≠ 1 by omega) (by omega)]; omega)) ?_
                refine lv_istore (lv' := [(8, .int (zI (nxT 6 x dT14 (k2 : Int)))), (9, .int (zI (((cc + dT14) : Nat) : Int))), (11, .int (zI (dT14 : Int))), (10, .int (zI (j : Int))), (7, .int (zI ((o.1 : Nat) : Int))), (6, .int (zI (x : Int))), (5, .int (zI (y : Int))), (4, .int (zI (P 3))), (3, .int (zI 6)), (0, .ref (B + 23)), (1, .ref (B + ru)), (2, .ref (B + a))]) hx hb wdX1_passOverTones_307 hl (by decide) rfl (fun ls hl => ?_)
                refine z_iinc (v := (((j + 1) : Nat) : Int)) (lv' := [(10, .int (zI (((j + 1) : Nat) : Int))), (8, .int (zI (nxT 6 x dT14 (k2 : Int)))), (9, .int (zI (((cc + dT14) : Nat) : Int))), (11, .int (zI (dT14 : Int))), (7, .int (zI ((o.1 : Nat) : Int))), (6, .int (zI (x : Int))), (5, .int (zI (y : Int))), (4, .int (zI (P 3))), (3, .int (zI 6)), (0, .ref (B + 23)), (1, .ref (B + ru)), (2, .ref (B + a))]) hx hb wdX1_passOverTones_309 hl (k := 3) rfl (by omega) (by decide) rfl (fun ls hl => ?_)
                refine lv_goto (tgt := 65) hx hb wdX1_passOverTones_312 (by decide) ?_
                exact ih (j + 1) (nxT 6 x dT14 (k2 : Int)) (cc + dT14) Ma15 oT14 (by omega) hCT14 (by have h9 := tpI_s (f := o.1 - (j + 1)) (by rw [show o.1 - (j + 1) + 1 = o.1 - j by omega]; exact i2) hk2 (((trT_y ⟨hof7, had10⟩).trans (trV_6 (x := x) (y := y) (n9 := n9) (q := q) (ed := ed))).trans eT14); exact h9) (by omega) (Fr3.tr i4 hFT14) (isU.fr i5 (hFT14.1 (ru + 1) (by omega) (by omega) (by omega))) (by omega) (by omega) _ _ ls w (lv_sub hl [0, 2, 1, 4, 5, 6, 7, 8, 9, 10, 11] rfl)
              · refine lv_iconst (v := zI (-1)) hx hb wdX1_passOverTones_287 rfl ?_
                refine lv_goto (tgt := 306) hx hb wdX1_passOverTones_288 (by decide) ?_
                refine z_iadd (z := ((k2 : Int) + (-1))) hx hb wdX1_passOverTones_306 (by omega) ?_
                have hnb := nx_b 6 x dT14 (k2 : Int)
                refine r_val (v := zI (nxT 6 x dT14 (k2 : Int))) (congrArg zI (by rw [← nx_l (v := 6) (cc := dT14) (show x = 1 by omega)]; omega)) ?_
                refine lv_istore (lv' := [(8, .int (zI (nxT 6 x dT14 (k2 : Int)))), (9, .int (zI (((cc + dT14) : Nat) : Int))), (11, .int (zI (dT14 : Int))), (10, .int (zI (j : Int))), (7, .int (zI ((o.1 : Nat) : Int))), (6, .int (zI (x : Int))), (5, .int (zI (y : Int))), (4, .int (zI (P 3))), (3, .int (zI 6)), (0, .ref (B + 23)), (1, .ref (B + ru)), (2, .ref (B + a))]) hx hb wdX1_passOverTones_307 hl (by decide) rfl (fun ls hl => ?_)
                refine z_iinc (v := (((j + 1) : Nat) : Int)) (lv' := [(10, .int (zI (((j + 1) : Nat) : Int))), (8, .int (zI (nxT 6 x dT14 (k2 : Int)))), (9, .int (zI (((cc + dT14) : Nat) : Int))), (11, .int (zI (dT14 : Int))), (7, .int (zI ((o.1 : Nat) : Int))), (6, .int (zI (x : Int))), (5, .int (zI (y : Int))), (4, .int (zI (P 3))), (3, .int (zI 6)), (0, .ref (B + 23)), (1, .ref (B + ru)), (2, .ref (B + a))]) hx hb wdX1_passOverTones_309 hl (k := 3) rfl (by omega) (by decide) rfl (fun ls hl => ?_)
                refine lv_goto (tgt := 65) hx hb wdX1_passOverTones_312 (by decide) ?_
                exact ih (j + 1) (nxT 6 x dT14 (k2 : Int)) (cc + dT14) Ma15 oT14 (by omega) hCT14 (by have h9 := tpI_s (f := o.1 - (j + 1)) (by rw [show o.1 - (j + 1) + 1 = o.1 - j by omega]; exact i2) hk2 (((trT_y ⟨hof7, had10⟩).trans (trV_6 (x := x) (y := y) (n9 := n9) (q := q) (ed := ed))).trans eT14); exact h9) (by omega) (Fr3.tr i4 hFT14) (isU.fr i5 (hFT14.1 (ru + 1) (by omega) (by omega) (by omega))) (by omega) (by omega) _ _ ls w (lv_sub hl [0, 2, 1, 4, 5, 6, 7, 8, 9, 10, 11] rfl)
            · rw [hMe] at w
              refine z_if_eq (tgt := 249) hx hb (by omega) wdX1_passOverTones_104 (by decide) (fun c19 => ?_) (fun c19 => False.elim (by omega))
              refine lv_iload_n hx hb wdX1_passOverTones_249 rfl (lv_at hl 8 rfl) ?_
              refine lv_iconst (v := zI 2) hx hb wdX1_passOverTones_250 rfl ?_
              refine z_icmp_ne (tgt := 273) hx hb (by omega) (by omega) wdX1_passOverTones_251 (by decide) (fun c20 => ?_) (fun c20 => False.elim (by omega))
              refine lv_iload hx hb wdX1_passOverTones_273 (lv_at hl 2 rfl) ?_
              refine lv_iload hx hb wdX1_passOverTones_275 (lv_at hl 0 rfl) ?_
              refine z_iadd (z := (((cc + 0) : Nat) : Int)) hx hb wdX1_passOverTones_277 (by omega) ?_
              refine lv_istore (lv' := [(9, .int (zI (((cc + 0) : Nat) : Int))), (11, .int (zI 0)), (10, .int (zI (j : Int))), (8, .int (zI (k2 : Int))), (7, .int (zI ((o.1 : Nat) : Int))), (6, .int (zI (x : Int))), (5, .int (zI (y : Int))), (4, .int (zI (P 3))), (3, .int (zI 6)), (0, .ref (B + 23)), (1, .ref (B + ru)), (2, .ref (B + a))]) hx hb wdX1_passOverTones_278 hl (by decide) rfl (fun ls hl => ?_)
              refine lv_iload hx hb wdX1_passOverTones_280 (lv_at hl 3 rfl) ?_
              refine lv_iload hx hb wdX1_passOverTones_282 (lv_at hl 5 rfl) ?_
              refine z_if_eq (tgt := 291) hx hb (by omega) wdX1_passOverTones_284 (by decide) (fun c21 => ?_) (fun c21 => ?_)
              · refine lv_iload_n hx hb wdX1_passOverTones_291 rfl (lv_at hl 8 rfl) ?_
                refine lv_iconst (v := zI 5) hx hb wdX1_passOverTones_292 rfl ?_
                refine z_icmp_ne (tgt := 305) hx hb (by omega) (by omega) wdX1_passOverTones_293 (by decide) (fun c22 => ?_) (fun c22 => False.elim (by omega))
                refine lv_iconst (v := zI 1) hx hb wdX1_passOverTones_305 rfl ?_
                refine z_iadd (z := (((k2 + 1) : Nat) : Int)) hx hb wdX1_passOverTones_306 (by omega) ?_
                have hnb := nx_b 6 x 0 (k2 : Int)
                refine r_val (v := zI (nxT 6 x 0 (k2 : Int))) (congrArg zI (by rw [← nx_r (v := 6) (cc := 0) (show x ≠ 1 by omega) (by omega)]; omega)) ?_
                refine lv_istore (lv' := [(8, .int (zI (nxT 6 x 0 (k2 : Int)))), (9, .int (zI (((cc + 0) : Nat) : Int))), (11, .int (zI 0)), (10, .int (zI (j : Int))), (7, .int (zI ((o.1 : Nat) : Int))), (6, .int (zI (x : Int))), (5, .int (zI (y : Int))), (4, .int (zI (P 3))), (3, .int (zI 6)), (0, .ref (B + 23)), (1, .ref (B + ru)), (2, .ref (B + a))]) hx hb wdX1_passOverTones_307 hl (by decide) rfl (fun ls hl => ?_)
                refine z_iinc (v := (((j + 1) : Nat) : Int)) (lv' := [(10, .int (zI (((j + 1) : Nat) : Int))), (8, .int (zI (nxT 6 x 0 (k2 : Int)))), (9, .int (zI (((cc + 0) : Nat) : Int))), (11, .int (zI 0)), (7, .int (zI ((o.1 : Nat) : Int))), (6, .int (zI (x : Int))), (5, .int (zI (y : Int))), (4, .int (zI (P 3))), (3, .int (zI 6)), (0, .ref (B + 23)), (1, .ref (B + ru)), (2, .ref (B + a))]) hx hb wdX1_passOverTones_309 hl (k := 3) rfl (by omega) (by decide) rfl (fun ls hl => ?_)
                refine lv_goto (tgt := 65) hx hb wdX1_passOverTones_312 (by decide) ?_
                rw [show cc = cc + 0 from rfl] at hl
                exact ih (j + 1) (nxT 6 x 0 (k2 : Int)) (cc + 0) Nm o1 (by omega) i1 (by have h9 := tpI_s (f := o.1 - (j + 1)) (by rw [show o.1 - (j + 1) + 1 = o.1 - j by omega]; exact i2) hk2 (trT_n (fun h9 => had10 h9.2)); exact h9) (by omega) i4 i5 (by omega) (by omega) _ _ ls w (lv_sub hl [0, 2, 1, 4, 5, 6, 7, 8, 9, 10, 11] rfl)
              · refine lv_iconst (v := zI (-1)) hx hb wdX1_passOverTones_287 rfl ?_
                refine lv_goto (tgt := 306) hx hb wdX1_passOverTones_288 (by decide) ?_
                refine z_iadd (z := ((k2 : Int) + (-1))) hx hb wdX1_passOverTones_306 (by omega) ?_
                have hnb := nx_b 6 x 0 (k2 : Int)
                refine r_val (v := zI (nxT 6 x 0 (k2 : Int))) (congrArg zI (by rw [← nx_l (v := 6) (cc := 0) (show x = 1 by omega)]; omega)) ?_
                refine lv_istore (lv' := [(8, .int (zI (nxT 6 x 0 (k2 : Int)))), (9, .int (zI (((cc + 0) : Nat) : Int))), (11, .int (zI 0)), (10, .int (zI (j : Int))), (7, .int (zI ((o.1 : Nat) : Int))), (6, .int (zI (x : Int))), (5, .int (zI (y : Int))), (4, .int (zI (P 3))), (3, .int (zI 6)), (0, .ref (B + 23)), (1, .ref (B + ru)), (2, .ref (B + a))]) hx hb wdX1_passOverTones_307 hl (by decide) rfl (fun ls hl => ?_)
                refine z_iinc (v := (((j + 1) : Nat) : Int)) (lv' := [(10, .int (zI (((j + 1) : Nat) : Int))), (8, .int (zI (nxT 6 x 0 (k2 : Int)))), (9, .int (zI (((cc + 0) : Nat) : Int))), (11, .int (zI 0)), (7, .int (zI ((o.1 : Nat) : Int))), (6, .int (zI (x : Int))), (5, .int (zI (y : Int))), (4, .int (zI (P 3))), (3, .int (zI 6)), (0, .ref (B + 23)), (1, .ref (B + ru)), (2, .ref (B + a))]) hx hb wdX1_passOverTones_309 hl (k := 3) rfl (by omega) (by decide) rfl (fun ls hl => ?_)
                refine lv_goto (tgt := 65) hx hb wdX1_passOverTones_312 (by decide) ?_
                rw [show cc = cc + 0 from rfl] at hl
                exact ih (j + 1) (nxT 6 x 0 (k2 : Int)) (cc + 0) Nm o1 (by omega) i1 (by have h9 := tpI_s (f := o.1 - (j + 1)) (by rw [show o.1 - (j + 1) + 1 = o.1 - j by omega]; exact i2) hk2 (trT_n (fun h9 => had10 h9.2)); exact h9) (by omega) i4 i5 (by omega) (by omega) _ _ ls w (lv_sub hl [0, 2, 1, 4, 5, 6, 7, 8, 9, 10, 11] rfl)
          · rw [hMe] at w
            refine z_if_eq (tgt := 249) hx hb (by omega) wdX1_passOverTones_94 (by decide) (fun c23 => ?_) (fun c23 => False.elim (by omega))
            refine lv_iload_n hx hb wdX1_passOverTones_249 rfl (lv_at hl 8 rfl) ?_
            refine lv_iconst (v := zI 2) hx hb wdX1_passOverTones_250 rfl ?_
            refine z_icmp_ne (tgt := 273) hx hb (by omega) (by omega) wdX1_passOverTones_251 (by decide) (fun c24 => ?_) (fun c24 => False.elim (by omega))
            refine lv_iload hx hb wdX1_passOverTones_273 (lv_at hl 2 rfl) ?_
            refine lv_iload hx hb wdX1_passOverTones_275 (lv_at hl 0 rfl) ?_
            refine z_iadd (z := (((cc + 0) : Nat) : Int)) hx hb wdX1_passOverTones_277 (by omega) ?_
            refine lv_istore (lv' := [(9, .int (zI (((cc + 0) : Nat) : Int))), (11, .int (zI 0)), (10, .int (zI (j : Int))), (8, .int (zI (k2 : Int))), (7, .int (zI ((o.1 : Nat) : Int))), (6, .int (zI (x : Int))), (5, .int (zI (y : Int))), (4, .int (zI (P 3))), (3, .int (zI 6)), (0, .ref (B + 23)), (1, .ref (B + ru)), (2, .ref (B + a))]) hx hb wdX1_passOverTones_278 hl (by decide) rfl (fun ls hl => ?_)
            refine lv_iload hx hb wdX1_passOverTones_280 (lv_at hl 3 rfl) ?_
            refine lv_iload hx hb wdX1_passOverTones_282 (lv_at hl 5 rfl) ?_
            refine z_if_eq (tgt := 291) hx hb (by omega) wdX1_passOverTones_284 (by decide) (fun c25 => ?_) (fun c25 => ?_)
            · refine lv_iload_n hx hb wdX1_passOverTones_291 rfl (lv_at hl 8 rfl) ?_
              refine lv_iconst (v := zI 5) hx hb wdX1_passOverTones_292 rfl ?_
              refine z_icmp_ne (tgt := 305) hx hb (by omega) (by omega) wdX1_passOverTones_293 (by decide) (fun c26 => ?_) (fun c26 => False.elim (by omega))
              refine lv_iconst (v := zI 1) hx hb wdX1_passOverTones_305 rfl ?_
              refine z_iadd (z := (((k2 + 1) : Nat) : Int)) hx hb wdX1_passOverTones_306 (by omega) ?_
              have hnb := nx_b 6 x 0 (k2 : Int)
              refine r_val (v := zI (nxT 6 x 0 (k2 : Int))) (congrArg zI (by rw [← nx_r (v := 6) (cc := 0) (show x ≠ 1 by omega) (by omega)]; omega)) ?_
              refine lv_istore (lv' := [(8, .int (zI (nxT 6 x 0 (k2 : Int)))), (9, .int (zI (((cc + 0) : Nat) : Int))), (11, .int (zI 0)), (10, .int (zI (j : Int))), (7, .int (zI ((o.1 : Nat) : Int))), (6, .int (zI (x : Int))), (5, .int (zI (y : Int))), (4, .int (zI (P 3))), (3, .int (zI 6)), (0, .ref (B + 23)), (1, .ref (B + ru)), (2, .ref (B + a))]) hx hb wdX1_passOverTones_307 hl (by decide) rfl (fun ls hl => ?_)
              refine z_iinc (v := (((j + 1) : Nat) : Int)) (lv' := [(10, .int (zI (((j + 1) : Nat) : Int))), (8, .int (zI (nxT 6 x 0 (k2 : Int)))), (9, .int (zI (((cc + 0) : Nat) : Int))), (11, .int (zI 0)), (7, .int (zI ((o.1 : Nat) : Int))), (6, .int (zI (x : Int))), (5, .int (zI (y : Int))), (4, .int (zI (P 3))), (3, .int (zI 6)), (0, .ref (B + 23)), (1, .ref (B + ru)), (2, .ref (B + a))]) hx hb wdX1_passOverTones_309 hl (k := 3) rfl (by omega) (by decide) rfl (fun ls hl => ?_)
              refine lv_goto (tgt := 65) hx hb wdX1_passOverTones_312 (by decide) ?_
              rw [show cc = cc + 0 from rfl] at hl
              exact ih (j + 1) (nxT 6 x 0 (k2 : Int)) (cc + 0) Nm o1 (by omega) i1 (by have h9 := tpI_s (f := o.1 - (j + 1)) (by rw [show o.1 - (j + 1) + 1 = o.1 - j by omega]; exact i2) hk2 (trT_n (fun h9 => hof7 h9.1)); exact h9) (by omega) i4 i5 (by omega) (by omega) _ _ ls w (lv_sub hl [0, 2, 1, 4, 5, 6, 7, 8, 9, 10, 11] rfl)
            · refine lv_iconst (v := zI (-1)) hx hb wdX1_passOverTones_287 rfl ?_
              refine lv_goto (tgt := 306) hx hb wdX1_passOverTones_288 (by decide) ?_
              refine z_iadd (z := ((k2 : Int) + (-1))) hx hb wdX1_passOverTones_306 (by omega) ?_
              have hnb := nx_b 6 x 0 (k2 : Int)
              refine r_val (v := zI (nxT 6 x 0 (k2 : Int))) (congrArg zI (by rw [← nx_l (v := 6) (cc := 0) (show x = 1 by omega)]; omega)) ?_
              refine lv_istore (lv' := [(8, .int (zI (nxT 6 x 0 (k2 : Int)))), (9, .int (zI (((cc + 0) : Nat) : Int))), (11, .int (zI 0)), (10, .int (zI (j : Int))), (7, .int (zI ((o.1 : Nat) : Int))), (6, .int (zI (x : Int))), (5, .int (zI (y : Int))), (4, .int (zI (P 3))), (3, .int (zI 6)), (0, .ref (B + 23)), (1, .ref (B + ru)), (2, .ref (B + a))]) hx hb wdX1_passOverTones_307 hl (by decide) rfl (fun ls hl => ?_)
              refine z_iinc (v := (((j + 1) : Nat) : Int)) (lv' := [(10, .int (zI (((j + 1) : Nat) : Int))), (8, .int (zI (nxT 6 x 0 (k2 : Int)))), (9, .int (zI (((cc + 0) : Nat) : Int))), (11, .int (zI 0)), (7, .int (zI ((o.1 : Nat) : Int))), (6, .int (zI (x : Int))), (5, .int (zI (y : Int))), (4, .int (zI (P 3))), (3, .int (zI 6)), (0, .ref (B + 23)), (1, .ref (B + ru)), (2, .ref (B + a))]) hx hb wdX1_passOverTones_309 hl (k := 3) rfl (by omega) (by decide) rfl (fun ls hl => ?_)
              refine lv_goto (tgt := 65) hx hb wdX1_passOverTones_312 (by decide) ?_
              rw [show cc = cc + 0 from rfl] at hl
              exact ih (j + 1) (nxT 6 x 0 (k2 : Int)) (cc + 0) Nm o1 (by omega) i1 (by have h9 := tpI_s (f := o.1 - (j + 1)) (by rw [show o.1 - (j + 1) + 1 = o.1 - j by omega]; exact i2) hk2 (trT_n (fun h9 => hof7 h9.1)); exact h9) (by omega) i4 i5 (by omega) (by omega) _ _ ls w (lv_sub hl [0, 2, 1, 4, 5, 6, 7, 8, 9, 10, 11] rfl)
        · exact False.elim (by omega)
      · rw [hMe] at w
        refine z_if_eq (tgt := 315) hx hb (by omega) wdX1_passOverTones_78 (by decide) (fun c27 => ?_) (fun c27 => False.elim (by omega))
        exact kk j tz cc Nm o1 _ _ ls i1 (tpI_e i2 (by omega)) i4 (by omega) w (lv_sub hl [1] rfl)
set_option maxRecDepth 4000 in
theorem s_X1_over_6 {l : Launch} {D : va_G} {B : Nat} {cy : Nat → ClassId} {M : Mem} {a q hv ed : Nat} {o : Wo} (hk : kd a = (9, 0, 0)) (hC : CW M a q hv ed o) {ru : Nat} {P : Nat → Int} (hku : kd ru = (4, 0, 0)) (hU : isU M ru P) (hP : okP P) (hap : ru + 1 < a ∨ a + 2 < ru) {x y n9 : Nat} {t0 : Int} (hq0 : P 0 = 6) (hx8 : (x = 1 ∧ P 4 = 1 ∧ (P 0 = 1 ∨ P 0 = 2 ∨ P 0 = 4)) ∨ (x = 0 ∧ ¬ (P 4 = 1 ∧ (P 0 = 1 ∨ P 0 = 2 ∨ P 0 = 4)))) (hy8 : (P 4 = 1 ∧ y = 1) ∨ (P 4 ≠ 1 ∧ y = 0)) (ht0 : (x = 1 ∧ t0 = (o.1 : Int) - 1) ∨ (x = 0 ∧ t0 = 0)) (hz5 : P 5 = -2 ∨ (0 ≤ P 5 ∧ P 5 ≤ 6))  : Ci l D B cy yX1_passOverTones cX1_passOverTones 12 (some .int) 3 68 [.ref (B + 23), .ref (B + ru), .ref (B + a)] M (fun r M1 => TQ a q hv ed (tpF P 6 x y n9 q hv ed o.1 t0 o) 1884 M r M1) := by
  refine s_any (by decide) (Nat.le_of_ble_eq_true rfl) ?_
  intro p e s m below meth c ls F hr hlocks w hl
  have F : CallFix p m c cX1_passOverTones 12 s _ TB RX1 := F
  have hx := F.1
  have hb := F.2.1
  have hl : lv_has ls 12 [(0, .ref (B + 23)), (1, .ref (B + ru)), (2, .ref (B + a))] := hl
  have hW := hC.1
  have hwf := hC.wf
  have hKL := hwf.2.2.2.2
  have hn12 := hwf.1
  have hq12 := hwf.2.1
  have hP0 := hP 0 (by decide)
  have hP1 := hP 1 (by decide)
  have hP2 := hP 2 (by decide)
  have hP3 := hP 3 (by decide)
  have hP4 := hP 4 (by decide)
  have hP5 := hP 5 (by decide)
  have hP6 := hP 6 (by decide)
  have hP7 := hP 7 (by decide)
  refine lv_aload_n hx hb wdX1_passOverTones_0 rfl (lv_at hl 1 rfl) ?_
  refine f_4_0 F w (a := ru) hku wtb_45 wdX1_passOverTones_1 ?_
  refine lv_iconst (v := zI 0) hx hb wdX1_passOverTones_4 rfl ?_
  refine g_iald F w (a := (ru + 1)) (kd_r1 hku) (j := 0) ⟨by decide, by decide⟩ (by omega) wdX1_passOverTones_5 ?_
  refine r_val (v := (zI (P 0))) (hU 0 (by decide)) ?_
  refine r_val (v := (zI 6)) (congrArg zI hq0) ?_
  refine lv_istore_n (lv' := [(3, .int (zI 6)), (0, .ref (B + 23)), (1, .ref (B + ru)), (2, .ref (B + a))]) hx hb wdX1_passOverTones_6 rfl hl (by decide) rfl (fun ls hl => ?_)
  refine lv_aload_n hx hb wdX1_passOverTones_7 rfl (lv_at hl 2 rfl) ?_
  refine f_4_0 F w (a := ru) hku wtb_45 wdX1_passOverTones_8 ?_
  refine lv_iconst (v := zI 3) hx hb wdX1_passOverTones_11 rfl ?_
  refine g_iald F w (a := (ru + 1)) (kd_r1 hku) (j := 3) ⟨by decide, by decide⟩ (by omega) wdX1_passOverTones_12 ?_
  refine r_val (v := (zI (P 3))) (hU 3 (by decide)) ?_
  refine lv_istore (lv' := [(4, .int (zI (P 3))), (3, .int (zI 6)), (0, .ref (B + 23)), (1, .ref (B + ru)), (2, .ref (B + a))]) hx hb wdX1_passOverTones_13 hl (by decide) rfl (fun ls hl => ?_)
  refine lv_aload_n hx hb wdX1_passOverTones_15 rfl (lv_at hl 3 rfl) ?_
  refine f_4_0 F w (a := ru) hku wtb_45 wdX1_passOverTones_16 ?_
  refine lv_iconst (v := zI 4) hx hb wdX1_passOverTones_19 rfl ?_
  refine g_iald F w (a := (ru + 1)) (kd_r1 hku) (j := 4) ⟨by decide, by decide⟩ (by omega) wdX1_passOverTones_20 ?_
  refine r_val (v := (zI (P 4))) (hU 4 (by decide)) ?_
  refine lv_iconst (v := zI 1) hx hb wdX1_passOverTones_21 rfl ?_
  refine z_icmp_ne (tgt := 29) hx hb (by omega) (by omega) wdX1_passOverTones_22 (by decide) (fun c1 => ?_) (fun c1 => ?_)
  · refine lv_iconst (v := zI 0) hx hb wdX1_passOverTones_29 rfl ?_
    refine r_val (v := zI ((y : Nat) : Int)) (congrArg zI (by omega)) ?_
    refine lv_istore (lv' := [(5, .int (zI (y : Int))), (4, .int (zI (P 3))), (3, .int (zI 6)), (0, .ref (B + 23)), (1, .ref (B + ru)), (2, .ref (B + a))]) hx hb wdX1_passOverTones_30 hl (by decide) rfl (fun ls hl => ?_)
    refine lv_aload_n hx hb wdX1_passOverTones_32 rfl (lv_at hl 4 rfl) ?_
    refine k_Vi F w (As := []) (rest := []) (a := ru) (kd_lt (a := ru) hku (by decide)) (sh_4 hku _ _) rfl (s_X4_goesLeft hku hU hP) wgv_X1_90 whv_X4_goesLeft ⟨(Nat.le_of_ble_eq_true rfl), (Nat.le_of_ble_eq_true rfl)⟩ hl.1 rfl (Nat.le_of_ble_eq_true rfl) ⟨Nat.zero_le _, Nat.zero_le _⟩ wdX1_passOverTones_33 (fun r Ma3 H locs hp w => ?_)
    rcases hp with ⟨⟨hlf2, rfl⟩ | ⟨hlf2, rfl⟩, hMe⟩
    · rw [hMe] at w
      refine r_val (v := zI ((x : Nat) : Int)) (congrArg zI (by omega)) ?_
      refine lv_istore (lv' := [(6, .int (zI (x : Int))), (5, .int (zI (y : Int))), (4, .int (zI (P 3))), (3, .int (zI 6)), (0, .ref (B + 23)), (1, .ref (B + ru)), (2, .ref (B + a))]) hx hb wdX1_passOverTones_36 hl (by decide) rfl (fun ls hl => ?_)
      refine lv_aload_n hx hb wdX1_passOverTones_38 rfl (lv_at hl 6 rfl) ?_
      refine f_9_0 F w (a := a) hk wtb_32 wdX1_passOverTones_39 ?_
      refine r_val (v := (zI ((o.1 : Nat) : Int))) (hW.1) ?_
      refine lv_istore (lv' := [(7, .int (zI ((o.1 : Nat) : Int))), (6, .int (zI (x : Int))), (5, .int (zI (y : Int))), (4, .int (zI (P 3))), (3, .int (zI 6)), (0, .ref (B + 23)), (1, .ref (B + ru)), (2, .ref (B + a))]) hx hb wdX1_passOverTones_42 hl (by decide) rfl (fun ls hl => ?_)
      refine lv_iload hx hb wdX1_passOverTones_44 (lv_at hl 1 rfl) ?_
      refine z_if_eq (tgt := 56) hx hb (by omega) wdX1_passOverTones_46 (by decide) (fun c4 => ?_) (fun c4 => ?_)
      · refine lv_iconst (v := zI 0) hx hb wdX1_passOverTones_56 rfl ?_
        refine r_val (v := zI t0) (congrArg zI (by omega)) ?_
        refine lv_istore (lv' := [(8, .int (zI t0)), (7, .int (zI ((o.1 : Nat) : Int))), (6, .int (zI (x : Int))), (5, .int (zI (y : Int))), (4, .int (zI (P 3))), (3, .int (zI 6)), (0, .ref (B + 23)), (1, .ref (B + ru)), (2, .ref (B + a))]) hx hb wdX1_passOverTones_57 hl (by decide) rfl (fun ls hl => ?_)
        refine lv_iconst (v := zI 0) hx hb wdX1_passOverTones_59 rfl ?_
        refine lv_istore (lv' := [(9, .int (zI 0)), (8, .int (zI t0)), (7, .int (zI ((o.1 : Nat) : Int))), (6, .int (zI (x : Int))), (5, .int (zI (y : Int))), (4, .int (zI (P 3))), (3, .int (zI 6)), (0, .ref (B + 23)), (1, .ref (B + ru)), (2, .ref (B + a))]) hx hb wdX1_passOverTones_60 hl (by decide) rfl (fun ls hl => ?_)
        refine lv_iconst (v := zI 0) hx hb wdX1_passOverTones_62 rfl ?_
        refine lv_istore (lv' := [(10, .int (zI 0)), (9, .int (zI 0)), (8, .int (zI t0)), (7, .int (zI ((o.1 : Nat) : Int))), (6, .int (zI (x : Int))), (5, .int (zI (y : Int))), (4, .int (zI (P 3))), (3, .int (zI 6)), (0, .ref (B + 23)), (1, .ref (B + ru)), (2, .ref (B + a))]) hx hb wdX1_passOverTones_63 hl (by decide) rfl (fun ls hl => ?_)
        have hx01 : x = 0 ∨ x = 1 := by omega
        have hy01 : y = 0 ∨ y = 1 := by omega
        refine lp_X1_over_6  F (Nat.le_of_ble_eq_true rfl) (Nat.le_of_ble_eq_true rfl) (x := x) (y := y) (n9 := n9) hk hku hP hn12 hx01 hy01 hz5 hap (fun j tz cc Nm o1 H locs ls x0 x1 x2 x3 w hl => ?_) o.1 0 t0 0 M o (by omega) hC tpI_0 (by omega) Fr3.rf hU (by omega) (by omega) _ _ ls w (lv_sub hl [0, 1, 2, 3, 4, 5, 6, 7, 8, 9, 10] rfl)
        refine lv_iload hx hb wdX1_passOverTones_315 (lv_at hl 0 rfl) ?_
        exact e_i F w hr hlocks ⟨o1, cc, x1, rfl, x0, x2, x3⟩ wdX1_passOverTones_317
      · refine lv_iload hx hb wdX1_passOverTones_49 (lv_at hl 0 rfl) ?_
        refine lv_iconst (v := zI 1) hx hb wdX1_passOverTones_51 rfl ?_
        refine z_isub (z := (((o.1 : Nat) : Int) - 1)) hx hb wdX1_passOverTones_52 (by omega) ?_
        refine lv_goto (tgt := 57) hx hb wdX1_passOverTones_53 (by decide) ?_
        refine r_val (v := zI t0) (congrArg zI (by omega)) ?_
        refine lv_istore (lv' := [(8, .int (zI t0)), (7, .int (zI ((o.1 : Nat) : Int))), (6, .int (zI (x : Int))), (5, .int (zI (y : Int))), (4, .int (zI (P 3))), (3, .int (zI 6)), (0, .ref (B + 23)), (1, .ref (B + ru)), (2, .ref (B + a))]) hx hb wdX1_passOverTones_57 hl (by decide) rfl (fun ls hl => ?_)
        refine lv_iconst (v := zI 0) hx hb wdX1_passOverTones_59 rfl ?_
        refine lv_istore (lv' := [(9, .int (zI 0)), (8, .int (zI t0)), (7, .int (zI ((o.1 : Nat) : Int))), (6, .int (zI (x : Int))), (5, .int (zI (y : Int))), (4, .int (zI (P 3))), (3, .int (zI 6)), (0, .ref (B + 23)), (1, .ref (B + ru)), (2, .ref (B + a))]) hx hb wdX1_passOverTones_60 hl (by decide) rfl (fun ls hl => ?_)
        refine lv_iconst (v := zI 0) hx hb wdX1_passOverTones_62 rfl ?_
        refine lv_istore (lv' := [(10, .int (zI 0)), (9, .int (zI 0)), (8, .int (zI t0)), (7, .int (zI ((o.1 : Nat) : Int))), (6, .int (zI (x : Int))), (5, .int (zI (y : Int))), (4, .int (zI (P 3))), (3, .int (zI 6)), (0, .ref (B + 23)), (1, .ref (B + ru)), (2, .ref (B + a))]) hx hb wdX1_passOverTones_63 hl (by decide) rfl (fun ls hl => ?_)
        have hx01 : x = 0 ∨ x = 1 := by omega
        have hy01 : y = 0 ∨ y = 1 := by omega
        refine lp_X1_over_6  F (Nat.le_of_ble_eq_true rfl) (Nat.le_of_ble_eq_true rfl) (x := x) (y := y) (n9 := n9) hk hku hP hn12 hx01 hy01 hz5 hap (fun j tz cc Nm o1 H locs ls x0 x1 x2 x3 w hl => ?_) o.1 0 t0 0 M o (by omega) hC tpI_0 (by omega) Fr3.rf hU (by omega) (by omega) _ _ ls w (lv_sub hl [0, 1, 2, 3, 4, 5, 6, 7, 8, 9, 10] rfl)
        refine lv_iload hx hb wdX1_passOverTones_315 (lv_at hl 0 rfl) ?_
        exact e_i F w hr hlocks ⟨o1, cc, x1, rfl, x0, x2, x3⟩ wdX1_passOverTones_317
    · rw [hMe] at w
      refine r_val (v := zI ((x : Nat) : Int)) (congrArg zI (by omega)) ?_
      refine lv_istore (lv' := [(6, .int (zI (x : Int))), (5, .int (zI (y : Int))), (4, .int (zI (P 3))), (3, .int (zI 6)), (0, .ref (B + 23)), (1, .ref (B + ru)), (2, .ref (B + a))]) hx hb wdX1_passOverTones_36 hl (by decide) rfl (fun ls hl => ?_)
      refine lv_aload_n hx hb wdX1_passOverTones_38 rfl (lv_at hl 6 rfl) ?_
      refine f_9_0 F w (a := a) hk wtb_32 wdX1_passOverTones_39 ?_
      refine r_val (v := (zI ((o.1 : Nat) : Int))) (hW.1) ?_
      refine lv_istore (lv' := [(7, .int (zI ((o.1 : Nat) : Int))), (6, .int (zI (x : Int))), (5, .int (zI (y : Int))), (4, .int (zI (P 3))), (3, .int (zI 6)), (0, .ref (B + 23)), (1, .ref (B + ru)), (2, .ref (B + a))]) hx hb wdX1_passOverTones_42 hl (by decide) rfl (fun ls hl => ?_)
      refine lv_iload hx hb wdX1_passOverTones_44 (lv_at hl 1 rfl) ?_
      refine z_if_eq (tgt := 56) hx hb (by omega) wdX1_passOverTones_46 (by decide) (fun c5 => ?_) (fun c5 => ?_)
      · refine lv_iconst (v := zI 0) hx hb wdX1_passOverTones_56 rfl ?_
        refine r_val (v := zI t0) (congrArg zI (by omega)) ?_
        refine lv_istore (lv' := [(8, .int (zI t0)), (7, .int (zI ((o.1 : Nat) : Int))), (6, .int (zI (x : Int))), (5, .int (zI (y : Int))), (4, .int (zI (P 3))), (3, .int (zI 6)), (0, .ref (B + 23)), (1, .ref (B + ru)), (2, .ref (B + a))]) hx hb wdX1_passOverTones_57 hl (by decide) rfl (fun ls hl => ?_)
        refine lv_iconst (v := zI 0) hx hb wdX1_passOverTones_59 rfl ?_
        refine lv_istore (lv' := [(9, .int (zI 0)), (8, .int (zI t0)), (7, .int (zI ((o.1 : Nat) : Int))), (6, .int (zI (x : Int))), (5, .int (zI (y : Int))), (4, .int (zI (P 3))), (3, .int (zI 6)), (0, .ref (B + 23)), (1, .ref (B + ru)), (2, .ref (B + a))]) hx hb wdX1_passOverTones_60 hl (by decide) rfl (fun ls hl => ?_)
        refine lv_iconst (v := zI 0) hx hb wdX1_passOverTones_62 rfl ?_
        refine lv_istore (lv' := [(10, .int (zI 0)), (9, .int (zI 0)), (8, .int (zI t0)), (7, .int (zI ((o.1 : Nat) : Int))), (6, .int (zI (x : Int))), (5, .int (zI (y : Int))), (4, .int (zI (P 3))), (3, .int (zI 6)), (0, .ref (B + 23)), (1, .ref (B + ru)), (2, .ref (B + a))]) hx hb wdX1_passOverTones_63 hl (by decide) rfl (fun ls hl => ?_)
        have hx01 : x = 0 ∨ x = 1 := by omega
        have hy01 : y = 0 ∨ y = 1 := by omega
        refine lp_X1_over_6  F (Nat.le_of_ble_eq_true rfl) (Nat.le_of_ble_eq_true rfl) (x := x) (y := y) (n9 := n9) hk hku hP hn12 hx01 hy01 hz5 hap (fun j tz cc Nm o1 H locs ls x0 x1 x2 x3 w hl => ?_) o.1 0 t0 0 M o (by omega) hC tpI_0 (by omega) Fr3.rf hU (by omega) (by omega) _ _ ls w (lv_sub hl [0, 1, 2, 3, 4, 5, 6, 7, 8, 9, 10] rfl)
        refine lv_iload hx hb wdX1_passOverTones_315 (lv_at hl 0 rfl) ?_
        exact e_i F w hr hlocks ⟨o1, cc, x1, rfl, x0, x2, x3⟩ wdX1_passOverTones_317
      · refine lv_iload hx hb wdX1_passOverTones_49 (lv_at hl 0 rfl) ?_
        refine lv_iconst (v := zI 1) hx hb wdX1_passOverTones_51 rfl ?_
        refine z_isub (z := (((o.1 : Nat) : Int) - 1)) hx hb wdX1_passOverTones_52 (by omega) ?_
        refine lv_goto (tgt := 57) hx hb wdX1_passOverTones_53 (by decide) ?_
        refine r_val (v := zI t0) (congrArg zI (by omega)) ?_
        refine lv_istore (lv' := [(8, .int (zI t0)), (7, .int (zI ((o.1 : Nat) : Int))), (6, .int (zI (x : Int))), (5, .int (zI (y : Int))), (4, .int (zI (P 3))), (3, .int (zI 6)), (0, .ref (B + 23)), (1, .ref (B + ru)), (2, .ref (B + a))]) hx hb wdX1_passOverTones_57 hl (by decide) rfl (fun ls hl => ?_)
        refine lv_iconst (v := zI 0) hx hb wdX1_passOverTones_59 rfl ?_
        refine lv_istore (lv' := [(9, .int (zI 0)), (8, .int (zI t0)), (7, .int (zI ((o.1 : Nat) : Int))), (6, .int (zI (x : Int))), (5, .int (zI (y : Int))), (4, .int (zI (P 3))), (3, .int (zI 6)), (0, .ref (B + 23)), (1, .ref (B + ru)), (2, .ref (B + a))]) hx hb wdX1_passOverTones_60 hl (by decide) rfl (fun ls hl => ?_)
        refine lv_iconst (v := zI 0) hx hb wdX1_passOverTones_62 rfl ?_
        refine lv_istore (lv' := [(10, .int (zI 0)), (9, .int (zI 0)), (8, .int (zI t0)), (7, .int (zI ((o.1 : Nat) : Int))), (6, .int (zI (x : Int))), (5, .int (zI (y : Int))), (4, .int (zI (P 3))), (3, .int (zI 6)), (0, .ref (B + 23)), (1, .ref (B + ru)), (2, .ref (B + a))]) hx hb wdX1_passOverTones_63 hl (by decide) rfl (fun ls hl => ?_)
        have hx01 : x = 0 ∨ x = 1 := by omega
        have hy01 : y = 0 ∨ y = 1 := by omega
        refine lp_X1_over_6  F (Nat.le_of_ble_eq_true rfl) (Nat.le_of_ble_eq_true rfl) (x := x) (y := y) (n9 := n9) hk hku hP hn12 hx01 hy01 hz5 hap (fun j tz cc Nm o1 H locs ls x0 x1 x2 x3 w hl => ?_) o.1 0 t0 0 M o (by omega) hC tpI_0 (by omega) Fr3.rf hU (by omega) (by omega) _ _ ls w (lv_sub hl [0, 1, 2, 3, 4, 5, 6, 7, 8, 9, 10] rfl)
        refine lv_iload hx hb wdX1_passOverTones_315 (lv_at hl 0 rfl) ?_
        exact e_i F w hr hlocks ⟨o1, cc, x1, rfl, x0, x2, x3⟩ wdX1_passOverTones_317
  · refine lv_iconst (v := zI 1) hx hb wdX1_passOverTones_25 rfl ?_
    refine lv_goto (tgt := 30) hx hb wdX1_passOverTones_26 (by decide) ?_
    refine r_val (v := zI ((y : Nat) : Int)) (congrArg zI (by omega)) ?_
    refine lv_istore (lv' := [(5, .int (zI (y : Int))), (4, .int (zI (P 3))), (3, .int (zI 6)), (0, .ref (B + 23)), (1, .ref (B + ru)), (2, .ref (B + a))]) hx hb wdX1_passOverTones_30 hl (by decide) rfl (fun ls hl => ?_)
    refine lv_aload_n hx hb wdX1_passOverTones_32 rfl (lv_at hl 4 rfl) ?_
    refine k_Vi F w (As := []) (rest := []) (a := ru) (kd_lt (a := ru) hku (by decide)) (sh_4 hku _ _) rfl (s_X4_goesLeft hku hU hP) wgv_X1_90 whv_X4_goesLeft ⟨(Nat.le_of_ble_eq_true rfl), (Nat.le_of_ble_eq_true rfl)⟩ hl.1 rfl (Nat.le_of_ble_eq_true rfl) ⟨Nat.zero_le _, Nat.zero_le _⟩ wdX1_passOverTones_33 (fun r Ma7 H locs hp w => ?_)
    rcases hp with ⟨⟨hlf6, rfl⟩ | ⟨hlf6, rfl⟩, hMe⟩
    · rw [hMe] at w
      refine r_val (v := zI ((x : Nat) : Int)) (congrArg zI (by omega)) ?_
      refine lv_istore (lv' := [(6, .int (zI (x : Int))), (5, .int (zI (y : Int))), (4, .int (zI (P 3))), (3, .int (zI 6)), (0, .ref (B + 23)), (1, .ref (B + ru)), (2, .ref (B + a))]) hx hb wdX1_passOverTones_36 hl (by decide) rfl (fun ls hl => ?_)
      refine lv_aload_n hx hb wdX1_passOverTones_38 rfl (lv_at hl 6 rfl) ?_
      refine f_9_0 F w (a := a) hk wtb_32 wdX1_passOverTones_39 ?_
      refine r_val (v := (zI ((o.1 : Nat) : Int))) (hW.1) ?_
      refine lv_istore (lv' := [(7, .int (zI ((o.1 : Nat) : Int))), (6, .int (zI (x : Int))), (5, .int (zI (y : Int))), (4, .int (zI (P 3))), (3, .int (zI 6)), (0, .ref (B + 23)), (1, .ref (B + ru)), (2, .ref (B + a))]) hx hb wdX1_passOverTones_42 hl (by decide) rfl (fun ls hl => ?_)
      refine lv_iload hx hb wdX1_passOverTones_44 (lv_at hl 1 rfl) ?_
      refine z_if_eq (tgt := 56) hx hb (by omega) wdX1_passOverTones_46 (by decide) (fun c8 => ?_) (fun c8 => ?_)
      · refine lv_iconst (v := zI 0) hx hb wdX1_passOverTones_56 rfl ?_
        refine r_val (v := zI t0) (congrArg zI (by omega)) ?_
        refine lv_istore (lv' := [(8, .int (zI t0)), (7, .int (zI ((o.1 : Nat) : Int))), (6, .int (zI (x : Int))), (5, .int (zI (y : Int))), (4, .int (zI (P 3))), (3, .int (zI 6)), (0, .ref (B + 23)), (1, .ref (B + ru)), (2, .ref (B + a))]) hx hb wdX1_passOverTones_57 hl (by decide) rfl (fun ls hl => ?_)
        refine lv_iconst (v := zI 0) hx hb wdX1_passOverTones_59 rfl ?_
        refine lv_istore (lv' := [(9, .int (zI 0)), (8, .int (zI t0)), (7, .int (zI ((o.1 : Nat) : Int))), (6, .int (zI (x : Int))), (5, .int (zI (y : Int))), (4, .int (zI (P 3))), (3, .int (zI 6)), (0, .ref (B + 23)), (1, .ref (B + ru)), (2, .ref (B + a))]) hx hb wdX1_passOverTones_60 hl (by decide) rfl (fun ls hl => ?_)
        refine lv_iconst (v := zI 0) hx hb wdX1_passOverTones_62 rfl ?_
        refine lv_istore (lv' := [(10, .int (zI 0)), (9, .int (zI 0)), (8, .int (zI t0)), (7, .int (zI ((o.1 : Nat) : Int))), (6, .int (zI (x : Int))), (5, .int (zI (y : Int))), (4, .int (zI (P 3))), (3, .int (zI 6)), (0, .ref (B + 23)), (1, .ref (B + ru)), (2, .ref (B + a))]) hx hb wdX1_passOverTones_63 hl (by decide) rfl (fun ls hl => ?_)
        have hx01 : x = 0 ∨ x = 1 := by omega
        have hy01 : y = 0 ∨ y = 1 := by omega
        refine lp_X1_over_6  F (Nat.le_of_ble_eq_true rfl) (Nat.le_of_ble_eq_true rfl) (x := x) (y := y) (n9 := n9) hk hku hP hn12 hx01 hy01 hz5 hap (fun j tz cc Nm o1 H locs ls x0 x1 x2 x3 w hl => ?_) o.1 0 t0 0 M o (by omega) hC tpI_0 (by omega) Fr3.rf hU (by omega) (by omega) _ _ ls w (lv_sub hl [0, 1, 2, 3, 4, 5, 6, 7, 8, 9, 10] rfl)
        refine lv_iload hx hb wdX1_passOverTones_315 (lv_at hl 0 rfl) ?_
        exact e_i F w hr hlocks ⟨o1, cc, x1, rfl, x0, x2, x3⟩ wdX1_passOverTones_317
      · refine lv_iload hx hb wdX1_passOverTones_49 (lv_at hl 0 rfl) ?_
        refine lv_iconst (v := zI 1) hx hb wdX1_passOverTones_51 rfl ?_
        refine z_isub (z := (((o.1 : Nat) : Int) - 1)) hx hb wdX1_passOverTones_52 (by omega) ?_
        refine lv_goto (tgt := 57) hx hb wdX1_passOverTones_53 (by decide) ?_
        refine r_val (v := zI t0) (congrArg zI (by omega)) ?_
        refine lv_istore (lv' := [(8, .int (zI t0)), (7, .int (zI ((o.1 : Nat) : Int))), (6, .int (zI (x : Int))), (5, .int (zI (y : Int))), (4, .int (zI (P 3))), (3, .int (zI 6)), (0, .ref (B + 23)), (1, .ref (B + ru)), (2, .ref (B + a))]) hx hb wdX1_passOverTones_57 hl (by decide) rfl (fun ls hl => ?_)
        refine lv_iconst (v := zI 0) hx hb wdX1_passOverTones_59 rfl ?_
        refine lv_istore (lv' := [(9, .int (zI 0)), (8, .int (zI t0)), (7, .int (zI ((o.1 : Nat) : Int))), (6, .int (zI (x : Int))), (5, .int (zI (y : Int))), (4, .int (zI (P 3))), (3, .int (zI 6)), (0, .ref (B + 23)), (1, .ref (B + ru)), (2, .ref (B + a))]) hx hb wdX1_passOverTones_60 hl (by decide) rfl (fun ls hl => ?_)
        refine lv_iconst (v := zI 0) hx hb wdX1_passOverTones_62 rfl ?_
        refine lv_istore (lv' := [(10, .int (zI 0)), (9, .int (zI 0)), (8, .int (zI t0)), (7, .int (zI ((o.1 : Nat) : Int))), (6, .int (zI (x : Int))), (5, .int (zI (y : Int))), (4, .int (zI (P 3))), (3, .int (zI 6)), (0, .ref (B + 23)), (1, .ref (B + ru)), (2, .ref (B + a))]) hx hb wdX1_passOverTones_63 hl (by decide) rfl (fun ls hl => ?_)
        have hx01 : x = 0 ∨ x = 1 := by omega
        have hy01 : y = 0 ∨ y = 1 := by omega
        refine lp_X1_over_6  F (Nat.le_of_ble_eq_true rfl) (Nat.le_of_ble_eq_true rfl) (x := x) (y := y) (n9 := n9) hk hku hP hn12 hx01 hy01 hz5 hap (fun j tz cc Nm o1 H locs ls x0 x1 x2 x3 w hl => ?_) o.1 0 t0 0 M o (by omega) hC tpI_0 (by omega) Fr3.rf hU (by omega) (by omega) _ _ ls w (lv_sub hl [0, 1, 2, 3, 4, 5, 6, 7, 8, 9, 10] rfl)
        refine lv_iload hx hb wdX1_passOverTones_315 (lv_at hl 0 rfl) ?_
        exact e_i F w hr hlocks ⟨o1, cc, x1, rfl, x0, x2, x3⟩ wdX1_passOverTones_317
    · rw [hMe] at w
      refine r_val (v := zI ((x : Nat) : Int)) (congrArg zI (by omega)) ?_
      refine lv_istore (lv' := [(6, .int (zI (x : Int))), (5, .int (zI (y : Int))), (4, .int (zI (P 3))), (3, .int (zI 6)), (0, .ref (B + 23)), (1, .ref (B + ru)), (2, .ref (B + a))]) hx hb wdX1_passOverTones_36 hl (by decide) rfl (fun ls hl => ?_)
      refine lv_aload_n hx hb wdX1_passOverTones_38 rfl (lv_at hl 6 rfl) ?_
      refine f_9_0 F w (a := a) hk wtb_32 wdX1_passOverTones_39 ?_
      refine r_val (v := (zI ((o.1 : Nat) : Int))) (hW.1) ?_
      refine lv_istore (lv' := [(7, .int (zI ((o.1 : Nat) : Int))), (6, .int (zI (x : Int))), (5, .int (zI (y : Int))), (4, .int (zI (P 3))), (3, .int (zI 6)), (0, .ref (B + 23)), (1, .ref (B + ru)), (2, .ref (B + a))]) hx hb wdX1_passOverTones_42 hl (by decide) rfl (fun ls hl => ?_)
      refine lv_iload hx hb wdX1_passOverTones_44 (lv_at hl 1 rfl) ?_
      refine z_if_eq (tgt := 56) hx hb (by omega) wdX1_passOverTones_46 (by decide) (fun c9 => ?_) (fun c9 => ?_)
      · refine lv_iconst (v := zI 0) hx hb wdX1_passOverTones_56 rfl ?_
        refine r_val (v := zI t0) (congrArg zI (by omega)) ?_
        refine lv_istore (lv' := [(8, .int (zI t0)), (7, .int (zI ((o.1 : Nat) : Int))), (6, .int (zI (x : Int))), (5, .int (zI (y : Int))), (4, .int (zI (P 3))), (3, .int (zI 6)), (0, .ref (B + 23)), (1, .ref (B + ru)), (2, .ref (B + a))]) hx hb wdX1_passOverTones_57 hl (by decide) rfl (fun ls hl => ?_)
        refine lv_iconst (v := zI 0) hx hb wdX1_passOverTones_59 rfl ?_
        refine lv_istore (lv' := [(9, .int (zI 0)), (8, .int (zI t0)), (7, .int (zI ((o.1 : Nat) : Int))), (6, .int (zI (x : Int))), (5, .int (zI (y : Int))), (4, .int (zI (P 3))), (3, .int (zI 6)), (0, .ref (B + 23)), (1, .ref (B + ru)), (2, .ref (B + a))]) hx hb wdX1_passOverTones_60 hl (by decide) rfl (fun ls hl => ?_)
        refine lv_iconst (v := zI 0) hx hb wdX1_passOverTones_62 rfl ?_
        refine lv_istore (lv' := [(10, .int (zI 0)), (9, .int (zI 0)), (8, .int (zI t0)), (7, .int (zI ((o.1 : Nat) : Int))), (6, .int (zI (x : Int))), (5, .int (zI (y : Int))), (4, .int (zI (P 3))), (3, .int (zI 6)), (0, .ref (B + 23)), (1, .ref (B + ru)), (2, .ref (B + a))]) hx hb wdX1_passOverTones_63 hl (by decide) rfl (fun ls hl => ?_)
        have hx01 : x = 0 ∨ x = 1 := by omega
        have hy01 : y = 0 ∨ y = 1 := by omega
        refine lp_X1_over_6  F (Nat.le_of_ble_eq_true rfl) (Nat.le_of_ble_eq_true rfl) (x := x) (y := y) (n9 := n9) hk hku hP hn12 hx01 hy01 hz5 hap (fun j tz cc Nm o1 H locs ls x0 x1 x2 x3 w hl => ?_) o.1 0 t0 0 M o (by omega) hC tpI_0 (by omega) Fr3.rf hU (by omega) (by omega) _ _ ls w (lv_sub hl [0, 1, 2, 3, 4, 5, 6, 7, 8, 9, 10] rfl)
        refine lv_iload hx hb wdX1_passOverTones_315 (lv_at hl 0 rfl) ?_
        exact e_i F w hr hlocks ⟨o1, cc, x1, rfl, x0, x2, x3⟩ wdX1_passOverTones_317
      · refine lv_iload hx hb wdX1_passOverTones_49 (lv_at hl 0 rfl) ?_
        refine lv_iconst (v := zI 1) hx hb wdX1_passOverTones_51 rfl ?_
        refine z_isub (z := (((o.1 : Nat) : Int) - 1)) hx hb wdX1_passOverTones_52 (by omega) ?_
        refine lv_goto (tgt := 57) hx hb wdX1_passOverTones_53 (by decide) ?_
        refine r_val (v := zI t0) (congrArg zI (by omega)) ?_
        refine lv_istore (lv' := [(8, .int (zI t0)), (7, .int (zI ((o.1 : Nat) : Int))), (6, .int (zI (x : Int))), (5, .int (zI (y : Int))), (4, .int (zI (P 3))), (3, .int (zI 6)), (0, .ref (B + 23)), (1, .ref (B + ru)), (2, .ref (B + a))]) hx hb wdX1_passOverTones_57 hl (by decide) rfl (fun ls hl => ?_)
        refine lv_iconst (v := zI 0) hx hb wdX1_passOverTones_59 rfl ?_
        refine lv_istore (lv' := [(9, .int (zI 0)), (8, .int (zI t0)), (7, .int (zI ((o.1 : Nat) : Int))), (6, .int (zI (x : Int))), (5, .int (zI (y : Int))), (4, .int (zI (P 3))), (3, .int (zI 6)), (0, .ref (B + 23)), (1, .ref (B + ru)), (2, .ref (B + a))]) hx hb wdX1_passOverTones_60 hl (by decide) rfl (fun ls hl => ?_)
        refine lv_iconst (v := zI 0) hx hb wdX1_passOverTones_62 rfl ?_
        refine lv_istore (lv' := [(10, .int (zI 0)), (9, .int (zI 0)), (8, .int (zI t0)), (7, .int (zI ((o.1 : Nat) : Int))), (6, .int (zI (x : Int))), (5, .int (zI (y : Int))), (4, .int (zI (P 3))), (3, .int (zI 6)), (0, .ref (B + 23)), (1, .ref (B + ru)), (2, .ref (B + a))]) hx hb wdX1_passOverTones_63 hl (by decide) rfl (fun ls hl => ?_)
        have hx01 : x = 0 ∨ x = 1 := by omega
        have hy01 : y = 0 ∨ y = 1 := by omega
        refine lp_X1_over_6  F (Nat.le_of_ble_eq_true rfl) (Nat.le_of_ble_eq_true rfl) (x := x) (y := y) (n9 := n9) hk hku hP hn12 hx01 hy01 hz5 hap (fun j tz cc Nm o1 H locs ls x0 x1 x2 x3 w hl => ?_) o.1 0 t0 0 M o (by omega) hC tpI_0 (by omega) Fr3.rf hU (by omega) (by omega) _ _ ls w (lv_sub hl [0, 1, 2, 3, 4, 5, 6, 7, 8, 9, 10] rfl)
        refine lv_iload hx hb wdX1_passOverTones_315 (lv_at hl 0 rfl) ?_
        exact e_i F w hr hlocks ⟨o1, cc, x1, rfl, x0, x2, x3⟩ wdX1_passOverTones_317
theorem wdX1_passOverTones_235 : decode cX1_passOverTones 235 = .ok (.aload_n 0, 1) := dq0 kk_42 (by decide +kernel)
theorem wdX1_passOverTones_236 : decode cX1_passOverTones 236 = .ok (.aload_n 2, 1) := dq0 kk_44 (by decide +kernel)
theorem wdX1_passOverTones_237 : decode cX1_passOverTones 237 = .ok (.iload 8, 2) := dqU kk_21 (by decide +kernel)
theorem wdX1_passOverTones_239 : decode cX1_passOverTones 239 = .ok (.iload 4, 2) := dqU kk_21 (by decide +kernel)
theorem wdX1_passOverTones_241 : decode cX1_passOverTones 241 = .ok (.invokevirtual 120, 3) := dqV kk_182 (by decide +kernel)
theorem wtk_X1_turnTo : Cond.code yX1_turnTo cX1_turnTo 5 (some .int) ∈ TB := tbm (tc4 (List.mem_of_getElem? (i := 84) rfl)) rfl
theorem wgc_X1_turnTo : GoodIn TB (cw yX1_turnTo cX1_turnTo 5 (some .int)) := goodIn_c2 wtk_X1_turnTo
theorem wtb_86 : Cond.methodLink "ToneLines$Doer" 120 yX1_turnTo ∈ TB := tbm (tc4 (List.mem_of_getElem? (i := 81) rfl)) rfl
theorem wtb_87 : Cond.instanceMethod yX1_turnTo ∈ TB := tbm (tc4 (List.mem_of_getElem? (i := 83) rfl)) rfl
theorem wtb_88 : Cond.selects "ToneLines$Doer" yX1_turnTo yX1_turnTo ∈ TB := tbp (List.mem_of_getElem? (i := 27) rfl) rfl
theorem wgv_X1_120 : GoodIn TB (wsV RX1 120 RX1 yX1_turnTo (cw yX1_turnTo cX1_turnTo 5 (some .int))) := goodIn_4 wtb_86 wtb_87 wtb_88 wtb_52 wgc_X1_turnTo
theorem whv_X1_turnTo : yX1_turnTo.cls = RX1 ∧ yX1_turnTo.cls ≠ "java/lang/invoke/MethodHandle" ∧ yX1_turnTo.cls ≠ "java/lang/invoke/VarHandle" ∧ (parseMethodDescriptor yX1_turnTo.desc).map (fun d => d.parameters.length) = some 3 := by decide +kernel
theorem wdX1_passOverTones_244 : decode cX1_passOverTones 244 = .ok (.istore 11, 2) := dqU kk_54 (by decide +kernel)
theorem wdX1_passOverTones_246 : decode cX1_passOverTones 246 = .ok (.goto 3, 3) := dqT kk_167 (by decide +kernel)
set_option maxRecDepth 4000 in
theorem lp_X1_over_7 {p : Program} {l : Launch} {e : Env} {s : State} {m : MethodId} {args : Array Value} {below : List Frame} {meth : Method} {c : Code} {D : va_G} {B : Nat} {cy : Nat → ClassId} {H0 : Heap} {Q : State → Prop} {M : Mem} {R : Room} {a ru q hv ed x y n9 : Nat} {o : Wo} {P : Nat → Int} {t0 : Int} (F : CallFix p m c cX1_passOverTones 12 s args TB RX1) (hR1 : 3 ≤ R.frames) (hR2 : 66 ≤ R.locals) (hk : kd a = (9, 0, 0)) (hku : kd ru = (4, 0, 0)) (hP : okP P) (hn12 : o.1 ≤ 12) (hx01 : x = 0 ∨ x = 1) (hy01 : y = 0 ∨ y = 1) (hz5 : P 5 = -2 ∨ (0 ≤ P 5 ∧ P 5 ≤ 6)) (hap : ru + 1 < a ∨ a + 2 < ru) (hq3 : P 3 = (n9 : Int)) (hn9 : n9 ≤ 2) (kk : ∀ (j : Nat) (tz : Int) (cc : Nat) (Nm : Mem) (o1 : Wo) (H : Heap) (locs : List Loc) (ls : Array Slot), (CW Nm a q hv ed o1) → (tpF P 7 x y n9 q hv ed o.1 t0 o = (o1, cc)) → (Fr3 Nm M a) → (cc ≤ 1884) → Wd D B cy s H0 Nm H locs → lv_has ls 12 [(9, .int (zI (cc : Int)))] → W p l e R s m args below meth c H locs 0 0 Q (F0 m 315 ls [])) : ∀ (f : Nat) (j : Nat) (tz : Int) (cc : Nat) (Nm : Mem) (o1 : Wo), (j ≤ o.1) → (CW Nm a q hv ed o1) → (tpI P 7 x y n9 q hv ed o.1 t0 o (o.1 - j) tz o1 cc) → (cc ≤ 157 * j) → (Fr3 Nm M a) → (isU Nm ru P) → (-2 - (j : Int) ≤ tz ∧ tz ≤ 12 + (j : Int)) → (o.1 ≤ j + f) → ∀ (H : Heap) (locs : List Loc) (ls : Array Slot), Wd D B cy s H0 Nm H locs → lv_has ls 12 [(10, .int (zI (j : Int))), (9, .int (zI (cc : Int))), (8, .int (zI tz)), (7, .int (zI ((o.1 : Nat) : Int))), (6, .int (zI (x : Int))), (5, .int (zI (y : Int))), (4, .int (zI (n9 : Int))), (3, .int (zI 7)), (0, .ref (B + 23)), (1, .ref (B + ru)), (2, .ref (B + a))] → W p l e R s m args below meth c H locs 0 0 Q (F0 m 65 ls []) := by
  have hx := F.1
  have hb := F.2.1
  have hP0 := hP 0 (by decide)
  have hP1 := hP 1 (by decide)
  have hP2 := hP 2 (by decide)
  have hP3 := hP 3 (by decide)
  have hP4 := hP 4 (by decide)
  have hP5 := hP 5 (by decide)
  have hP6 := hP 6 (by decide)
  have hP7 := hP 7 (by decide)
  intro f
  induction f with
  | zero =>
    intro j tz cc Nm o1 i0 i1 i2 i3 i4 i5 i6 hf H locs ls w hl
    have hW1 := i1.1
    have hwf1 := i1.wf
    have hKL1 := hwf1.2.2.2.2
    have hn1 := hwf1.1
    refine lv_iload hx hb wdX1_passOverTones_65 (lv_at hl 0 rfl) ?_
    refine lv_iload hx hb wdX1_passOverTones_67 (lv_at hl 3 rfl) ?_
    refine z_icmp_ge (tgt := 315) hx hb (by omega) (by omega) wdX1_passOverTones_69 (by decide) (fun c1 => ?_) (fun c1 => False.elim (by omega))
    exact kk j tz cc Nm o1 _ _ ls i1 (tpI_e i2 (by omega)) i4 (by omega) w (lv_sub hl [1] rfl)
  | succ f ih =>
    intro j tz cc Nm o1 i0 i1 i2 i3 i4 i5 i6 hf H locs ls w hl
    have hW1 := i1.1
    have hwf1 := i1.wf
    have hKL1 := hwf1.2.2.2.2
    have hn1 := hwf1.1
    refine lv_iload hx hb wdX1_passOverTones_65 (lv_at hl 0 rfl) ?_
    refine lv_iload hx hb wdX1_passOverTones_67 (lv_at hl 3 rfl) ?_
    refine z_icmp_ge (tgt := 315) hx hb (by omega) (by omega) wdX1_passOverTones_69 (by decide) (fun c1 => ?_) (fun c1 => ?_)
    · exact kk j tz cc Nm o1 _ _ ls i1 (tpI_e i2 (by omega)) i4 (by omega) w (lv_sub hl [1] rfl)
    · refine lv_aload_n hx hb wdX1_passOverTones_72 rfl (lv_at hl 10 rfl) ?_
      refine lv_iload hx hb wdX1_passOverTones_73 (lv_at hl 2 rfl) ?_
      refine k_Vi F w (As := [.int (zI tz)]) (rest := []) (a := a) (kd_lt (a := a) hk (by decide)) (sh_9 hk _ _) rfl (s_X9_hasTone hk hW1 hwf1 (by omega)) wgv_X1_47 whv_X9_hasTone ⟨(by omega), (by omega)⟩ hl.1 rfl (Nat.le_of_ble_eq_true rfl) ⟨Nat.zero_le _, Nat.zero_le _⟩ wdX1_passOverTones_75 (fun r Ma3 H locs hp w => ?_)
      rcases hp with ⟨⟨k2, rfl, hk2, rfl⟩ | ⟨nk2, rfl⟩, hMe⟩
      · rw [hMe] at w
        refine z_if_eq (tgt := 315) hx hb (by omega) wdX1_passOverTones_78 (by decide) (fun c4 => False.elim (by omega)) (fun c4 => ?_)
        refine lv_iconst (v := zI 0) hx hb wdX1_passOverTones_81 rfl ?_
        refine lv_istore (lv' := [(11, .int (zI 0)), (10, .int (zI (j : Int))), (9, .int (zI (cc : Int))), (8, .int (zI (k2 : Int))), (7, .int (zI ((o.1 : Nat) : Int))), (6, .int (zI (x : Int))), (5, .int (zI (y : Int))), (4, .int (zI (n9 : Int))), (3, .int (zI 7)), (0, .ref (B + 23)), (1, .ref (B + ru)), (2, .ref (B + a))]) hx hb wdX1_passOverTones_82 hl (by decide) rfl (fun ls hl => ?_)
        refine lv_aload_n hx hb wdX1_passOverTones_84 rfl (lv_at hl 10 rfl) ?_
        refine lv_aload_n hx hb wdX1_passOverTones_85 rfl (lv_at hl 11 rfl) ?_
        refine lv_iload hx hb wdX1_passOverTones_86 (lv_at hl 3 rfl) ?_
        refine k_Vi F w (As := [.int (zI (k2 : Int))]) (rest := [.ref (B + ru)]) (a := a) (kd_lt (a := a) hk (by decide)) (sh_9 hk _ _) rfl (s_X9_kindOf hk hW1 hwf1 (by omega)) wgv_X1_94 whv_X9_kindOf ⟨(by omega), (by omega)⟩ hl.1 rfl (Nat.le_of_ble_eq_true rfl) ⟨Nat.zero_le _, Nat.zero_le _⟩ wdX1_passOverTones_88 (fun r Ma6 H locs hp w => ?_)
        rcases hp with ⟨⟨k5, ek5, hk5, rfl⟩ | ⟨nk5, rfl⟩, hMe⟩
        · obtain rfl : k2 = k5 := by omega
          rw [hMe] at w
          have gk5 := (hKL1 k2 (by omega)).1
          refine k_Vi F w (As := [.int (zI (((o1.2.1 k2) : Nat) : Int))]) (rest := []) (a := ru) (kd_lt (a := ru) hku (by decide)) (sh_4 hku _ _) rfl (s_X4_isOf hku i5 hP (z := (((o1.2.1 k2) : Nat) : Int)) (by omega)) wgv_X1_97 whv_X4_isOf ⟨(by omega), (by omega)⟩ hl.1 rfl (Nat.le_of_ble_eq_true rfl) ⟨Nat.zero_le _, Nat.zero_le _⟩ wdX1_passOverTones_91 (fun r Ma8 H locs hp w => ?_)
          rcases hp with ⟨⟨hof7, rfl⟩ | ⟨hof7, rfl⟩, hMe⟩
          · rw [hMe] at w
            refine z_if_eq (tgt := 249) hx hb (by omega) wdX1_passOverTones_94 (by decide) (fun c9 => False.elim (by omega)) (fun c9 => ?_)
            refine lv_aload_n hx hb wdX1_passOverTones_97 rfl (lv_at hl 10 rfl) ?_
            refine lv_aload_n hx hb wdX1_passOverTones_98 rfl (lv_at hl 11 rfl) ?_
            refine lv_iload hx hb wdX1_passOverTones_99 (lv_at hl 3 rfl) ?_
            refine k_Vi F w (As := [.ref (B + a), .int (zI (k2 : Int))]) (rest := []) (a := ru) (kd_lt (a := ru) hku (by decide)) (sh_4 hku _ _) rfl (s_X4_admits hk i1 hku i5 hP (t := k2) hk2 hz5) wgv_X1_100 whv_X4_admits ⟨(by omega), (by omega)⟩ hl.1 rfl (Nat.le_of_ble_eq_true rfl) ⟨Nat.zero_le _, Nat.zero_le _⟩ wdX1_passOverTones_101 (fun r Ma11 H locs hp w => ?_)
            rcases hp with ⟨⟨had10, rfl⟩ | ⟨had10, rfl⟩, hMe⟩
            · rw [hMe] at w
              refine z_if_eq (tgt := 249) hx hb (by omega) wdX1_passOverTones_104 (by decide) (fun c12 => False.elim (by omega)) (fun c12 => ?_)
              refine lv_iload_n hx hb wdX1_passOverTones_107 rfl (lv_at hl 8 rfl) ?_
              rcases (show (7 : Int) = 7 by omega) with c13
              refine r_val (v := zI 7) (congrArg zI c13) ?_
              refine lv_tableIn (tgt := 235) hx hb wdX1_passOverTones_108 (by decide) (by decide) (off := 127) rfl (by decide) ?_
              refine lv_aload_n hx hb wdX1_passOverTones_235 rfl (lv_at hl 9 rfl) ?_
              refine lv_aload_n hx hb wdX1_passOverTones_236 rfl (lv_at hl 11 rfl) ?_
              refine lv_iload hx hb wdX1_passOverTones_237 (lv_at hl 3 rfl) ?_
              refine lv_iload hx hb wdX1_passOverTones_239 (lv_at hl 7 rfl) ?_
              refine k_Vi F w (As := [.ref (B + a), .int (zI (k2 : Int)), .int (zI (n9 : Int))]) (rest := []) (a := 23) (kd_lt (a := 23) (show kd 23 = (1, 0, 0) from rfl) (by decide)) (sh_1 rfl _ _) rfl (u_turn hk i1 (t := k2) hk2 (x := n9) (by omega)) wgv_X1_120 whv_X1_turnTo ⟨(by omega), (by omega)⟩ hl.1 rfl (Nat.le_of_ble_eq_true rfl) ⟨Nat.zero_le _, Nat.zero_le _⟩ wdX1_passOverTones_241 (fun r Ma15 H locs hp w => ?_)
              rcases hp with ⟨oT14, dT14, eT14, rfl, hCT14, hFT14, hdT14⟩
              refine lv_istore (lv' := [(11, .int (zI (dT14 : Int))), (10, .int (zI (j : Int))), (9, .int (zI (cc : Int))), (8, .int (zI (k2 : Int))), (7, .int (zI ((o.1 : Nat) : Int))), (6, .int (zI (x : Int))), (5, .int (zI (y : Int))), (4, .int (zI (n9 : Int))), (3, .int (zI 7)), (0, .ref (B + 23)), (1, .ref (B + ru)), (2, .ref (B + a))]) hx hb wdX1_passOverTones_244 hl (by decide) rfl (fun ls hl => ?_)
              refine lv_goto (tgt := 249) hx hb wdX1_passOverTones_246 (by decide) ?_
              refine lv_iload_n hx hb wdX1_passOverTones_249 rfl (lv_at hl 8 rfl) ?_
              refine lv_iconst (v := zI 2) hx hb wdX1_passOverTones_250 rfl ?_
              refine z_icmp_ne (tgt := 273) hx hb (by omega) (by omega) wdX1_passOverTones_251 (by decide) (fun c16 => ?_) (fun c16 => False.elim (by omega))
              refine lv_iload hx hb wdX1_passOverTones_273 (lv_at hl 2 rfl) ?_
              refine lv_iload hx hb wdX1_passOverTones_275 (lv_at hl 0 rfl) ?_
              refine z_iadd (z := (((cc + dT14) : Nat) : Int)) hx hb wdX1_passOverTones_277 (by omega) ?_
              refine lv_istore (lv' := [(9, .int (zI (((cc + dT14) : Nat) : Int))), (11, .int (zI (dT14 : Int))), (10, .int (zI (j : Int))), (8, .int (zI (k2 : Int))), (7, .int (zI ((o.1 : Nat) : Int))), (6, .int (zI (x : Int))), (5, .int (zI (y : Int))), (4, .int (zI (n9 : Int))), (3, .int (zI 7)), (0, .ref (B + 23)), (1, .ref (B + ru)), (2, .ref (B + a))]) hx hb wdX1_passOverTones_278 hl (by decide) rfl (fun ls hl => ?_)
              refine lv_iload hx hb wdX1_passOverTones_280 (lv_at hl 3 rfl) ?_
              refine lv_iload hx hb wdX1_passOverTones_282 (lv_at hl 5 rfl) ?_
              refine z_if_eq (tgt := 291) hx hb (by omega) wdX1_passOverTones_284 (by decide) (fun c17 => ?_) (fun c17 => ?_)
              · refine lv_iload_n hx hb wdX1_passOverTones_291 rfl (lv_at hl 8 rfl) ?_
                refine lv_iconst (v := zI 5) hx hb wdX1_passOverTones_292 rfl ?_
                refine z_icmp_ne (tgt := 305) hx hb (by omega) (by omega) wdX1_passOverTones_293 (by decide) (fun c18 => ?_) (fun c18 => False.elim (by omega))
                refine lv_iconst (v := zI 1) hx hb wdX1_passOverTones_305 rfl ?_
                refine z_iadd (z := (((k2 + 1) : Nat) : Int)) hx hb wdX1_passOverTones_306 (by omega) ?_
                have hnb := nx_b 7 x dT14 (k2 : Int)
                refine r_val (v := zI (nxT 7 x dT14 (k2 : Int))) (congrArg zI (by rw [← nx_r (v := 7) (cc := dT14) (show x ≠ 1 by omega) (by omega)]; omega)) ?_
                refine lv_istore (lv' := [(8, .int (zI (nxT 7 x dT14 (k2 : Int)))), (9, .int (zI (((cc + dT14) : Nat) : Int))), (11, .int (zI (dT14 : Int))), (10, .int (zI (j : Int))), (7, .int (zI ((o.1 : Nat) : Int))), (6, .int (zI (x : Int))), (5, .int (zI (y : Int))), (4, .int (zI (n9 : Int))), (3, .int (zI 7)), (0, .ref (B + 23)), (1, .ref (B + ru)), (2, .ref (B + a))]) hx hb wdX1_passOverTones_307 hl (by decide) rfl (fun ls hl => ?_)
                refine z_iinc (v := (((j + 1) : Nat) : Int)) (lv' := [(10, .int (zI (((j + 1) : Nat) : Int))), (8, .int (zI (nxT 7 x dT14 (k2 : Int)))), (9, .int (zI (((cc + dT14) : Nat) : Int))), (11, .int (zI (dT14 : Int))), (7, .int (zI ((o.1 : Nat) : Int))), (6, .int (zI (x : Int))), (5, .int (zI (y : Int))), (4, .int (zI (n9 : Int))), (3, .int (zI 7)), (0, .ref (B + 23)), (1, .ref (B + ru)), (2, .ref (B + a))]) hx hb wdX1_passOverTones_309 hl (k := 3) rfl (by omega) (by decide) rfl (fun ls hl => ?_)
                refine lv_goto (tgt := 65) hx hb wdX1_passOverTones_312 (by decide) ?_
                exact ih (j + 1) (nxT 7 x dT14 (k2 : Int)) (cc + dT14) Ma15 oT14 (by omega) hCT14 (by have h9 := tpI_s (f := o.1 - (j + 1)) (by rw [show o.1 - (j + 1) + 1 = o.1 - j by omega]; exact i2) hk2 (((trT_y ⟨hof7, had10⟩).trans (trV_7 (x := x) (y := y) (n9 := n9) (q := q) (ed := ed))).trans eT14); exact h9) (by omega) (Fr3.tr i4 hFT14) (isU.fr i5 (hFT14.1 (ru + 1) (by omega) (by omega) (by omega))) (by omega) (by omega) _ _ ls w (lv_sub hl [0, 2, 1, 4, 5, 6, 7, 8, 9, 10, 11] rfl)
              · refine lv_iconst (v := zI (-1)) hx hb wdX1_passOverTones_287 rfl ?_
                refine lv_goto (tgt := 306) hx hb wdX1_passOverTones_288 (by decide) ?_
                refine z_iadd (z := ((k2 : Int) + (-1))) hx hb wdX1_passOverTones_306 (by omega) ?_
                have hnb := nx_b 7 x dT14 (k2 : Int)
                refine r_val (v := zI (nxT 7 x dT14 (k2 : Int))) (congrArg zI (by rw [← nx_l (v := 7) (cc := dT14) (show x = 1 by omega)]; omega)) ?_
                refine lv_istore (lv' := [(8, .int (zI (nxT 7 x dT14 (k2 : Int)))), (9, .int (zI (((cc + dT14) : Nat) : Int))), (11, .int (zI (dT14 : Int))), (10, .int (zI (j : Int))), (7, .int (zI ((o.1 : Nat) : Int))), (6, .int (zI (x : Int))), (5, .int (zI (y : Int))), (4, .int (zI (n9 : Int))), (3, .int (zI 7)), (0, .ref (B + 23)), (1, .ref (B + ru)), (2, .ref (B + a))]) hx hb wdX1_passOverTones_307 hl (by decide) rfl (fun ls hl => ?_)
                refine z_iinc (v := (((j + 1) : Nat) : Int)) (lv' := [(10, .int (zI (((j + 1) : Nat) : Int))), (8, .int (zI (nxT 7 x dT14 (k2 : Int)))), (9, .int (zI (((cc + dT14) : Nat) : Int))), (11, .int (zI (dT14 : Int))), (7, .int (zI ((o.1 : Nat) : Int))), (6, .int (zI (x : Int))), (5, .int (zI (y : Int))), (4, .int (zI (n9 : Int))), (3, .int (zI 7)), (0, .ref (B + 23)), (1, .ref (B + ru)), (2, .ref (B + a))]) hx hb wdX1_passOverTones_309 hl (k := 3) rfl (by omega) (by decide) rfl (fun ls hl => ?_)
                refine lv_goto (tgt := 65) hx hb wdX1_passOverTones_312 (by decide) ?_
                exact ih (j + 1) (nxT 7 x dT14 (k2 : Int)) (cc + dT14) Ma15 oT14 (by omega) hCT14 (by have h9 := tpI_s (f := o.1 - (j + 1)) (by rw [show o.1 - (j + 1) + 1 = o.1 - j by omega]; exact i2) hk2 (((trT_y ⟨hof7, had10⟩).trans (trV_7 (x := x) (y := y) (n9 := n9) (q := q) (ed := ed))).trans eT14); exact h9) (by omega) (Fr3.tr i4 hFT14) (isU.fr i5 (hFT14.1 (ru + 1) (by omega) (by omega) (by omega))) (by omega) (by omega) _ _ ls w (lv_sub hl [0, 2, 1, 4, 5, 6, 7, 8, 9, 10, 11] rfl)
            · rw [hMe] at w
              refine z_if_eq (tgt := 249) hx hb (by omega) wdX1_passOverTones_104 (by decide) (fun c19 => ?_) (fun c19 => False.elim (by omega))
              refine lv_iload_n hx hb wdX1_passOverTones_249 rfl (lv_at hl 8 rfl) ?_
              refine lv_iconst (v := zI 2) hx hb wdX1_passOverTones_250 rfl ?_
              refine z_icmp_ne (tgt := 273) hx hb (by omega) (by omega) wdX1_passOverTones_251 (by decide) (fun c20 => ?_) (fun c20 => False.elim (by omega))
              refine lv_iload hx hb wdX1_passOverTones_273 (lv_at hl 2 rfl) ?_
              refine lv_iload hx hb wdX1_passOverTones_275 (lv_at hl 0 rfl) ?_
              refine z_iadd (z := (((cc + 0) : Nat) : Int)) hx hb wdX1_passOverTones_277 (by omega) ?_
              refine lv_istore (lv' := [(9, .int (zI (((cc + 0) : Nat) : Int))), (11, .int (zI 0)), (10, .int (zI (j : Int))), (8, .int (zI (k2 : Int))), (7, .int (zI ((o.1 : Nat) : Int))), (6, .int (zI (x : Int))), (5, .int (zI (y : Int))), (4, .int (zI (n9 : Int))), (3, .int (zI 7)), (0, .ref (B + 23)), (1, .ref (B + ru)), (2, .ref (B + a))]) hx hb wdX1_passOverTones_278 hl (by decide) rfl (fun ls hl => ?_)
              refine lv_iload hx hb wdX1_passOverTones_280 (lv_at hl 3 rfl) ?_
              refine lv_iload hx hb wdX1_passOverTones_282 (lv_at hl 5 rfl) ?_
              refine z_if_eq (tgt := 291) hx hb (by omega) wdX1_passOverTones_284 (by decide) (fun c21 => ?_) (fun c21 => ?_)
              · refine lv_iload_n hx hb wdX1_passOverTones_291 rfl (lv_at hl 8 rfl) ?_
                refine lv_iconst (v := zI 5) hx hb wdX1_passOverTones_292 rfl ?_
                refine z_icmp_ne (tgt := 305) hx hb (by omega) (by omega) wdX1_passOverTones_293 (by decide) (fun c22 => ?_) (fun c22 => False.elim (by omega))
                refine lv_iconst (v := zI 1) hx hb wdX1_passOverTones_305 rfl ?_
                refine z_iadd (z := (((k2 + 1) : Nat) : Int)) hx hb wdX1_passOverTones_306 (by omega) ?_
                have hnb := nx_b 7 x 0 (k2 : Int)
                refine r_val (v := zI (nxT 7 x 0 (k2 : Int))) (congrArg zI (by rw [← nx_r (v := 7) (cc := 0) (show x ≠ 1 by omega) (by omega)]; omega)) ?_
                refine lv_istore (lv' := [(8, .int (zI (nxT 7 x 0 (k2 : Int)))), (9, .int (zI (((cc + 0) : Nat) : Int))), (11, .int (zI 0)), (10, .int (zI (j : Int))), (7, .int (zI ((o.1 : Nat) : Int))), (6, .int (zI (x : Int))), (5, .int (zI (y : Int))), (4, .int (zI (n9 : Int))), (3, .int (zI 7)), (0, .ref (B + 23)), (1, .ref (B + ru)), (2, .ref (B + a))]) hx hb wdX1_passOverTones_307 hl (by decide) rfl (fun ls hl => ?_)
                refine z_iinc (v := (((j + 1) : Nat) : Int)) (lv' := [(10, .int (zI (((j + 1) : Nat) : Int))), (8, .int (zI (nxT 7 x 0 (k2 : Int)))), (9, .int (zI (((cc + 0) : Nat) : Int))), (11, .int (zI 0)), (7, .int (zI ((o.1 : Nat) : Int))), (6, .int (zI (x : Int))), (5, .int (zI (y : Int))), (4, .int (zI (n9 : Int))), (3, .int (zI 7)), (0, .ref (B + 23)), (1, .ref (B + ru)), (2, .ref (B + a))]) hx hb wdX1_passOverTones_309 hl (k := 3) rfl (by omega) (by decide) rfl (fun ls hl => ?_)
                refine lv_goto (tgt := 65) hx hb wdX1_passOverTones_312 (by decide) ?_
                rw [show cc = cc + 0 from rfl] at hl
                exact ih (j + 1) (nxT 7 x 0 (k2 : Int)) (cc + 0) Nm o1 (by omega) i1 (by have h9 := tpI_s (f := o.1 - (j + 1)) (by rw [show o.1 - (j + 1) + 1 = o.1 - j by omega]; exact i2) hk2 (trT_n (fun h9 => had10 h9.2)); exact h9) (by omega) i4 i5 (by omega) (by omega) _ _ ls w (lv_sub hl [0, 2, 1, 4, 5, 6, 7, 8, 9, 10, 11] rfl)
              · refine lv_iconst (v := zI (-1)) hx hb wdX1_passOverTones_287 rfl ?_
                refine lv_goto (tgt := 306) hx hb wdX1_passOverTones_288 (by decide) ?_
                refine z_iadd (z := ((k2 : Int) + (-1))) hx hb wdX1_passOverTones_306 (by omega) ?_
                have hnb := nx_b 7 x 0 (k2 : Int)
                refine r_val (v := zI (nxT 7 x 0 (k2 : Int))) (congrArg zI (by rw [← nx_l (v := 7) (cc := 0) (show x = 1 by omega)]; omega)) ?_
                refine lv_istore (lv' := [(8, .int (zI (nxT 7 x 0 (k2 : Int)))), (9, .int (zI (((cc + 0) : Nat) : Int))), (11, .int (zI 0)), (10, .int (zI (j : Int))), (7, .int (zI ((o.1 : Nat) : Int))), (6, .int (zI (x : Int))), (5, .int (zI (y : Int))), (4, .int (zI (n9 : Int))), (3, .int (zI 7)), (0, .ref (B + 23)), (1, .ref (B + ru)), (2, .ref (B + a))]) hx hb wdX1_passOverTones_307 hl (by decide) rfl (fun ls hl => ?_)
                refine z_iinc (v := (((j + 1) : Nat) : Int)) (lv' := [(10, .int (zI (((j + 1) : Nat) : Int))), (8, .int (zI (nxT 7 x 0 (k2 : Int)))), (9, .int (zI (((cc + 0) : Nat) : Int))), (11, .int (zI 0)), (7, .int (zI ((o.1 : Nat) : Int))), (6, .int (zI (x : Int))), (5, .int (zI (y : Int))), (4, .int (zI (n9 : Int))), (3, .int (zI 7)), (0, .ref (B + 23)), (1, .ref (B + ru)), (2, .ref (B + a))]) hx hb wdX1_passOverTones_309 hl (k := 3) rfl (by omega) (by decide) rfl (fun ls hl => ?_)
                refine lv_goto (tgt := 65) hx hb wdX1_passOverTones_312 (by decide) ?_
                rw [show cc = cc + 0 from rfl] at hl
                exact ih (j + 1) (nxT 7 x 0 (k2 : Int)) (cc + 0) Nm o1 (by omega) i1 (by have h9 := tpI_s (f := o.1 - (j + 1)) (by rw [show o.1 - (j + 1) + 1 = o.1 - j by omega]; exact i2) hk2 (trT_n (fun h9 => had10 h9.2)); exact h9) (by omega) i4 i5 (by omega) (by omega) _ _ ls w (lv_sub hl [0, 2, 1, 4, 5, 6, 7, 8, 9, 10, 11] rfl)
          · rw [hMe] at w
            refine z_if_eq (tgt := 249) hx hb (by omega) wdX1_passOverTones_94 (by decide) (fun c23 => ?_) (fun c23 => False.elim (by omega))
            refine lv_iload_n hx hb wdX1_passOverTones_249 rfl (lv_at hl 8 rfl) ?_
            refine lv_iconst (v := zI 2) hx hb wdX1_passOverTones_250 rfl ?_
            refine z_icmp_ne (tgt := 273) hx hb (by omega) (by omega) wdX1_passOverTones_251 (by decide) (fun c24 => ?_) (fun c24 => False.elim (by omega))
            refine lv_iload hx hb wdX1_passOverTones_273 (lv_at hl 2 rfl) ?_
            refine lv_iload hx hb wdX1_passOverTones_275 (lv_at hl 0 rfl) ?_
            refine z_iadd (z := (((cc + 0) : Nat) : Int)) hx hb wdX1_passOverTones_277 (by omega) ?_
            refine lv_istore (lv' := [(9, .int (zI (((cc + 0) : Nat) : Int))), (11, .int (zI 0)), (10, .int (zI (j : Int))), (8, .int (zI (k2 : Int))), (7, .int (zI ((o.1 : Nat) : Int))), (6, .int (zI (x : Int))), (5, .int (zI (y : Int))), (4, .int (zI (n9 : Int))), (3, .int (zI 7)), (0, .ref (B + 23)), (1, .ref (B + ru)), (2, .ref (B + a))]) hx hb wdX1_passOverTones_278 hl (by decide) rfl (fun ls hl => ?_)
            refine lv_iload hx hb wdX1_passOverTones_280 (lv_at hl 3 rfl) ?_
            refine lv_iload hx hb wdX1_passOverTones_282 (lv_at hl 5 rfl) ?_
            refine z_if_eq (tgt := 291) hx hb (by omega) wdX1_passOverTones_284 (by decide) (fun c25 => ?_) (fun c25 => ?_)
            · refine lv_iload_n hx hb wdX1_passOverTones_291 rfl (lv_at hl 8 rfl) ?_
              refine lv_iconst (v := zI 5) hx hb wdX1_passOverTones_292 rfl ?_
              refine z_icmp_ne (tgt := 305) hx hb (by omega) (by omega) wdX1_passOverTones_293 (by decide) (fun c26 => ?_) (fun c26 => False.elim (by omega))
              refine lv_iconst (v := zI 1) hx hb wdX1_passOverTones_305 rfl ?_
              refine z_iadd (z := (((k2 + 1) : Nat) : Int)) hx hb wdX1_passOverTones_306 (by omega) ?_
              have hnb := nx_b 7 x 0 (k2 : Int)
              refine r_val (v := zI (nxT 7 x 0 (k2 : Int))) (congrArg zI (by rw [← nx_r (v := 7) (cc := 0) (show x ≠ 1 by omega) (by omega)]; omega)) ?_
              refine lv_istore (lv' := [(8, .int (zI (nxT 7 x 0 (k2 : Int)))), (9, .int (zI (((cc + 0) : Nat) : Int))), (11, .int (zI 0)), (10, .int (zI (j : Int))), (7, .int (zI ((o.1 : Nat) : Int))), (6, .int (zI (x : Int))), (5, .int (zI (y : Int))), (4, .int (zI (n9 : Int))), (3, .int (zI 7)), (0, .ref (B + 23)), (1, .ref (B + ru)), (2, .ref (B + a))]) hx hb wdX1_passOverTones_307 hl (by decide) rfl (fun ls hl => ?_)
              refine z_iinc (v := (((j + 1) : Nat) : Int)) (lv' := [(10, .int (zI (((j + 1) : Nat) : Int))), (8, .int (zI (nxT 7 x 0 (k2 : Int)))), (9, .int (zI (((cc + 0) : Nat) : Int))), (11, .int (zI 0)), (7, .int (zI ((o.1 : Nat) : Int))), (6, .int (zI (x : Int))), (5, .int (zI (y : Int))), (4, .int (zI (n9 : Int))), (3, .int (zI 7)), (0, .ref (B + 23)), (1, .ref (B + ru)), (2, .ref (B + a))]) hx hb wdX1_passOverTones_309 hl (k := 3) rfl (by omega) (by decide) rfl (fun ls hl => ?_)
              refine lv_goto (tgt := 65) hx hb wdX1_passOverTones_312 (by decide) ?_
              rw [show cc = cc + 0 from rfl] at hl
              exact ih (j + 1) (nxT 7 x 0 (k2 : Int)) (cc + 0) Nm o1 (by omega) i1 (by have h9 := tpI_s (f := o.1 - (j + 1)) (by rw [show o.1 - (j + 1) + 1 = o.1 - j by omega]; exact i2) hk2 (trT_n (fun h9 => hof7 h9.1)); exact h9) (by omega) i4 i5 (by omega) (by omega) _ _ ls w (lv_sub hl [0, 2, 1, 4, 5, 6, 7, 8, 9, 10, 11] rfl)
            · refine lv_iconst (v := zI (-1)) hx hb wdX1_passOverTones_287 rfl ?_
              refine lv_goto (tgt := 306) hx hb wdX1_passOverTones_288 (by decide) ?_
              refine z_iadd (z := ((k2 : Int) + (-1))) hx hb wdX1_passOverTones_306 (by omega) ?_
              have hnb := nx_b 7 x 0 (k2 : Int)
              refine r_val (v := zI (nxT 7 x 0 (k2 : Int))) (congrArg zI (by rw [← nx_l (v := 7) (cc := 0) (show x = 1 by omega)]; omega)) ?_
              refine lv_istore (lv' := [(8, .int (zI (nxT 7 x 0 (k2 : Int)))), (9, .int (zI (((cc + 0) : Nat) : Int))), (11, .int (zI 0)), (10, .int (zI (j : Int))), (7, .int (zI ((o.1 : Nat) : Int))), (6, .int (zI (x : Int))), (5, .int (zI (y : Int))), (4, .int (zI (n9 : Int))), (3, .int (zI 7)), (0, .ref (B + 23)), (1, .ref (B + ru)), (2, .ref (B + a))]) hx hb wdX1_passOverTones_307 hl (by decide) rfl (fun ls hl => ?_)
              refine z_iinc (v := (((j + 1) : Nat) : Int)) (lv' := [(10, .int (zI (((j + 1) : Nat) : Int))), (8, .int (zI (nxT 7 x 0 (k2 : Int)))), (9, .int (zI (((cc + 0) : Nat) : Int))), (11, .int (zI 0)), (7, .int (zI ((o.1 : Nat) : Int))), (6, .int (zI (x : Int))), (5, .int (zI (y : Int))), (4, .int (zI (n9 : Int))), (3, .int (zI 7)), (0, .ref (B + 23)), (1, .ref (B + ru)), (2, .ref (B + a))]) hx hb wdX1_passOverTones_309 hl (k := 3) rfl (by omega) (by decide) rfl (fun ls hl => ?_)
              refine lv_goto (tgt := 65) hx hb wdX1_passOverTones_312 (by decide) ?_
              rw [show cc = cc + 0 from rfl] at hl
              exact ih (j + 1) (nxT 7 x 0 (k2 : Int)) (cc + 0) Nm o1 (by omega) i1 (by have h9 := tpI_s (f := o.1 - (j + 1)) (by rw [show o.1 - (j + 1) + 1 = o.1 - j by omega]; exact i2) hk2 (trT_n (fun h9 => hof7 h9.1)); exact h9) (by omega) i4 i5 (by omega) (by omega) _ _ ls w (lv_sub hl [0, 2, 1, 4, 5, 6, 7, 8, 9, 10, 11] rfl)
        · exact False.elim (by omega)
      · rw [hMe] at w
        refine z_if_eq (tgt := 315) hx hb (by omega) wdX1_passOverTones_78 (by decide) (fun c27 => ?_) (fun c27 => False.elim (by omega))
        exact kk j tz cc Nm o1 _ _ ls i1 (tpI_e i2 (by omega)) i4 (by omega) w (lv_sub hl [1] rfl)
set_option maxRecDepth 4000 in
theorem s_X1_over_7 {l : Launch} {D : va_G} {B : Nat} {cy : Nat → ClassId} {M : Mem} {a q hv ed : Nat} {o : Wo} (hk : kd a = (9, 0, 0)) (hC : CW M a q hv ed o) {ru : Nat} {P : Nat → Int} (hku : kd ru = (4, 0, 0)) (hU : isU M ru P) (hP : okP P) (hap : ru + 1 < a ∨ a + 2 < ru) {x y n9 : Nat} {t0 : Int} (hq0 : P 0 = 7) (hx8 : (x = 1 ∧ P 4 = 1 ∧ (P 0 = 1 ∨ P 0 = 2 ∨ P 0 = 4)) ∨ (x = 0 ∧ ¬ (P 4 = 1 ∧ (P 0 = 1 ∨ P 0 = 2 ∨ P 0 = 4)))) (hy8 : (P 4 = 1 ∧ y = 1) ∨ (P 4 ≠ 1 ∧ y = 0)) (ht0 : (x = 1 ∧ t0 = (o.1 : Int) - 1) ∨ (x = 0 ∧ t0 = 0)) (hz5 : P 5 = -2 ∨ (0 ≤ P 5 ∧ P 5 ≤ 6)) (hq3 : P 3 = (n9 : Int)) (hn9 : n9 ≤ 2) : Ci l D B cy yX1_passOverTones cX1_passOverTones 12 (some .int) 3 66 [.ref (B + 23), .ref (B + ru), .ref (B + a)] M (fun r M1 => TQ a q hv ed (tpF P 7 x y n9 q hv ed o.1 t0 o) 1884 M r M1) := by
  refine s_any (by decide) (Nat.le_of_ble_eq_true rfl) ?_
  intro p e s m below meth c ls F hr hlocks w hl
  have F : CallFix p m c cX1_passOverTones 12 s _ TB RX1 := F
  have hx := F.1
  have hb := F.2.1
  have hl : lv_has ls 12 [(0, .ref (B + 23)), (1, .ref (B + ru)), (2, .ref (B + a))] := hl
  have hW := hC.1
  have hwf := hC.wf
  have hKL := hwf.2.2.2.2
  have hn12 := hwf.1
  have hq12 := hwf.2.1
  have hP0 := hP 0 (by decide)
  have hP1 := hP 1 (by decide)
  have hP2 := hP 2 (by decide)
  have hP3 := hP 3 (by decide)
  have hP4 := hP 4 (by decide)
  have hP5 := hP 5 (by decide)
  have hP6 := hP 6 (by decide)
  have hP7 := hP 7 (by decide)
  refine lv_aload_n hx hb wdX1_passOverTones_0 rfl (lv_at hl 1 rfl) ?_
  refine f_4_0 F w (a := ru) hku wtb_45 wdX1_passOverTones_1 ?_
  refine lv_iconst (v := zI 0) hx hb wdX1_passOverTones_4 rfl ?_
  refine g_iald F w (a := (ru + 1)) (kd_r1 hku) (j := 0) ⟨by decide, by decide⟩ (by omega) wdX1_passOverTones_5 ?_
  refine r_val (v := (zI (P 0))) (hU 0 (by decide)) ?_
  refine r_val (v := (zI 7)) (congrArg zI hq0) ?_
  refine lv_istore_n (lv' := [(3, .int (zI 7)), (0, .ref (B + 23)), (1, .ref (B + ru)), (2, .ref (B + a))]) hx hb wdX1_passOverTones_6 rfl hl (by decide) rfl (fun ls hl => ?_)
  refine lv_aload_n hx hb wdX1_passOverTones_7 rfl (lv_at hl 2 rfl) ?_
  refine f_4_0 F w (a := ru) hku wtb_45 wdX1_passOverTones_8 ?_
  refine lv_iconst (v := zI 3) hx hb wdX1_passOverTones_11 rfl ?_
  refine g_iald F w (a := (ru + 1)) (kd_r1 hku) (j := 3) ⟨by decide, by decide⟩ (by omega) wdX1_passOverTones_12 ?_
  refine r_val (v := (zI (P 3))) (hU 3 (by decide)) ?_
  refine r_val (v := (zI (n9 : Int))) (congrArg zI hq3) ?_
  refine lv_istore (lv' := [(4, .int (zI (n9 : Int))), (3, .int (zI 7)), (0, .ref (B + 23)), (1, .ref (B + ru)), (2, .ref (B + a))]) hx hb wdX1_passOverTones_13 hl (by decide) rfl (fun ls hl => ?_)
  refine lv_aload_n hx hb wdX1_passOverTones_15 rfl (lv_at hl 3 rfl) ?_
  refine f_4_0 F w (a := ru) hku wtb_45 wdX1_passOverTones_16 ?_
  refine lv_iconst (v := zI 4) hx hb wdX1_passOverTones_19 rfl ?_
  refine g_iald F w (a := (ru + 1)) (kd_r1 hku) (j := 4) ⟨by decide, by decide⟩ (by omega) wdX1_passOverTones_20 ?_
  refine r_val (v := (zI (P 4))) (hU 4 (by decide)) ?_
  refine lv_iconst (v := zI 1) hx hb wdX1_passOverTones_21 rfl ?_
  refine z_icmp_ne (tgt := 29) hx hb (by omega) (by omega) wdX1_passOverTones_22 (by decide) (fun c1 => ?_) (fun c1 => ?_)
  · refine lv_iconst (v := zI 0) hx hb wdX1_passOverTones_29 rfl ?_
    refine r_val (v := zI ((y : Nat) : Int)) (congrArg zI (by omega)) ?_
    refine lv_istore (lv' := [(5, .int (zI (y : Int))), (4, .int (zI (n9 : Int))), (3, .int (zI 7)), (0, .ref (B + 23)), (1, .ref (B + ru)), (2, .ref (B + a))]) hx hb wdX1_passOverTones_30 hl (by decide) rfl (fun ls hl => ?_)
    refine lv_aload_n hx hb wdX1_passOverTones_32 rfl (lv_at hl 4 rfl) ?_
    refine k_Vi F w (As := []) (rest := []) (a := ru) (kd_lt (a := ru) hku (by decide)) (sh_4 hku _ _) rfl (s_X4_goesLeft hku hU hP) wgv_X1_90 whv_X4_goesLeft ⟨(Nat.le_of_ble_eq_true rfl), (Nat.le_of_ble_eq_true rfl)⟩ hl.1 rfl (Nat.le_of_ble_eq_true rfl) ⟨Nat.zero_le _, Nat.zero_le _⟩ wdX1_passOverTones_33 (fun r Ma3 H locs hp w => ?_)
    rcases hp with ⟨⟨hlf2, rfl⟩ | ⟨hlf2, rfl⟩, hMe⟩
    · rw [hMe] at w
      refine r_val (v := zI ((x : Nat) : Int)) (congrArg zI (by omega)) ?_
      refine lv_istore (lv' := [(6, .int (zI (x : Int))), (5, .int (zI (y : Int))), (4, .int (zI (n9 : Int))), (3, .int (zI 7)), (0, .ref (B + 23)), (1, .ref (B + ru)), (2, .ref (B + a))]) hx hb wdX1_passOverTones_36 hl (by decide) rfl (fun ls hl => ?_)
      refine lv_aload_n hx hb wdX1_passOverTones_38 rfl (lv_at hl 6 rfl) ?_
      refine f_9_0 F w (a := a) hk wtb_32 wdX1_passOverTones_39 ?_
      refine r_val (v := (zI ((o.1 : Nat) : Int))) (hW.1) ?_
      refine lv_istore (lv' := [(7, .int (zI ((o.1 : Nat) : Int))), (6, .int (zI (x : Int))), (5, .int (zI (y : Int))), (4, .int (zI (n9 : Int))), (3, .int (zI 7)), (0, .ref (B + 23)), (1, .ref (B + ru)), (2, .ref (B + a))]) hx hb wdX1_passOverTones_42 hl (by decide) rfl (fun ls hl => ?_)
      refine lv_iload hx hb wdX1_passOverTones_44 (lv_at hl 1 rfl) ?_
      refine z_if_eq (tgt := 56) hx hb (by omega) wdX1_passOverTones_46 (by decide) (fun c4 => ?_) (fun c4 => ?_)
      · refine lv_iconst (v := zI 0) hx hb wdX1_passOverTones_56 rfl ?_
        refine r_val (v := zI t0) (congrArg zI (by omega)) ?_
        refine lv_istore (lv' := [(8, .int (zI t0)), (7, .int (zI ((o.1 : Nat) : Int))), (6, .int (zI (x : Int))), (5, .int (zI (y : Int))), (4, .int (zI (n9 : Int))), (3, .int (zI 7)), (0, .ref (B + 23)), (1, .ref (B + ru)), (2, .ref (B + a))]) hx hb wdX1_passOverTones_57 hl (by decide) rfl (fun ls hl => ?_)
        refine lv_iconst (v := zI 0) hx hb wdX1_passOverTones_59 rfl ?_
        refine lv_istore (lv' := [(9, .int (zI 0)), (8, .int (zI t0)), (7, .int (zI ((o.1 : Nat) : Int))), (6, .int (zI (x : Int))), (5, .int (zI (y : Int))), (4, .int (zI (n9 : Int))), (3, .int (zI 7)), (0, .ref (B + 23)), (1, .ref (B + ru)), (2, .ref (B + a))]) hx hb wdX1_passOverTones_60 hl (by decide) rfl (fun ls hl => ?_)
        refine lv_iconst (v := zI 0) hx hb wdX1_passOverTones_62 rfl ?_
        refine lv_istore (lv' := [(10, .int (zI 0)), (9, .int (zI 0)), (8, .int (zI t0)), (7, .int (zI ((o.1 : Nat) : Int))), (6, .int (zI (x : Int))), (5, .int (zI (y : Int))), (4, .int (zI (n9 : Int))), (3, .int (zI 7)), (0, .ref (B + 23)), (1, .ref (B + ru)), (2, .ref (B + a))]) hx hb wdX1_passOverTones_63 hl (by decide) rfl (fun ls hl => ?_)
        have hx01 : x = 0 ∨ x = 1 := by omega
        have hy01 : y = 0 ∨ y = 1 := by omega
        refine lp_X1_over_7  F (Nat.le_of_ble_eq_true rfl) (Nat.le_of_ble_eq_true rfl) (x := x) (y := y) (n9 := n9) hk hku hP hn12 hx01 hy01 hz5 hap hq3 hn9 (fun j tz cc Nm o1 H locs ls x0 x1 x2 x3 w hl => ?_) o.1 0 t0 0 M o (by omega) hC tpI_0 (by omega) Fr3.rf hU (by omega) (by omega) _ _ ls w (lv_sub hl [0, 1, 2, 3, 4, 5, 6, 7, 8, 9, 10] rfl)
        refine lv_iload hx hb wdX1_passOverTones_315 (lv_at hl 0 rfl) ?_
        exact e_i F w hr hlocks ⟨o1, cc, x1, rfl, x0, x2, x3⟩ wdX1_passOverTones_317
      · refine lv_iload hx hb wdX1_passOverTones_49 (lv_at hl 0 rfl) ?_
        refine lv_iconst (v := zI 1) hx hb wdX1_passOverTones_51 rfl ?_
        refine z_isub (z := (((o.1 : Nat) : Int) - 1)) hx hb wdX1_passOverTones_52 (by omega) ?_
        refine lv_goto (tgt := 57) hx hb wdX1_passOverTones_53 (by decide) ?_
        refine r_val (v := zI t0) (congrArg zI (by omega)) ?_
        refine lv_istore (lv' := [(8, .int (zI t0)), (7, .int (zI ((o.1 : Nat) : Int))), (6, .int (zI (x : Int))), (5, .int (zI (y : Int))), (4, .int (zI (n9 : Int))), (3, .int (zI 7)), (0, .ref (B + 23)), (1, .ref (B + ru)), (2, .ref (B + a))]) hx hb wdX1_passOverTones_57 hl (by decide) rfl (fun ls hl => ?_)
        refine lv_iconst (v := zI 0) hx hb wdX1_passOverTones_59 rfl ?_
        refine lv_istore (lv' := [(9, .int (zI 0)), (8, .int (zI t0)), (7, .int (zI ((o.1 : Nat) : Int))), (6, .int (zI (x : Int))), (5, .int (zI (y : Int))), (4, .int (zI (n9 : Int))), (3, .int (zI 7)), (0, .ref (B + 23)), (1, .ref (B + ru)), (2, .ref (B + a))]) hx hb wdX1_passOverTones_60 hl (by decide) rfl (fun ls hl => ?_)
        refine lv_iconst (v := zI 0) hx hb wdX1_passOverTones_62 rfl ?_
        refine lv_istore (lv' := [(10, .int (zI 0)), (9, .int (zI 0)), (8, .int (zI t0)), (7, .int (zI ((o.1 : Nat) : Int))), (6, .int (zI (x : Int))), (5, .int (zI (y : Int))), (4, .int (zI (n9 : Int))), (3, .int (zI 7)), (0, .ref (B + 23)), (1, .ref (B + ru)), (2, .ref (B + a))]) hx hb wdX1_passOverTones_63 hl (by decide) rfl (fun ls hl => ?_)
        have hx01 : x = 0 ∨ x = 1 := by omega
        have hy01 : y = 0 ∨ y = 1 := by omega
        refine lp_X1_over_7  F (Nat.le_of_ble_eq_true rfl) (Nat.le_of_ble_eq_true rfl) (x := x) (y := y) (n9 := n9) hk hku hP hn12 hx01 hy01 hz5 hap hq3 hn9 (fun j tz cc Nm o1 H locs ls x0 x1 x2 x3 w hl => ?_) o.1 0 t0 0 M o (by omega) hC tpI_0 (by omega) Fr3.rf hU (by omega) (by omega) _ _ ls w (lv_sub hl [0, 1, 2, 3, 4, 5, 6, 7, 8, 9, 10] rfl)
        refine lv_iload hx hb wdX1_passOverTones_315 (lv_at hl 0 rfl) ?_
        exact e_i F w hr hlocks ⟨o1, cc, x1, rfl, x0, x2, x3⟩ wdX1_passOverTones_317
    · rw [hMe] at w
      refine r_val (v := zI ((x : Nat) : Int)) (congrArg zI (by omega)) ?_
      refine lv_istore (lv' := [(6, .int (zI (x : Int))), (5, .int (zI (y : Int))), (4, .int (zI (n9 : Int))), (3, .int (zI 7)), (0, .ref (B + 23)), (1, .ref (B + ru)), (2, .ref (B + a))]) hx hb wdX1_passOverTones_36 hl (by decide) rfl (fun ls hl => ?_)
      refine lv_aload_n hx hb wdX1_passOverTones_38 rfl (lv_at hl 6 rfl) ?_
      refine f_9_0 F w (a := a) hk wtb_32 wdX1_passOverTones_39 ?_
      refine r_val (v := (zI ((o.1 : Nat) : Int))) (hW.1) ?_
      refine lv_istore (lv' := [(7, .int (zI ((o.1 : Nat) : Int))), (6, .int (zI (x : Int))), (5, .int (zI (y : Int))), (4, .int (zI (n9 : Int))), (3, .int (zI 7)), (0, .ref (B + 23)), (1, .ref (B + ru)), (2, .ref (B + a))]) hx hb wdX1_passOverTones_42 hl (by decide) rfl (fun ls hl => ?_)
      refine lv_iload hx hb wdX1_passOverTones_44 (lv_at hl 1 rfl) ?_
      refine z_if_eq (tgt := 56) hx hb (by omega) wdX1_passOverTones_46 (by decide) (fun c5 => ?_) (fun c5 => ?_)
      · refine lv_iconst (v := zI 0) hx hb wdX1_passOverTones_56 rfl ?_
        refine r_val (v := zI t0) (congrArg zI (by omega)) ?_
        refine lv_istore (lv' := [(8, .int (zI t0)), (7, .int (zI ((o.1 : Nat) : Int))), (6, .int (zI (x : Int))), (5, .int (zI (y : Int))), (4, .int (zI (n9 : Int))), (3, .int (zI 7)), (0, .ref (B + 23)), (1, .ref (B + ru)), (2, .ref (B + a))]) hx hb wdX1_passOverTones_57 hl (by decide) rfl (fun ls hl => ?_)
        refine lv_iconst (v := zI 0) hx hb wdX1_passOverTones_59 rfl ?_
        refine lv_istore (lv' := [(9, .int (zI 0)), (8, .int (zI t0)), (7, .int (zI ((o.1 : Nat) : Int))), (6, .int (zI (x : Int))), (5, .int (zI (y : Int))), (4, .int (zI (n9 : Int))), (3, .int (zI 7)), (0, .ref (B + 23)), (1, .ref (B + ru)), (2, .ref (B + a))]) hx hb wdX1_passOverTones_60 hl (by decide) rfl (fun ls hl => ?_)
        refine lv_iconst (v := zI 0) hx hb wdX1_passOverTones_62 rfl ?_
        refine lv_istore (lv' := [(10, .int (zI 0)), (9, .int (zI 0)), (8, .int (zI t0)), (7, .int (zI ((o.1 : Nat) : Int))), (6, .int (zI (x : Int))), (5, .int (zI (y : Int))), (4, .int (zI (n9 : Int))), (3, .int (zI 7)), (0, .ref (B + 23)), (1, .ref (B + ru)), (2, .ref (B + a))]) hx hb wdX1_passOverTones_63 hl (by decide) rfl (fun ls hl => ?_)
        have hx01 : x = 0 ∨ x = 1 := by omega
        have hy01 : y = 0 ∨ y = 1 := by omega
        refine lp_X1_over_7  F (Nat.le_of_ble_eq_true rfl) (Nat.le_of_ble_eq_true rfl) (x := x) (y := y) (n9 := n9) hk hku hP hn12 hx01 hy01 hz5 hap hq3 hn9 (fun j tz cc Nm o1 H locs ls x0 x1 x2 x3 w hl => ?_) o.1 0 t0 0 M o (by omega) hC tpI_0 (by omega) Fr3.rf hU (by omega) (by omega) _ _ ls w (lv_sub hl [0, 1, 2, 3, 4, 5, 6, 7, 8, 9, 10] rfl)
        refine lv_iload hx hb wdX1_passOverTones_315 (lv_at hl 0 rfl) ?_
        exact e_i F w hr hlocks ⟨o1, cc, x1, rfl, x0, x2, x3⟩ wdX1_passOverTones_317
      · refine lv_iload hx hb wdX1_passOverTones_49 (lv_at hl 0 rfl) ?_
        refine lv_iconst (v := zI 1) hx hb wdX1_passOverTones_51 rfl ?_
        refine z_isub (z := (((o.1 : Nat) : Int) - 1)) hx hb wdX1_passOverTones_52 (by omega) ?_
        refine lv_goto (tgt := 57) hx hb wdX1_passOverTones_53 (by decide) ?_
        refine r_val (v := zI t0) (congrArg zI (by omega)) ?_
        refine lv_istore (lv' := [(8, .int (zI t0)), (7, .int (zI ((o.1 : Nat) : Int))), (6, .int (zI (x : Int))), (5, .int (zI (y : Int))), (4, .int (zI (n9 : Int))), (3, .int (zI 7)), (0, .ref (B + 23)), (1, .ref (B + ru)), (2, .ref (B + a))]) hx hb wdX1_passOverTones_57 hl (by decide) rfl (fun ls hl => ?_)
        refine lv_iconst (v := zI 0) hx hb wdX1_passOverTones_59 rfl ?_
        refine lv_istore (lv' := [(9, .int (zI 0)), (8, .int (zI t0)), (7, .int (zI ((o.1 : Nat) : Int))), (6, .int (zI (x : Int))), (5, .int (zI (y : Int))), (4, .int (zI (n9 : Int))), (3, .int (zI 7)), (0, .ref (B + 23)), (1, .ref (B + ru)), (2, .ref (B + a))]) hx hb wdX1_passOverTones_60 hl (by decide) rfl (fun ls hl => ?_)
        refine lv_iconst (v := zI 0) hx hb wdX1_passOverTones_62 rfl ?_
        refine lv_istore (lv' := [(10, .int (zI 0)), (9, .int (zI 0)), (8, .int (zI t0)), (7, .int (zI ((o.1 : Nat) : Int))), (6, .int (zI (x : Int))), (5, .int (zI (y : Int))), (4, .int (zI (n9 : Int))), (3, .int (zI 7)), (0, .ref (B + 23)), (1, .ref (B + ru)), (2, .ref (B + a))]) hx hb wdX1_passOverTones_63 hl (by decide) rfl (fun ls hl => ?_)
        have hx01 : x = 0 ∨ x = 1 := by omega
        have hy01 : y = 0 ∨ y = 1 := by omega
        refine lp_X1_over_7  F (Nat.le_of_ble_eq_true rfl) (Nat.le_of_ble_eq_true rfl) (x := x) (y := y) (n9 := n9) hk hku hP hn12 hx01 hy01 hz5 hap hq3 hn9 (fun j tz cc Nm o1 H locs ls x0 x1 x2 x3 w hl => ?_) o.1 0 t0 0 M o (by omega) hC tpI_0 (by omega) Fr3.rf hU (by omega) (by omega) _ _ ls w (lv_sub hl [0, 1, 2, 3, 4, 5, 6, 7, 8, 9, 10] rfl)
        refine lv_iload hx hb wdX1_passOverTones_315 (lv_at hl 0 rfl) ?_
        exact e_i F w hr hlocks ⟨o1, cc, x1, rfl, x0, x2, x3⟩ wdX1_passOverTones_317
  · refine lv_iconst (v := zI 1) hx hb wdX1_passOverTones_25 rfl ?_
    refine lv_goto (tgt := 30) hx hb wdX1_passOverTones_26 (by decide) ?_
    refine r_val (v := zI ((y : Nat) : Int)) (congrArg zI (by omega)) ?_
    refine lv_istore (lv' := [(5, .int (zI (y : Int))), (4, .int (zI (n9 : Int))), (3, .int (zI 7)), (0, .ref (B + 23)), (1, .ref (B + ru)), (2, .ref (B + a))]) hx hb wdX1_passOverTones_30 hl (by decide) rfl (fun ls hl => ?_)
    refine lv_aload_n hx hb wdX1_passOverTones_32 rfl (lv_at hl 4 rfl) ?_
    refine k_Vi F w (As := []) (rest := []) (a := ru) (kd_lt (a := ru) hku (by decide)) (sh_4 hku _ _) rfl (s_X4_goesLeft hku hU hP) wgv_X1_90 whv_X4_goesLeft ⟨(Nat.le_of_ble_eq_true rfl), (Nat.le_of_ble_eq_true rfl)⟩ hl.1 rfl (Nat.le_of_ble_eq_true rfl) ⟨Nat.zero_le _, Nat.zero_le _⟩ wdX1_passOverTones_33 (fun r Ma7 H locs hp w => ?_)
    rcases hp with ⟨⟨hlf6, rfl⟩ | ⟨hlf6, rfl⟩, hMe⟩
    · rw [hMe] at w
      refine r_val (v := zI ((x : Nat) : Int)) (congrArg zI (by omega)) ?_
      refine lv_istore (lv' := [(6, .int (zI (x : Int))), (5, .int (zI (y : Int))), (4, .int (zI (n9 : Int))), (3, .int (zI 7)), (0, .ref (B + 23)), (1, .ref (B + ru)), (2, .ref (B + a))]) hx hb wdX1_passOverTones_36 hl (by decide) rfl (fun ls hl => ?_)
      refine lv_aload_n hx hb wdX1_passOverTones_38 rfl (lv_at hl 6 rfl) ?_
      refine f_9_0 F w (a := a) hk wtb_32 wdX1_passOverTones_39 ?_
      refine r_val (v := (zI ((o.1 : Nat) : Int))) (hW.1) ?_
      refine lv_istore (lv' := [(7, .int (zI ((o.1 : Nat) : Int))), (6, .int (zI (x : Int))), (5, .int (zI (y : Int))), (4, .int (zI (n9 : Int))), (3, .int (zI 7)), (0, .ref (B + 23)), (1, .ref (B + ru)), (2, .ref (B + a))]) hx hb wdX1_passOverTones_42 hl (by decide) rfl (fun ls hl => ?_)
      refine lv_iload hx hb wdX1_passOverTones_44 (lv_at hl 1 rfl) ?_
      refine z_if_eq (tgt := 56) hx hb (by omega) wdX1_passOverTones_46 (by decide) (fun c8 => ?_) (fun c8 => ?_)
      · refine lv_iconst (v := zI 0) hx hb wdX1_passOverTones_56 rfl ?_
        refine r_val (v := zI t0) (congrArg zI (by omega)) ?_
        refine lv_istore (lv' := [(8, .int (zI t0)), (7, .int (zI ((o.1 : Nat) : Int))), (6, .int (zI (x : Int))), (5, .int (zI (y : Int))), (4, .int (zI (n9 : Int))), (3, .int (zI 7)), (0, .ref (B + 23)), (1, .ref (B + ru)), (2, .ref (B + a))]) hx hb wdX1_passOverTones_57 hl (by decide) rfl (fun ls hl => ?_)
        refine lv_iconst (v := zI 0) hx hb wdX1_passOverTones_59 rfl ?_
        refine lv_istore (lv' := [(9, .int (zI 0)), (8, .int (zI t0)), (7, .int (zI ((o.1 : Nat) : Int))), (6, .int (zI (x : Int))), (5, .int (zI (y : Int))), (4, .int (zI (n9 : Int))), (3, .int (zI 7)), (0, .ref (B + 23)), (1, .ref (B + ru)), (2, .ref (B + a))]) hx hb wdX1_passOverTones_60 hl (by decide) rfl (fun ls hl => ?_)
        refine lv_iconst (v := zI 0) hx hb wdX1_passOverTones_62 rfl ?_
        refine lv_istore (lv' := [(10, .int (zI 0)), (9, .int (zI 0)), (8, .int (zI t0)), (7, .int (zI ((o.1 : Nat) : Int))), (6, .int (zI (x : Int))), (5, .int (zI (y : Int))), (4, .int (zI (n9 : Int))), (3, .int (zI 7)), (0, .ref (B + 23)), (1, .ref (B + ru)), (2, .ref (B + a))]) hx hb wdX1_passOverTones_63 hl (by decide) rfl (fun ls hl => ?_)
        have hx01 : x = 0 ∨ x = 1 := by omega
        have hy01 : y = 0 ∨ y = 1 := by omega
        refine lp_X1_over_7  F (Nat.le_of_ble_eq_true rfl) (Nat.le_of_ble_eq_true rfl) (x := x) (y := y) (n9 := n9) hk hku hP hn12 hx01 hy01 hz5 hap hq3 hn9 (fun j tz cc Nm o1 H locs ls x0 x1 x2 x3 w hl => ?_) o.1 0 t0 0 M o (by omega) hC tpI_0 (by omega) Fr3.rf hU (by omega) (by omega) _ _ ls w (lv_sub hl [0, 1, 2, 3, 4, 5, 6, 7, 8, 9, 10] rfl)
        refine lv_iload hx hb wdX1_passOverTones_315 (lv_at hl 0 rfl) ?_
        exact e_i F w hr hlocks ⟨o1, cc, x1, rfl, x0, x2, x3⟩ wdX1_passOverTones_317
      · refine lv_iload hx hb wdX1_passOverTones_49 (lv_at hl 0 rfl) ?_
        refine lv_iconst (v := zI 1) hx hb wdX1_passOverTones_51 rfl ?_
        refine z_isub (z := (((o.1 : Nat) : Int) - 1)) hx hb wdX1_passOverTones_52 (by omega) ?_
        refine lv_goto (tgt := 57) hx hb wdX1_passOverTones_53 (by decide) ?_
        refine r_val (v := zI t0) (congrArg zI (by omega)) ?_
        refine lv_istore (lv' := [(8, .int (zI t0)), (7, .int (zI ((o.1 : Nat) : Int))), (6, .int (zI (x : Int))), (5, .int (zI (y : Int))), (4, .int (zI (n9 : Int))), (3, .int (zI 7)), (0, .ref (B + 23)), (1, .ref (B + ru)), (2, .ref (B + a))]) hx hb wdX1_passOverTones_57 hl (by decide) rfl (fun ls hl => ?_)
        refine lv_iconst (v := zI 0) hx hb wdX1_passOverTones_59 rfl ?_
        refine lv_istore (lv' := [(9, .int (zI 0)), (8, .int (zI t0)), (7, .int (zI ((o.1 : Nat) : Int))), (6, .int (zI (x : Int))), (5, .int (zI (y : Int))), (4, .int (zI (n9 : Int))), (3, .int (zI 7)), (0, .ref (B + 23)), (1, .ref (B + ru)), (2, .ref (B + a))]) hx hb wdX1_passOverTones_60 hl (by decide) rfl (fun ls hl => ?_)
        refine lv_iconst (v := zI 0) hx hb wdX1_passOverTones_62 rfl ?_
        refine lv_istore (lv' := [(10, .int (zI 0)), (9, .int (zI 0)), (8, .int (zI t0)), (7, .int (zI ((o.1 : Nat) : Int))), (6, .int (zI (x : Int))), (5, .int (zI (y : Int))), (4, .int (zI (n9 : Int))), (3, .int (zI 7)), (0, .ref (B + 23)), (1, .ref (B + ru)), (2, .ref (B + a))]) hx hb wdX1_passOverTones_63 hl (by decide) rfl (fun ls hl => ?_)
        have hx01 : x = 0 ∨ x = 1 := by omega
        have hy01 : y = 0 ∨ y = 1 := by omega
        refine lp_X1_over_7  F (Nat.le_of_ble_eq_true rfl) (Nat.le_of_ble_eq_true rfl) (x := x) (y := y) (n9 := n9) hk hku hP hn12 hx01 hy01 hz5 hap hq3 hn9 (fun j tz cc Nm o1 H locs ls x0 x1 x2 x3 w hl => ?_) o.1 0 t0 0 M o (by omega) hC tpI_0 (by omega) Fr3.rf hU (by omega) (by omega) _ _ ls w (lv_sub hl [0, 1, 2, 3, 4, 5, 6, 7, 8, 9, 10] rfl)
        refine lv_iload hx hb wdX1_passOverTones_315 (lv_at hl 0 rfl) ?_
        exact e_i F w hr hlocks ⟨o1, cc, x1, rfl, x0, x2, x3⟩ wdX1_passOverTones_317
    · rw [hMe] at w
      refine r_val (v := zI ((x : Nat) : Int)) (congrArg zI (by omega)) ?_
      refine lv_istore (lv' := [(6, .int (zI (x : Int))), (5, .int (zI (y : Int))), (4, .int (zI (n9 : Int))), (3, .int (zI 7)), (0, .ref (B + 23)), (1, .ref (B + ru)), (2, .ref (B + a))]) hx hb wdX1_passOverTones_36 hl (by decide) rfl (fun ls hl => ?_)
      refine lv_aload_n hx hb wdX1_passOverTones_38 rfl (lv_at hl 6 rfl) ?_
      refine f_9_0 F w (a := a) hk wtb_32 wdX1_passOverTones_39 ?_
      refine r_val (v := (zI ((o.1 : Nat) : Int))) (hW.1) ?_
      refine lv_istore (lv' := [(7, .int (zI ((o.1 : Nat) : Int))), (6, .int (zI (x : Int))), (5, .int (zI (y : Int))), (4, .int (zI (n9 : Int))), (3, .int (zI 7)), (0, .ref (B + 23)), (1, .ref (B + ru)), (2, .ref (B + a))]) hx hb wdX1_passOverTones_42 hl (by decide) rfl (fun ls hl => ?_)
      refine lv_iload hx hb wdX1_passOverTones_44 (lv_at hl 1 rfl) ?_
      refine z_if_eq (tgt := 56) hx hb (by omega) wdX1_passOverTones_46 (by decide) (fun c9 => ?_) (fun c9 => ?_)
      · refine lv_iconst (v := zI 0) hx hb wdX1_passOverTones_56 rfl ?_
        refine r_val (v := zI t0) (congrArg zI (by omega)) ?_
        refine lv_istore (lv' := [(8, .int (zI t0)), (7, .int (zI ((o.1 : Nat) : Int))), (6, .int (zI (x : Int))), (5, .int (zI (y : Int))), (4, .int (zI (n9 : Int))), (3, .int (zI 7)), (0, .ref (B + 23)), (1, .ref (B + ru)), (2, .ref (B + a))]) hx hb wdX1_passOverTones_57 hl (by decide) rfl (fun ls hl => ?_)
        refine lv_iconst (v := zI 0) hx hb wdX1_passOverTones_59 rfl ?_
        refine lv_istore (lv' := [(9, .int (zI 0)), (8, .int (zI t0)), (7, .int (zI ((o.1 : Nat) : Int))), (6, .int (zI (x : Int))), (5, .int (zI (y : Int))), (4, .int (zI (n9 : Int))), (3, .int (zI 7)), (0, .ref (B + 23)), (1, .ref (B + ru)), (2, .ref (B + a))]) hx hb wdX1_passOverTones_60 hl (by decide) rfl (fun ls hl => ?_)
        refine lv_iconst (v := zI 0) hx hb wdX1_passOverTones_62 rfl ?_
        refine lv_istore (lv' := [(10, .int (zI 0)), (9, .int (zI 0)), (8, .int (zI t0)), (7, .int (zI ((o.1 : Nat) : Int))), (6, .int (zI (x : Int))), (5, .int (zI (y : Int))), (4, .int (zI (n9 : Int))), (3, .int (zI 7)), (0, .ref (B + 23)), (1, .ref (B + ru)), (2, .ref (B + a))]) hx hb wdX1_passOverTones_63 hl (by decide) rfl (fun ls hl => ?_)
        have hx01 : x = 0 ∨ x = 1 := by omega
        have hy01 : y = 0 ∨ y = 1 := by omega
        refine lp_X1_over_7  F (Nat.le_of_ble_eq_true rfl) (Nat.le_of_ble_eq_true rfl) (x := x) (y := y) (n9 := n9) hk hku hP hn12 hx01 hy01 hz5 hap hq3 hn9 (fun j tz cc Nm o1 H locs ls x0 x1 x2 x3 w hl => ?_) o.1 0 t0 0 M o (by omega) hC tpI_0 (by omega) Fr3.rf hU (by omega) (by omega) _ _ ls w (lv_sub hl [0, 1, 2, 3, 4, 5, 6, 7, 8, 9, 10] rfl)
        refine lv_iload hx hb wdX1_passOverTones_315 (lv_at hl 0 rfl) ?_
        exact e_i F w hr hlocks ⟨o1, cc, x1, rfl, x0, x2, x3⟩ wdX1_passOverTones_317
      · refine lv_iload hx hb wdX1_passOverTones_49 (lv_at hl 0 rfl) ?_
        refine lv_iconst (v := zI 1) hx hb wdX1_passOverTones_51 rfl ?_
        refine z_isub (z := (((o.1 : Nat) : Int) - 1)) hx hb wdX1_passOverTones_52 (by omega) ?_
        refine lv_goto (tgt := 57) hx hb wdX1_passOverTones_53 (by decide) ?_
        refine r_val (v := zI t0) (congrArg zI (by omega)) ?_
        refine lv_istore (lv' := [(8, .int (zI t0)), (7, .int (zI ((o.1 : Nat) : Int))), (6, .int (zI (x : Int))), (5, .int (zI (y : Int))), (4, .int (zI (n9 : Int))), (3, .int (zI 7)), (0, .ref (B + 23)), (1, .ref (B + ru)), (2, .ref (B + a))]) hx hb wdX1_passOverTones_57 hl (by decide) rfl (fun ls hl => ?_)
        refine lv_iconst (v := zI 0) hx hb wdX1_passOverTones_59 rfl ?_
        refine lv_istore (lv' := [(9, .int (zI 0)), (8, .int (zI t0)), (7, .int (zI ((o.1 : Nat) : Int))), (6, .int (zI (x : Int))), (5, .int (zI (y : Int))), (4, .int (zI (n9 : Int))), (3, .int (zI 7)), (0, .ref (B + 23)), (1, .ref (B + ru)), (2, .ref (B + a))]) hx hb wdX1_passOverTones_60 hl (by decide) rfl (fun ls hl => ?_)
        refine lv_iconst (v := zI 0) hx hb wdX1_passOverTones_62 rfl ?_
        refine lv_istore (lv' := [(10, .int (zI 0)), (9, .int (zI 0)), (8, .int (zI t0)), (7, .int (zI ((o.1 : Nat) : Int))), (6, .int (zI (x : Int))), (5, .int (zI (y : Int))), (4, .int (zI (n9 : Int))), (3, .int (zI 7)), (0, .ref (B + 23)), (1, .ref (B + ru)), (2, .ref (B + a))]) hx hb wdX1_passOverTones_63 hl (by decide) rfl (fun ls hl => ?_)
        have hx01 : x = 0 ∨ x = 1 := by omega
        have hy01 : y = 0 ∨ y = 1 := by omega
        refine lp_X1_over_7  F (Nat.le_of_ble_eq_true rfl) (Nat.le_of_ble_eq_true rfl) (x := x) (y := y) (n9 := n9) hk hku hP hn12 hx01 hy01 hz5 hap hq3 hn9 (fun j tz cc Nm o1 H locs ls x0 x1 x2 x3 w hl => ?_) o.1 0 t0 0 M o (by omega) hC tpI_0 (by omega) Fr3.rf hU (by omega) (by omega) _ _ ls w (lv_sub hl [0, 1, 2, 3, 4, 5, 6, 7, 8, 9, 10] rfl)
        refine lv_iload hx hb wdX1_passOverTones_315 (lv_at hl 0 rfl) ?_
        exact e_i F w hr hlocks ⟨o1, cc, x1, rfl, x0, x2, x3⟩ wdX1_passOverTones_317
