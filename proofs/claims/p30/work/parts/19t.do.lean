theorem wdX11_does_0 : decode cX11_does 0 = .ok (.aload_n 0, 1) := dq0 kk_42 (by decide +kernel)
theorem wdX11_does_1 : decode cX11_does 1 = .ok (.getfield 35, 3) := dqV kk_180 (by decide +kernel)
theorem wdX11_does_4 : decode cX11_does 4 = .ok (.iload_n 1, 1) := dq0 kk_27 (by decide +kernel)
theorem wdX11_does_5 : decode cX11_does 5 = .ok (.invokevirtual 173, 3) := dqV kk_182 (by decide +kernel)
theorem wtk_X0_hasRule : Cond.code yX0_hasRule cX0_hasRule 2 (some .boolean) ∈ TB := rtk_X0_hasRule
theorem wgc_X0_hasRule : GoodIn TB (cw yX0_hasRule cX0_hasRule 2 (some .boolean)) := goodIn_c2 wtk_X0_hasRule
theorem wtb_258 : Cond.methodLink "ToneLines" 173 yX0_hasRule ∈ TB := rtb_169
theorem wtb_259 : Cond.instanceMethod yX0_hasRule ∈ TB := rtb_170
theorem wtb_260 : Cond.selects "ToneLines$Derivation" yX0_hasRule yX0_hasRule ∈ TB := rtb_171
theorem wgv_X11_173 : GoodIn TB (wsV RX11 173 RX0 yX0_hasRule (cw yX0_hasRule cX0_hasRule 2 (some .boolean))) := goodIn_4 wtb_258 wtb_259 wtb_260 wtb_199 wgc_X0_hasRule
theorem whv_X0_hasRule : yX0_hasRule.cls = RX0 ∧ yX0_hasRule.cls ≠ "java/lang/invoke/MethodHandle" ∧ yX0_hasRule.cls ≠ "java/lang/invoke/VarHandle" ∧ (parseMethodDescriptor yX0_hasRule.desc).map (fun d => d.parameters.length) = some 1 := rhv_X0_hasRule
theorem wdX11_does_8 : decode cX11_does 8 = .ok (.ifCond .ne 5, 3) := dqT kk_154 (by decide +kernel)
theorem wdX11_does_13 : decode cX11_does 13 = .ok (.aload_n 0, 1) := dq0 kk_42 (by decide +kernel)
theorem wdX11_does_14 : decode cX11_does 14 = .ok (.getfield 75, 3) := dqV kk_180 (by decide +kernel)
theorem wtb_261 : Cond.fieldLink "ToneLines" 75 "ToneLines" "draft" "LToneLines$Word;" ∈ TB := tbm (tc2 (List.mem_of_getElem? (i := 66) rfl)) rfl
theorem wdX11_does_17 : decode cX11_does 17 = .ok (.aload_n 0, 1) := dq0 kk_42 (by decide +kernel)
theorem wdX11_does_18 : decode cX11_does 18 = .ok (.getfield 43, 3) := dqV kk_180 (by decide +kernel)
theorem wdX11_does_21 : decode cX11_does 21 = .ok (.invokevirtual 90, 3) := dqV kk_182 (by decide +kernel)
theorem wdX11_does_24 : decode cX11_does 24 = .ok (.aload_n 0, 1) := dq0 kk_42 (by decide +kernel)
theorem wdX11_does_25 : decode cX11_does 25 = .ok (.getfield 35, 3) := dqV kk_180 (by decide +kernel)
theorem wdX11_does_28 : decode cX11_does 28 = .ok (.getfield 176, 3) := dqV kk_180 (by decide +kernel)
theorem wtb_262 : Cond.fieldLink "ToneLines" 176 "ToneLines$Derivation" "doer" "LToneLines$Doer;" ∈ TB := tbm (tc1 (List.mem_of_getElem? (i := 165) rfl)) rfl
theorem wdX11_does_31 : decode cX11_does 31 = .ok (.aload_n 0, 1) := dq0 kk_42 (by decide +kernel)
theorem wdX11_does_32 : decode cX11_does 32 = .ok (.getfield 35, 3) := dqV kk_180 (by decide +kernel)
theorem wdX11_does_35 : decode cX11_does 35 = .ok (.getfield 180, 3) := dqV kk_180 (by decide +kernel)
theorem wtb_263 : Cond.fieldLink "ToneLines" 180 "ToneLines$Derivation" "list" "[LToneLines$Rule;" ∈ TB := rtb_172
theorem wdX11_does_38 : decode cX11_does 38 = .ok (.iload_n 1, 1) := dq0 kk_27 (by decide +kernel)
theorem wdX11_does_39 : decode cX11_does 39 = .ok (.aaload, 1) := dq0 kk_50 (by decide +kernel)
theorem wdX11_does_40 : decode cX11_does 40 = .ok (.aload_n 0, 1) := dq0 kk_42 (by decide +kernel)
theorem wdX11_does_41 : decode cX11_does 41 = .ok (.getfield 75, 3) := dqV kk_180 (by decide +kernel)
theorem wdX11_does_44 : decode cX11_does 44 = .ok (.invokevirtual 183, 3) := dqV kk_182 (by decide +kernel)
theorem wtb_264 : Cond.methodLink "ToneLines" 183 yX1_perform ∈ TB := tbm (tc3 (List.mem_of_getElem? (i := 212) rfl)) rfl
theorem wgv_X11_183 : GoodIn TB (wsV RX11 183 RX1 yX1_perform (cw yX1_perform cX1_perform 6 (some .int))) := goodIn_4 wtb_264 wtb_192 wtb_193 wtb_52 wgc_X1_perform
theorem wdX11_does_47 : decode cX11_does 47 = .ok (.istore_n 2, 1) := dq0 kk_61 (by decide +kernel)
theorem wdX11_does_48 : decode cX11_does 48 = .ok (.aload_n 0, 1) := dq0 kk_42 (by decide +kernel)
theorem wdX11_does_49 : decode cX11_does 49 = .ok (.aload_n 0, 1) := dq0 kk_42 (by decide +kernel)
theorem wdX11_does_50 : decode cX11_does 50 = .ok (.getfield 75, 3) := dqV kk_180 (by decide +kernel)
theorem wdX11_does_53 : decode cX11_does 53 = .ok (.iload_n 2, 1) := dq0 kk_28 (by decide +kernel)
theorem wdX11_does_54 : decode cX11_does 54 = .ok (.invokevirtual 189, 3) := dqV kk_182 (by decide +kernel)
theorem wtk_X11_becomes : Cond.code yX11_becomes cX11_becomes 3 none ∈ TB := tbm (tc4 (List.mem_of_getElem? (i := 93) rfl)) rfl
theorem wgc_X11_becomes : GoodIn TB (cw yX11_becomes cX11_becomes 3 none) := goodIn_c2 wtk_X11_becomes
theorem wtb_265 : Cond.methodLink "ToneLines" 189 yX11_becomes ∈ TB := tbm (tc4 (List.mem_of_getElem? (i := 90) rfl)) rfl
theorem wtb_266 : Cond.instanceMethod yX11_becomes ∈ TB := tbm (tc4 (List.mem_of_getElem? (i := 92) rfl)) rfl
theorem wtb_267 : Cond.selects "ToneLines" yX11_becomes yX11_becomes ∈ TB := tbp (List.mem_of_getElem? (i := 29) rfl) rfl
theorem wgv_X11_189 : GoodIn TB (wsV RX11 189 RX11 yX11_becomes (cw yX11_becomes cX11_becomes 3 none)) := goodIn_4 wtb_265 wtb_266 wtb_267 wtb_5 wgc_X11_becomes
theorem whv_X11_becomes : yX11_becomes.cls = RX11 ∧ yX11_becomes.cls ≠ "java/lang/invoke/MethodHandle" ∧ yX11_becomes.cls ≠ "java/lang/invoke/VarHandle" ∧ (parseMethodDescriptor yX11_becomes.desc).map (fun d => d.parameters.length) = some 2 := by decide +kernel
theorem wdX11_does_57 : decode cX11_does 57 = .ok (.iload_n 2, 1) := dq0 kk_28 (by decide +kernel)
theorem wdX11_does_58 : decode cX11_does 58 = .ok (.ireturn, 1) := dq0 kk_172 (by decide +kernel)
theorem wdX11_does_11 : decode cX11_does 11 = .ok (.iconst (-1), 1) := dq0 kk_2 (by decide +kernel)
theorem wdX11_does_12 : decode cX11_does 12 = .ok (.ireturn, 1) := dq0 kk_172 (by decide +kernel)
set_option maxRecDepth 4000 in
theorem g_does {l : Launch} {D : va_G} {B : Nat} {cy : Nat → ClassId} {M : Mem} {Ps : Nat → Nat → Int} {mr rd k q hv ed : Nat} {o : Wo} {Hs : Nat → Fw} (hS : CS M Ps mr (q, hv, ed, o) rd Hs k) {r9 : Int} (hr9 : rg r9) : Ci l D B cy yX11_does cX11_does 3 (some .int) 5 133 [.ref (B + 0), .int (zI r9)] M (fun r M1 => (∃ (rn : Nat) (o2 : Wo) (dd pp : Nat), r9 = (rn : Int) ∧ rn < mr ∧ pfF (Ps rn) q hv ed 20 o = (o2, dd, pp) ∧ r = zI ((dd : Nat) : Int) ∧ dd ≤ 37680 ∧ ((0 < dd ∧ CS M1 Ps mr (q, hv, ed, o2) 0 (phH Hs k (q, hv, ed, o)) (phK k)) ∨ (dd = 0 ∧ CS M1 Ps mr (q, hv, ed, o) rd Hs k)) ∧ FA M1 M) ∨ (¬ (0 ≤ r9 ∧ r9 < (mr : Int)) ∧ r = zI (-1) ∧ M1 = M)) := by
  refine s_any (by decide) (Nat.le_of_ble_eq_true rfl) ?_
  intro p e s m below meth c ls F hr hlocks w hl
  have F : CallFix p m c cX11_does 3 s _ TB RX11 := F
  have hx := F.1
  have hb := F.2.1
  have hl : lv_has ls 3 [(0, .ref (B + 0)), (1, .int (zI r9))] := hl
  have hm8 := hS.1.2.1
  have hC : CW M 44 q hv ed o := hS.t
  have hW : isW M 44 o.1 q hv ed o.2.1 o.2.2 := hC.1
  have hwf := hC.wf
  have hKL := hwf.2.2.2.2
  have hn12 := hwf.1
  have hq12 := hwf.2.1
  have hhv := hwf.2.2.1
  have hed := hwf.2.2.2.1
  refine lv_aload_n hx hb wdX11_does_0 rfl (lv_at hl 0 rfl) ?_
  refine f_11_3 F w (a := 0) rfl wtb_207 wdX11_does_1 ?_
  refine lv_iload_n hx hb wdX11_does_4 rfl (lv_at hl 1 rfl) ?_
  refine k_Vi F w (As := [.int (zI r9)]) (rest := []) (a := 22) (kd_lt (a := 22) (show kd 22 = (0, 0, 0) from rfl) (by decide)) (sh_0 rfl _ _) rfl (g_hasRule hS (n9 := r9) (by omega)) wgv_X11_173 whv_X0_hasRule ⟨(Nat.le_of_ble_eq_true rfl), (Nat.le_of_ble_eq_true rfl)⟩ hl.1 rfl (Nat.le_of_ble_eq_true rfl) ⟨Nat.zero_le _, Nat.zero_le _⟩ wdX11_does_5 (fun r Ma2 H locs hp w => ?_)
  rcases hp with ⟨⟨hb1, rfl⟩ | ⟨hb1, rfl⟩, hMe⟩
  · rw [hMe] at w
    refine z_if_ne (tgt := 13) hx hb (by omega) wdX11_does_8 (by decide) (fun c3 => ?_) (fun c3 => False.elim (by omega))
    obtain ⟨rn, rfl⟩ : ∃ n9 : Nat, r9 = (n9 : Int) := ⟨Int.toNat r9, by omega⟩
    refine lv_aload_n hx hb wdX11_does_13 rfl (lv_at hl 0 rfl) ?_
    refine f_11_9 F w (a := 0) rfl wtb_261 wdX11_does_14 ?_
    refine lv_aload_n hx hb wdX11_does_17 rfl (lv_at hl 0 rfl) ?_
    refine f_11_4 F w (a := 0) rfl wtb_214 wdX11_does_18 ?_
    refine k_Vv F w (As := [.ref (B + 44)]) (rest := []) (a := 143) (kd_lt (a := 143) (show kd 143 = (9, 0, 0) from rfl) (by decide)) (sh_9 rfl _ _) rfl (s_X9_copyFrom (a := 143) rfl (b := 44) rfl hW (by omega) (by omega)) wgv_X11_90 whv_X9_copyFrom ⟨(Nat.le_of_ble_eq_true rfl), (Nat.le_of_ble_eq_true rfl)⟩ hl.1 rfl (Nat.le_of_ble_eq_true rfl) ⟨Nat.zero_le _, Nat.zero_le _⟩ wdX11_does_21 (fun Ma4 H locs hp w => ?_)
    rcases hp with ⟨hW2, hF2⟩
    have hC2 : CW Ma4 143 q hv ed o := ⟨hW2, hC.2⟩
    refine lv_aload_n hx hb wdX11_does_24 rfl (lv_at hl 0 rfl) ?_
    refine f_11_3 F w (a := 0) rfl wtb_207 wdX11_does_25 ?_
    refine f_0_0 F w (a := 22) rfl wtb_262 wdX11_does_28 ?_
    refine lv_aload_n hx hb wdX11_does_31 rfl (lv_at hl 0 rfl) ?_
    refine f_11_3 F w (a := 0) rfl wtb_207 wdX11_does_32 ?_
    refine f_0_1 F w (a := 22) rfl wtb_263 wdX11_does_35 ?_
    refine lv_iload_n hx hb wdX11_does_38 rfl (lv_at hl 1 rfl) ?_
    refine g_aldR F w (a := 24) rfl (j := rn) (o := (28 + 2 * rn)) rfl (ix_n (by omega)) (by omega) wdX11_does_39 ?_
    refine lv_aload_n hx hb wdX11_does_40 rfl (lv_at hl 0 rfl) ?_
    refine f_11_9 F w (a := 0) rfl wtb_261 wdX11_does_41 ?_
    refine k_Vi F w (As := [.ref (B + (28 + 2 * rn)), .ref (B + 143)]) (rest := []) (a := 23) (kd_lt (a := 23) (show kd 23 = (1, 0, 0) from rfl) (by decide)) (sh_1 rfl _ _) rfl (s_X1_perform (a := 143) rfl hC2 (ru := 28 + 2 * rn) (kd_lst (by omega)) ((hS.1.2.2 rn (by omega)).1.fr (hF2.1 _ (by omega) (by omega) (by omega))) (hS.1.2.2 rn (by omega)).2) wgv_X11_183 whv_X1_perform ⟨(Nat.le_of_ble_eq_true rfl), (Nat.le_of_ble_eq_true rfl)⟩ hl.1 rfl (Nat.le_of_ble_eq_true rfl) ⟨Nat.zero_le _, Nat.zero_le _⟩ wdX11_does_44 (fun r Ma5 H locs hp w => ?_)
    rcases hp with ⟨o2, dd, pp, e2, rfl, hC3, hF3, hpp, hdd, hp20⟩
    have hS3 : CS Ma5 Ps mr (q, hv, ed, o) rd Hs k := hS.fr ((hF3.1 22 (by decide) (by decide) (by decide) (by decide)).trans (hF2.1 22 (by decide) (by decide) (by decide))) (fun b a1 a2 => (hF3.1 b (by omega) (by omega) (by omega) (by omega)).trans (hF2.1 b (by omega) (by omega) (by omega)))
    refine lv_istore_n (lv' := [(2, .int (zI (dd : Int))), (0, .ref (B + 0)), (1, .int (zI (rn : Int)))]) hx hb wdX11_does_47 rfl hl (by decide) rfl (fun ls hl => ?_)
    refine lv_aload_n hx hb wdX11_does_48 rfl (lv_at hl 1 rfl) ?_
    refine lv_aload_n hx hb wdX11_does_49 rfl (lv_at hl 1 rfl) ?_
    refine f_11_9 F w (a := 0) rfl wtb_261 wdX11_does_50 ?_
    refine lv_iload_n hx hb wdX11_does_53 rfl (lv_at hl 0 rfl) ?_
    refine k_Vv F w (As := [.ref (B + 143), .int (zI (dd : Int))]) (rest := []) (a := 0) (kd_lt (a := 0) (show kd 0 = (11, 0, 0) from rfl) (by decide)) (sh_11 rfl _ _) rfl (g_becomes hS3 (a := 143) (cc := dd) (y := (q, hv, ed, o2)) rfl hC3 (by omega) (by omega)) wgv_X11_189 whv_X11_becomes ⟨(Nat.le_of_ble_eq_true rfl), (Nat.le_of_ble_eq_true rfl)⟩ hl.1 rfl (Nat.le_of_ble_eq_true rfl) ⟨Nat.zero_le _, Nat.zero_le _⟩ wdX11_does_54 (fun Ma6 H locs hp w => ?_)
    rcases hp with ⟨hd0, hS4, hA4⟩ | ⟨hd0, hMe⟩
    · refine lv_iload_n hx hb wdX11_does_57 rfl (lv_at hl 0 rfl) ?_
      exact e_i F w hr hlocks (Or.inl ⟨rn, o2, dd, pp, rfl, by omega, e2, rfl, hdd, Or.inl ⟨hd0, hS4⟩, FA.tr (FA.tr (FA.f3 hF2 (by decide)) (FA.f4 hF3 (by decide))) hA4⟩) wdX11_does_58
    · rw [hMe] at w
      refine lv_iload_n hx hb wdX11_does_57 rfl (lv_at hl 0 rfl) ?_
      exact e_i F w hr hlocks (Or.inl ⟨rn, o2, dd, pp, rfl, by omega, e2, rfl, hdd, Or.inr ⟨hd0, hS3⟩, FA.tr (FA.f3 hF2 (by decide)) (FA.f4 hF3 (by decide))⟩) wdX11_does_58
  · rw [hMe] at w
    refine z_if_ne (tgt := 13) hx hb (by omega) wdX11_does_8 (by decide) (fun c7 => False.elim (by omega)) (fun c7 => ?_)
    refine lv_iconst (v := zI (-1)) hx hb wdX11_does_11 rfl ?_
    exact e_i F w hr hlocks (Or.inr ⟨by omega, rfl, rfl⟩) wdX11_does_12
theorem wdX11_derive_0 : decode cX11_derive 0 = .ok (.aload_n 0, 1) := dq0 kk_42 (by decide +kernel)
theorem wdX11_derive_1 : decode cX11_derive 1 = .ok (.getfield 35, 3) := dqV kk_180 (by decide +kernel)
theorem wdX11_derive_4 : decode cX11_derive 4 = .ok (.iload_n 1, 1) := dq0 kk_27 (by decide +kernel)
theorem wdX11_derive_5 : decode cX11_derive 5 = .ok (.invokevirtual 193, 3) := dqV kk_182 (by decide +kernel)
theorem wtb_268 : Cond.methodLink "ToneLines" 193 yX0_covers ∈ TB := tbm (tc4 (List.mem_of_getElem? (i := 98) rfl)) rfl
theorem wgv_X11_193 : GoodIn TB (wsV RX11 193 RX0 yX0_covers (cw yX0_covers cX0_covers 2 (some .boolean))) := goodIn_4 wtb_268 wtb_197 wtb_198 wtb_199 wgc_X0_covers
theorem wdX11_derive_8 : decode cX11_derive 8 = .ok (.ifCond .ne 5, 3) := dqT kk_154 (by decide +kernel)
theorem wdX11_derive_13 : decode cX11_derive 13 = .ok (.aload_n 0, 1) := dq0 kk_42 (by decide +kernel)
theorem wdX11_derive_14 : decode cX11_derive 14 = .ok (.getfield 35, 3) := dqV kk_180 (by decide +kernel)
theorem wdX11_derive_17 : decode cX11_derive 17 = .ok (.iload_n 1, 1) := dq0 kk_27 (by decide +kernel)
theorem wdX11_derive_18 : decode cX11_derive 18 = .ok (.invokevirtual 196, 3) := dqV kk_182 (by decide +kernel)
theorem wtk_X0_stageOf : Cond.code yX0_stageOf cX0_stageOf 3 (some (.object "ToneLines$Word")) ∈ TB := tbm (tc4 (List.mem_of_getElem? (i := 105) rfl)) rfl
theorem wgc_X0_stageOf : GoodIn TB (cw yX0_stageOf cX0_stageOf 3 (some (.object "ToneLines$Word"))) := goodIn_c2 wtk_X0_stageOf
theorem wtb_269 : Cond.methodLink "ToneLines" 196 yX0_stageOf ∈ TB := tbm (tc4 (List.mem_of_getElem? (i := 102) rfl)) rfl
theorem wtb_270 : Cond.instanceMethod yX0_stageOf ∈ TB := tbm (tc4 (List.mem_of_getElem? (i := 103) rfl)) rfl
theorem wtb_271 : Cond.selects "ToneLines$Derivation" yX0_stageOf yX0_stageOf ∈ TB := tbm (tc4 (List.mem_of_getElem? (i := 104) rfl)) rfl
theorem wgv_X11_196 : GoodIn TB (wsV RX11 196 RX0 yX0_stageOf (cw yX0_stageOf cX0_stageOf 3 (some (.object "ToneLines$Word")))) := goodIn_4 wtb_269 wtb_270 wtb_271 wtb_199 wgc_X0_stageOf
theorem whv_X0_stageOf : yX0_stageOf.cls = RX0 ∧ yX0_stageOf.cls ≠ "java/lang/invoke/MethodHandle" ∧ yX0_stageOf.cls ≠ "java/lang/invoke/VarHandle" ∧ (parseMethodDescriptor yX0_stageOf.desc).map (fun d => d.parameters.length) = some 1 := by decide +kernel
theorem wdX11_derive_21 : decode cX11_derive 21 = .ok (.astore_n 2, 1) := dq0 kk_77 (by decide +kernel)
theorem wdX11_derive_22 : decode cX11_derive 22 = .ok (.aload_n 0, 1) := dq0 kk_42 (by decide +kernel)
theorem wdX11_derive_23 : decode cX11_derive 23 = .ok (.getfield 35, 3) := dqV kk_180 (by decide +kernel)
theorem wdX11_derive_26 : decode cX11_derive 26 = .ok (.iload_n 1, 1) := dq0 kk_27 (by decide +kernel)
theorem wdX11_derive_27 : decode cX11_derive 27 = .ok (.invokevirtual 200, 3) := dqV kk_182 (by decide +kernel)
theorem wtk_X0_changesUpTo : Cond.code yX0_changesUpTo cX0_changesUpTo 4 (some .int) ∈ TB := tbm (tc4 (List.mem_of_getElem? (i := 112) rfl)) rfl
theorem wgc_X0_changesUpTo : GoodIn TB (cw yX0_changesUpTo cX0_changesUpTo 4 (some .int)) := goodIn_c2 wtk_X0_changesUpTo
theorem wtb_272 : Cond.methodLink "ToneLines" 200 yX0_changesUpTo ∈ TB := tbm (tc4 (List.mem_of_getElem? (i := 109) rfl)) rfl
theorem wtb_273 : Cond.instanceMethod yX0_changesUpTo ∈ TB := tbm (tc4 (List.mem_of_getElem? (i := 110) rfl)) rfl
theorem wtb_274 : Cond.selects "ToneLines$Derivation" yX0_changesUpTo yX0_changesUpTo ∈ TB := tbm (tc4 (List.mem_of_getElem? (i := 111) rfl)) rfl
theorem wgv_X11_200 : GoodIn TB (wsV RX11 200 RX0 yX0_changesUpTo (cw yX0_changesUpTo cX0_changesUpTo 4 (some .int))) := goodIn_4 wtb_272 wtb_273 wtb_274 wtb_199 wgc_X0_changesUpTo
theorem whv_X0_changesUpTo : yX0_changesUpTo.cls = RX0 ∧ yX0_changesUpTo.cls ≠ "java/lang/invoke/MethodHandle" ∧ yX0_changesUpTo.cls ≠ "java/lang/invoke/VarHandle" ∧ (parseMethodDescriptor yX0_changesUpTo.desc).map (fun d => d.parameters.length) = some 1 := by decide +kernel
theorem wdX11_derive_30 : decode cX11_derive 30 = .ok (.istore_n 3, 1) := dq0 kk_62 (by decide +kernel)
theorem wdX11_derive_31 : decode cX11_derive 31 = .ok (.aload_n 0, 1) := dq0 kk_42 (by decide +kernel)
theorem wdX11_derive_32 : decode cX11_derive 32 = .ok (.aload_n 2, 1) := dq0 kk_44 (by decide +kernel)
theorem wdX11_derive_33 : decode cX11_derive 33 = .ok (.iload_n 3, 1) := dq0 kk_29 (by decide +kernel)
theorem wdX11_derive_34 : decode cX11_derive 34 = .ok (.invokevirtual 189, 3) := dqV kk_182 (by decide +kernel)
theorem wdX11_derive_37 : decode cX11_derive 37 = .ok (.iload_n 3, 1) := dq0 kk_29 (by decide +kernel)
theorem wdX11_derive_38 : decode cX11_derive 38 = .ok (.ireturn, 1) := dq0 kk_172 (by decide +kernel)
theorem wdX11_derive_11 : decode cX11_derive 11 = .ok (.iconst (-1), 1) := dq0 kk_2 (by decide +kernel)
theorem wdX11_derive_12 : decode cX11_derive 12 = .ok (.ireturn, 1) := dq0 kk_172 (by decide +kernel)
set_option maxRecDepth 4000 in
theorem g_derive {l : Launch} {D : va_G} {B : Nat} {cy : Nat → ClassId} {M : Mem} {Ps : Nat → Nat → Int} {mr rd k q hv ed : Nat} {o : Wo} {Hs : Nat → Fw} (hS : CS M Ps mr (q, hv, ed, o) rd Hs k) {r9 : Int} (hr9 : rg r9) : Ci l D B cy yX11_derive cX11_derive 4 (some .int) 6 155 [.ref (B + 0), .int (zI r9)] M (fun r M1 => (∃ (nn : Nat), r9 = (nn : Int) ∧ nn ≤ mr ∧ r = zI ((dv2 Ps (q, hv, ed, o) nn : Nat) : Int) ∧ dv2 Ps (q, hv, ed, o) nn ≤ 400000 ∧ ((0 < dv2 Ps (q, hv, ed, o) nn ∧ CS M1 Ps mr (q, hv, ed, sg9 Ps (q, hv, ed, o) nn) 0 (phH Hs k (q, hv, ed, o)) (phK k)) ∨ (dv2 Ps (q, hv, ed, o) nn = 0 ∧ ∃ rd1, CS M1 Ps mr (q, hv, ed, o) rd1 Hs k)) ∧ FA M1 M) ∨ (¬ (0 ≤ r9 ∧ r9 ≤ (mr : Int)) ∧ r = zI (-1) ∧ M1 = M)) := by
  refine s_any (by decide) (Nat.le_of_ble_eq_true rfl) ?_
  intro p e s m below meth c ls F hr hlocks w hl
  have F : CallFix p m c cX11_derive 4 s _ TB RX11 := F
  have hx := F.1
  have hb := F.2.1
  have hl : lv_has ls 4 [(0, .ref (B + 0)), (1, .int (zI r9))] := hl
  have hm8 := hS.1.2.1
  have hC : CW M 44 q hv ed o := hS.t
  have hW : isW M 44 o.1 q hv ed o.2.1 o.2.2 := hC.1
  have hwf := hC.wf
  have hKL := hwf.2.2.2.2
  have hn12 := hwf.1
  have hq12 := hwf.2.1
  have hhv := hwf.2.2.1
  have hed := hwf.2.2.2.1
  refine lv_aload_n hx hb wdX11_derive_0 rfl (lv_at hl 0 rfl) ?_
  refine f_11_3 F w (a := 0) rfl wtb_207 wdX11_derive_1 ?_
  refine lv_iload_n hx hb wdX11_derive_4 rfl (lv_at hl 1 rfl) ?_
  refine k_Vi F w (As := [.int (zI r9)]) (rest := []) (a := 22) (kd_lt (a := 22) (show kd 22 = (0, 0, 0) from rfl) (by decide)) (sh_0 rfl _ _) rfl (g_covers hS (n9 := r9) (by omega)) wgv_X11_193 whv_X0_covers ⟨(Nat.le_of_ble_eq_true rfl), (Nat.le_of_ble_eq_true rfl)⟩ hl.1 rfl (Nat.le_of_ble_eq_true rfl) ⟨Nat.zero_le _, Nat.zero_le _⟩ wdX11_derive_5 (fun r Ma2 H locs hp w => ?_)
  rcases hp with ⟨⟨hb1, rfl⟩ | ⟨hb1, rfl⟩, hMe⟩
  · rw [hMe] at w
    refine z_if_ne (tgt := 13) hx hb (by omega) wdX11_derive_8 (by decide) (fun c3 => ?_) (fun c3 => False.elim (by omega))
    obtain ⟨nn, rfl⟩ : ∃ n9 : Nat, r9 = (n9 : Int) := ⟨Int.toNat r9, by omega⟩
    refine lv_aload_n hx hb wdX11_derive_13 rfl (lv_at hl 0 rfl) ?_
    refine f_11_3 F w (a := 0) rfl wtb_207 wdX11_derive_14 ?_
    refine lv_iload_n hx hb wdX11_derive_17 rfl (lv_at hl 1 rfl) ?_
    refine k_Vr F w (As := [.int (zI (nn : Int))]) (rest := []) (a := 22) (kd_lt (a := 22) (show kd 22 = (0, 0, 0) from rfl) (by decide)) (sh_0 rfl _ _) rfl (g_stageOf hS (n9 := nn) (by omega)) wgv_X11_196 whv_X0_stageOf ⟨(Nat.le_of_ble_eq_true rfl), (Nat.le_of_ble_eq_true rfl)⟩ hl.1 rfl (Nat.le_of_ble_eq_true rfl) ⟨Nat.zero_le _, Nat.zero_le _⟩ wdX11_derive_18 (fun r Ma4 H locs hp w => ?_)
    rcases hp with ⟨rfl, rd1, hr1, hr2, hS3, hF3⟩
    have hr3 := hS3.2.1.2.1
    refine lv_astore_n (lv' := [(2, .ref (B + (44 + 3 * nn))), (0, .ref (B + 0)), (1, .int (zI (nn : Int)))]) hx hb wdX11_derive_21 rfl hl (by decide) rfl (fun ls hl => ?_)
    refine lv_aload_n hx hb wdX11_derive_22 rfl (lv_at hl 1 rfl) ?_
    refine f_11_3 F w (a := 0) rfl wtb_207 wdX11_derive_23 ?_
    refine lv_iload_n hx hb wdX11_derive_26 rfl (lv_at hl 2 rfl) ?_
    refine x_Vi F w (As := [.int (zI (nn : Int))]) (rest := []) (a := 22) (kd_lt (a := 22) (show kd 22 = (0, 0, 0) from rfl) (by decide)) (sh_0 rfl _ _) rfl (g_changesUpTo hS3 (n9 := nn) hr1) wgv_X11_200 whv_X0_changesUpTo ⟨(Nat.le_of_ble_eq_true rfl), (Nat.le_of_ble_eq_true rfl)⟩ hl.1 rfl (Nat.le_of_ble_eq_true rfl) ⟨Nat.zero_le _, Nat.zero_le _⟩ wdX11_derive_27 (fun H locs w => ?_)
    have hdl := dv2_le hS3.2.1 nn hr1
    refine lv_istore_n (lv' := [(3, .int (zI (((dv2 Ps (q, hv, ed, o) nn) : Nat) : Int))), (2, .ref (B + (44 + 3 * nn))), (0, .ref (B + 0)), (1, .int (zI (nn : Int)))]) hx hb wdX11_derive_30 rfl hl (by decide) rfl (fun ls hl => ?_)
    refine lv_aload_n hx hb wdX11_derive_31 rfl (lv_at hl 2 rfl) ?_
    refine lv_aload_n hx hb wdX11_derive_32 rfl (lv_at hl 1 rfl) ?_
    refine lv_iload_n hx hb wdX11_derive_33 rfl (lv_at hl 0 rfl) ?_
    refine k_Vv F w (As := [.ref (B + (44 + 3 * nn)), .int (zI (((dv2 Ps (q, hv, ed, o) nn) : Nat) : Int))]) (rest := []) (a := 0) (kd_lt (a := 0) (show kd 0 = (11, 0, 0) from rfl) (by decide)) (sh_11 rfl _ _) rfl (g_becomes hS3 (a := 44 + 3 * nn) (cc := dv2 Ps (q, hv, ed, o) nn) (y := (q, hv, ed, sg9 Ps (q, hv, ed, o) nn)) (kd_sg (by omega)) (hS3.2.1.2.2.1 nn hr1) (by rcases Nat.eq_zero_or_pos nn with h9 | h9; (subst h9; exact Or.inr (Or.inr rfl)); exact Or.inl (by omega)) (by omega)) wgv_X11_189 whv_X11_becomes ⟨(Nat.le_of_ble_eq_true rfl), (Nat.le_of_ble_eq_true rfl)⟩ hl.1 rfl (Nat.le_of_ble_eq_true rfl) ⟨Nat.zero_le _, Nat.zero_le _⟩ wdX11_derive_34 (fun Ma6 H locs hp w => ?_)
    rcases hp with ⟨hd0, hS4, hA4⟩ | ⟨hd0, hMe⟩
    · refine lv_iload_n hx hb wdX11_derive_37 rfl (lv_at hl 0 rfl) ?_
      exact e_i F w hr hlocks (Or.inl ⟨nn, rfl, by omega, rfl, by omega, Or.inl ⟨hd0, hS4⟩, FA.tr (FA.fs hF3) hA4⟩) wdX11_derive_38
    · rw [hMe] at w
      refine lv_iload_n hx hb wdX11_derive_37 rfl (lv_at hl 0 rfl) ?_
      exact e_i F w hr hlocks (Or.inl ⟨nn, rfl, by omega, rfl, by omega, Or.inr ⟨hd0, rd1, hS3⟩, FA.fs hF3⟩) wdX11_derive_38
  · rw [hMe] at w
    refine z_if_ne (tgt := 13) hx hb (by omega) wdX11_derive_8 (by decide) (fun c7 => False.elim (by omega)) (fun c7 => ?_)
    refine lv_iconst (v := zI (-1)) hx hb wdX11_derive_11 rfl ?_
    exact e_i F w hr hlocks (Or.inr ⟨by omega, rfl, rfl⟩) wdX11_derive_12
theorem wdX11_undo_0 : decode cX11_undo 0 = .ok (.aload_n 0, 1) := dq0 kk_42 (by decide +kernel)
theorem wdX11_undo_1 : decode cX11_undo 1 = .ok (.getfield 47, 3) := dqV kk_180 (by decide +kernel)
theorem wdX11_undo_4 : decode cX11_undo 4 = .ok (.getfield 94, 3) := dqV kk_180 (by decide +kernel)
theorem wtb_275 : Cond.fieldLink "ToneLines" 94 "ToneLines$History" "acts" "I" ∈ TB := tbm (tc1 (List.mem_of_getElem? (i := 213) rfl)) rfl
theorem wdX11_undo_7 : decode cX11_undo 7 = .ok (.ifCond .gt 5, 3) := dqT kk_157 (by decide +kernel)
theorem wdX11_undo_12 : decode cX11_undo 12 = .ok (.aload_n 0, 1) := dq0 kk_42 (by decide +kernel)
theorem wdX11_undo_13 : decode cX11_undo 13 = .ok (.getfield 47, 3) := dqV kk_180 (by decide +kernel)
theorem wdX11_undo_16 : decode cX11_undo 16 = .ok (.aload_n 0, 1) := dq0 kk_42 (by decide +kernel)
theorem wdX11_undo_17 : decode cX11_undo 17 = .ok (.getfield 43, 3) := dqV kk_180 (by decide +kernel)
theorem wdX11_undo_20 : decode cX11_undo 20 = .ok (.invokevirtual 204, 3) := dqV kk_182 (by decide +kernel)
theorem wtk_X2_giveBack : Cond.code yX2_giveBack cX2_giveBack 2 none ∈ TB := tbm (tc4 (List.mem_of_getElem? (i := 120) rfl)) rfl
theorem wgc_X2_giveBack : GoodIn TB (cw yX2_giveBack cX2_giveBack 2 none) := goodIn_c2 wtk_X2_giveBack
theorem wtb_276 : Cond.methodLink "ToneLines" 204 yX2_giveBack ∈ TB := tbm (tc4 (List.mem_of_getElem? (i := 117) rfl)) rfl
theorem wtb_277 : Cond.instanceMethod yX2_giveBack ∈ TB := tbm (tc4 (List.mem_of_getElem? (i := 118) rfl)) rfl
theorem wtb_278 : Cond.selects "ToneLines$History" yX2_giveBack yX2_giveBack ∈ TB := tbm (tc4 (List.mem_of_getElem? (i := 119) rfl)) rfl
theorem wgv_X11_204 : GoodIn TB (wsV RX11 204 RX2 yX2_giveBack (cw yX2_giveBack cX2_giveBack 2 none)) := goodIn_4 wtb_276 wtb_277 wtb_278 wtb_218 wgc_X2_giveBack
theorem whv_X2_giveBack : yX2_giveBack.cls = RX2 ∧ yX2_giveBack.cls ≠ "java/lang/invoke/MethodHandle" ∧ yX2_giveBack.cls ≠ "java/lang/invoke/VarHandle" ∧ (parseMethodDescriptor yX2_giveBack.desc).map (fun d => d.parameters.length) = some 1 := by decide +kernel
theorem wdX11_undo_23 : decode cX11_undo 23 = .ok (.aload_n 0, 1) := dq0 kk_42 (by decide +kernel)
theorem wdX11_undo_24 : decode cX11_undo 24 = .ok (.invokevirtual 97, 3) := dqV kk_182 (by decide +kernel)
theorem wdX11_undo_27 : decode cX11_undo 27 = .ok (.aload_n 0, 1) := dq0 kk_42 (by decide +kernel)
theorem wdX11_undo_28 : decode cX11_undo 28 = .ok (.getfield 47, 3) := dqV kk_180 (by decide +kernel)
theorem wdX11_undo_31 : decode cX11_undo 31 = .ok (.getfield 94, 3) := dqV kk_180 (by decide +kernel)
theorem wdX11_undo_34 : decode cX11_undo 34 = .ok (.ireturn, 1) := dq0 kk_172 (by decide +kernel)
theorem wdX11_undo_10 : decode cX11_undo 10 = .ok (.iconst (-1), 1) := dq0 kk_2 (by decide +kernel)
theorem wdX11_undo_11 : decode cX11_undo 11 = .ok (.ireturn, 1) := dq0 kk_172 (by decide +kernel)
set_option maxRecDepth 4000 in
theorem g_undo {l : Launch} {D : va_G} {B : Nat} {cy : Nat → ClassId} {M : Mem} {Ps : Nat → Nat → Int} {mr rd k q hv ed : Nat} {o : Wo} {Hs : Nat → Fw} (hS : CS M Ps mr (q, hv, ed, o) rd Hs k)  : Ci l D B cy yX11_undo cX11_undo 1 (some .int) 3 82 [.ref (B + 0)] M (fun r M1 => (1 ≤ k ∧ r = zI ((k - 1 : Nat) : Int) ∧ CS M1 Ps mr (Hs (k - 1)) 0 Hs (k - 1) ∧ FA M1 M) ∨ (k = 0 ∧ r = zI (-1) ∧ M1 = M)) := by
  refine s_any (by decide) (Nat.le_of_ble_eq_true rfl) ?_
  intro p e s m below meth c ls F hr hlocks w hl
  have F : CallFix p m c cX11_undo 1 s _ TB RX11 := F
  have hx := F.1
  have hb := F.2.1
  have hl : lv_has ls 1 [(0, .ref (B + 0))] := hl
  obtain ⟨nx, hn⟩ := hS.2.2
  have hk12 := hn.2.2.2.1
  refine lv_aload_n hx hb wdX11_undo_0 rfl (lv_at hl 0 rfl) ?_
  refine f_11_5 F w (a := 0) rfl wtb_213 wdX11_undo_1 ?_
  refine f_2_2 F w (a := 71) rfl wtb_275 wdX11_undo_4 ?_
  refine r_val (v := (zI (k : Int))) (hn.2.2.1) ?_
  refine z_if_gt (tgt := 12) hx hb (by omega) wdX11_undo_7 (by decide) (fun c1 => ?_) (fun c1 => ?_)
  · refine lv_aload_n hx hb wdX11_undo_12 rfl (lv_at hl 0 rfl) ?_
    refine f_11_5 F w (a := 0) rfl wtb_213 wdX11_undo_13 ?_
    refine lv_aload_n hx hb wdX11_undo_16 rfl (lv_at hl 0 rfl) ?_
    refine f_11_4 F w (a := 0) rfl wtb_214 wdX11_undo_17 ?_
    refine k_Vv F w (As := [.ref (B + 44)]) (rest := []) (a := 71) (kd_lt (a := 71) (show kd 71 = (2, 0, 0) from rfl) (by decide)) (sh_2 rfl _ _) rfl (g_giveBack hS hn (by omega)) wgv_X11_204 whv_X2_giveBack ⟨(Nat.le_of_ble_eq_true rfl), (Nat.le_of_ble_eq_true rfl)⟩ hl.1 rfl (Nat.le_of_ble_eq_true rfl) ⟨Nat.zero_le _, Nat.zero_le _⟩ wdX11_undo_20 (fun Ma2 H locs hp w => ?_)
    rcases hp with ⟨hC3, ⟨ny, hH3⟩, hF3⟩
    refine lv_aload_n hx hb wdX11_undo_23 rfl (lv_at hl 0 rfl) ?_
    refine x_Vv F w (As := []) (rest := []) (a := 0) (kd_lt (a := 0) (show kd 0 = (11, 0, 0) from rfl) (by decide)) (sh_11 rfl _ _) rfl (g_outdate) wgv_X11_97 whv_X11_outdate ⟨(Nat.le_of_ble_eq_true rfl), (Nat.le_of_ble_eq_true rfl)⟩ hl.1 rfl (Nat.le_of_ble_eq_true rfl) ⟨Nat.zero_le _, Nat.zero_le _⟩ wdX11_undo_24 (fun H locs w => ?_)
    refine lv_aload_n hx hb wdX11_undo_27 rfl (lv_at hl 0 rfl) ?_
    refine f_11_5 F w (a := 0) rfl wtb_213 wdX11_undo_28 ?_
    refine f_2_2 F w (a := 71) rfl wtb_275 wdX11_undo_31 ?_
    refine r_val (v := (zI (((k - 1) : Nat) : Int))) (((congrFun ((st_ob (show 71 ≠ 135 by decide)).trans ((st_ob (show 71 ≠ 109 by decide)).trans (st_ob (show 71 ≠ 22 by decide)))) 2).trans hH3.2.2.1)) ?_
    exact e_i F w hr hlocks (Or.inl ⟨by omega, rfl, hS.undo hC3 hH3 hF3, FA.st (FA.st (FA.st (fun b x => hF3 b (by omega)) (by decide)) (by decide)) (by decide)⟩) wdX11_undo_34
  · refine lv_iconst (v := zI (-1)) hx hb wdX11_undo_10 rfl ?_
    exact e_i F w hr hlocks (Or.inr ⟨by omega, rfl, rfl⟩) wdX11_undo_11
