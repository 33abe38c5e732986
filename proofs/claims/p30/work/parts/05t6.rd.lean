theorem rdX4_copyFrom_0 : decode cX4_copyFrom 0 = .ok (.aload_n 1, 1) := dq0 kk_43 (by decide +kernel)
theorem rdX4_copyFrom_1 : decode cX4_copyFrom 1 = .ok (.getfield 9, 3) := dqV kk_180 (by decide +kernel)
theorem rdX4_copyFrom_4 : decode cX4_copyFrom 4 = .ok (.iconst 0, 1) := dq0 kk_3 (by decide +kernel)
theorem rdX4_copyFrom_5 : decode cX4_copyFrom 5 = .ok (.aload_n 0, 1) := dq0 kk_42 (by decide +kernel)
theorem rdX4_copyFrom_6 : decode cX4_copyFrom 6 = .ok (.getfield 9, 3) := dqV kk_180 (by decide +kernel)
theorem rdX4_copyFrom_9 : decode cX4_copyFrom 9 = .ok (.iconst 0, 1) := dq0 kk_3 (by decide +kernel)
theorem rdX4_copyFrom_10 : decode cX4_copyFrom 10 = .ok (.bipush 8, 2) := dqS kk_16 (by decide +kernel)
theorem rdX4_copyFrom_12 : decode cX4_copyFrom 12 = .ok (.invokestatic 21, 3) := dqV kk_184 (by decide +kernel)
theorem rtb_82 : Cond.methodLink "ToneLines$Rule" 21 arraycopyName ∈ TB := tbm (tc3 (List.mem_of_getElem? (i := 132) rfl)) rfl
theorem rtb_83 : Cond.native arraycopyName ∈ TB := tbm (tc3 (List.mem_of_getElem? (i := 28) rfl)) rfl
theorem rtb_84 : Cond.static arraycopyName ∈ TB := tbm (tc3 (List.mem_of_getElem? (i := 27) rfl)) rfl
theorem rtb_85 : Cond.initialized "java/lang/System" ∈ TB := tbm (tc1 (List.mem_of_getElem? (i := 20) rfl)) rfl
theorem rdX4_copyFrom_15 : decode cX4_copyFrom 15 = .ok (.return_, 1) := dq0 kk_177 (by decide +kernel)
set_option maxRecDepth 4000 in
theorem s_X4_copyFrom {l : Launch} {D : va_G} {B : Nat} {cy : Nat → ClassId} {M : Mem} {ru rb : Nat} (hku : kd ru = (4, 0, 0)) (hkb : kd rb = (4, 0, 0)) {P : Nat → Int} (hU : isU M rb P) : Cv l D B cy yX4_copyFrom cX4_copyFrom 2 1 40 [.ref (B + ru), .ref (B + rb)] M (fun M1 => isU M1 ru P ∧ (∀ a, a ≠ ru + 1 → M1.1 a = M.1 a) ∧ M1.2 = M.2) := by
  refine s_any (by decide) (Nat.le_of_ble_eq_true rfl) ?_
  intro p e s m below meth c ls F hr hlocks w hl
  have F : CallFix p m c cX4_copyFrom 2 s _ TB RX4 := F
  have hx := F.1
  have hb := F.2.1
  have hl : lv_has ls 2 [(0, .ref (B + ru)), (1, .ref (B + rb))] := hl
  refine lv_aload_n hx hb rdX4_copyFrom_0 rfl (lv_at hl 1 rfl) ?_
  refine f_4_0 F w (a := rb) hkb rtb_58 rdX4_copyFrom_1 ?_
  refine lv_iconst (v := zI 0) hx hb rdX4_copyFrom_4 rfl ?_
  refine lv_aload_n hx hb rdX4_copyFrom_5 rfl (lv_at hl 0 rfl) ?_
  refine f_4_0 F w (a := ru) hku rtb_58 rdX4_copyFrom_6 ?_
  refine lv_iconst (v := zI 0) hx hb rdX4_copyFrom_9 rfl ?_
  refine lv_bipush (v := zI 8) hx hb rdX4_copyFrom_10 (by decide) ?_
  refine g_copyi F w (a0 := (rb + 1)) (a1 := (ru + 1)) (kd_r1 hkb) (kd_r1 hku) hl.1 rtb_82 rtb_83 rtb_84 rtb_85 (by decide) (by decide) (by decide) (by decide) (by decide) (Nat.le_of_ble_eq_true rfl) (Nat.le_of_ble_eq_true rfl) rdX4_copyFrom_12 (fun H locs w => ?_)
  exact e_v F w hr hlocks (cpU hU) rdX4_copyFrom_15
theorem rdX0_takeRules_12 : decode cX0_takeRules 12 = .ok (.iload_n 3, 1) := dq0 kk_29 (by decide +kernel)
theorem rdX0_takeRules_13 : decode cX0_takeRules 13 = .ok (.aload_n 0, 1) := dq0 kk_42 (by decide +kernel)
theorem rdX0_takeRules_14 : decode cX0_takeRules 14 = .ok (.getfield 24, 3) := dqV kk_180 (by decide +kernel)
theorem rtb_86 : Cond.fieldLink "ToneLines$Derivation" 24 "ToneLines$Derivation" "size" "I" ∈ TB := tbm (tc1 (List.mem_of_getElem? (i := 170) rfl)) rfl
theorem rdX0_takeRules_17 : decode cX0_takeRules 17 = .ok (.if_icmp .ge 27, 3) := dqT kk_162 (by decide +kernel)
theorem rdX0_takeRules_20 : decode cX0_takeRules 20 = .ok (.iload_n 3, 1) := dq0 kk_29 (by decide +kernel)
theorem rdX0_takeRules_21 : decode cX0_takeRules 21 = .ok (.aload_n 1, 1) := dq0 kk_43 (by decide +kernel)
theorem rdX0_takeRules_22 : decode cX0_takeRules 22 = .ok (.arraylength, 1) := dq0 kk_190 (by decide +kernel)
theorem rdX0_takeRules_23 : decode cX0_takeRules 23 = .ok (.if_icmp .ge 21, 3) := dqT kk_162 (by decide +kernel)
theorem rdX0_takeRules_26 : decode cX0_takeRules 26 = .ok (.aload_n 0, 1) := dq0 kk_42 (by decide +kernel)
theorem rdX0_takeRules_27 : decode cX0_takeRules 27 = .ok (.getfield 20, 3) := dqV kk_180 (by decide +kernel)
theorem rtb_87 : Cond.fieldLink "ToneLines$Derivation" 20 "ToneLines$Derivation" "list" "[LToneLines$Rule;" ∈ TB := tbm (tc1 (List.mem_of_getElem? (i := 166) rfl)) rfl
theorem rdX0_takeRules_30 : decode cX0_takeRules 30 = .ok (.iload_n 3, 1) := dq0 kk_29 (by decide +kernel)
theorem rdX0_takeRules_31 : decode cX0_takeRules 31 = .ok (.aaload, 1) := dq0 kk_50 (by decide +kernel)
theorem rdX0_takeRules_32 : decode cX0_takeRules 32 = .ok (.aload_n 1, 1) := dq0 kk_43 (by decide +kernel)
theorem rdX0_takeRules_33 : decode cX0_takeRules 33 = .ok (.iload_n 3, 1) := dq0 kk_29 (by decide +kernel)
theorem rdX0_takeRules_34 : decode cX0_takeRules 34 = .ok (.aaload, 1) := dq0 kk_50 (by decide +kernel)
theorem rdX0_takeRules_35 : decode cX0_takeRules 35 = .ok (.invokevirtual 56, 3) := dqV kk_182 (by decide +kernel)
theorem rtk_X4_copyFrom : Cond.code yX4_copyFrom cX4_copyFrom 2 none ∈ TB := tbm (tc3 (List.mem_of_getElem? (i := 131) rfl)) rfl
theorem rgc_X4_copyFrom : GoodIn TB (cw yX4_copyFrom cX4_copyFrom 2 none) := goodIn_c2 rtk_X4_copyFrom
theorem rtb_88 : Cond.methodLink "ToneLines$Derivation" 56 yX4_copyFrom ∈ TB := tbm (tc3 (List.mem_of_getElem? (i := 128) rfl)) rfl
theorem rtb_89 : Cond.instanceMethod yX4_copyFrom ∈ TB := tbm (tc3 (List.mem_of_getElem? (i := 129) rfl)) rfl
theorem rtb_90 : Cond.selects "ToneLines$Rule" yX4_copyFrom yX4_copyFrom ∈ TB := tbm (tc3 (List.mem_of_getElem? (i := 130) rfl)) rfl
theorem rgv_X0_56 : GoodIn TB (wsV RX0 56 RX4 yX4_copyFrom (cw yX4_copyFrom cX4_copyFrom 2 none)) := goodIn_4 rtb_88 rtb_89 rtb_90 rtb_68 rgc_X4_copyFrom
theorem rhv_X4_copyFrom : yX4_copyFrom.cls = RX4 ∧ yX4_copyFrom.cls ≠ "java/lang/invoke/MethodHandle" ∧ yX4_copyFrom.cls ≠ "java/lang/invoke/VarHandle" ∧ (parseMethodDescriptor yX4_copyFrom.desc).map (fun d => d.parameters.length) = some 1 := by decide +kernel
theorem rdX0_takeRules_38 : decode cX0_takeRules 38 = .ok (.iinc 3 1, 3) := dqI kk_132 (by decide +kernel)
theorem rdX0_takeRules_41 : decode cX0_takeRules 41 = .ok (.goto (-29), 3) := dqT kk_167 (by decide +kernel)
set_option maxRecDepth 4000 in
theorem lp_X0_takeRules {p : Program} {l : Launch} {e : Env} {s : State} {m : MethodId} {args : Array Value} {below : List Frame} {meth : Method} {c : Code} {D : va_G} {B : Nat} {cy : Nat → ClassId} {H0 : Heap} {Q : State → Prop} {M : Mem} {R : Room} {m9 : Nat} {Ps : Nat → Nat → Int} (F : CallFix p m c cX0_takeRules 4 s args TB RX0) (hR1 : 2 ≤ R.frames) (hR2 : 61 ≤ R.locals) (hm9 : m9 ≤ 8) (kk : ∀ (j : Nat) (Nm : Mem) (H : Heap) (locs : List Loc) (ls : Array Slot), (Nm.1 22 2 = zI (m9 : Int)) → (∀ i, i < m9 → isU Nm (28 + 2 * i) (Ps i)) → (∀ a, a ≠ 22 → (a < 28 ∨ 44 ≤ a) → Nm.1 a = M.1 a) → Wd D B cy s H0 Nm H locs → lv_has ls 4 [(3, .int (zI (j : Int))), (0, .ref (B + 22)), (1, .ref (B + 5)), (2, .int (zI (m9 : Int)))] → W p l e R s m args below meth c H locs 0 0 Q (F0 m 44 ls [])) : ∀ (f : Nat) (j : Nat) (Nm : Mem), (j ≤ m9) → (Nm.1 22 2 = zI (m9 : Int)) → (∀ i, i < j → isU Nm (28 + 2 * i) (Ps i)) → (∀ i, i < m9 → isU Nm (6 + 2 * i) (Ps i)) → (∀ a, a ≠ 22 → (a < 28 ∨ 44 ≤ a) → Nm.1 a = M.1 a) → (m9 ≤ j + f) → ∀ (H : Heap) (locs : List Loc) (ls : Array Slot), Wd D B cy s H0 Nm H locs → lv_has ls 4 [(3, .int (zI (j : Int))), (0, .ref (B + 22)), (1, .ref (B + 5)), (2, .int (zI (m9 : Int)))] → W p l e R s m args below meth c H locs 0 0 Q (F0 m 12 ls []) := by
  have hx := F.1
  have hb := F.2.1
  intro f
  induction f with
  | zero =>
    intro j Nm i0 i1 i2 i3 i4 hf H locs ls w hl
    refine lv_iload_n hx hb rdX0_takeRules_12 rfl (lv_at hl 0 rfl) ?_
    refine lv_aload_n hx hb rdX0_takeRules_13 rfl (lv_at hl 1 rfl) ?_
    refine f_0_2 F w (a := 22) rfl rtb_86 rdX0_takeRules_14 ?_
    refine r_val (v := (zI (m9 : Int))) (i1) ?_
    refine z_icmp_ge (tgt := 44) hx hb (by omega) (by omega) rdX0_takeRules_17 (by decide) (fun c1 => ?_) (fun c1 => False.elim (by omega))
    exact kk j Nm _ _ ls i1 (fun i hi => i2 i (by omega)) i4 w (lv_sub hl [0, 1, 2, 3] rfl)
  | succ f ih =>
    intro j Nm i0 i1 i2 i3 i4 hf H locs ls w hl
    refine lv_iload_n hx hb rdX0_takeRules_12 rfl (lv_at hl 0 rfl) ?_
    refine lv_aload_n hx hb rdX0_takeRules_13 rfl (lv_at hl 1 rfl) ?_
    refine f_0_2 F w (a := 22) rfl rtb_86 rdX0_takeRules_14 ?_
    refine r_val (v := (zI (m9 : Int))) (i1) ?_
    refine z_icmp_ge (tgt := 44) hx hb (by omega) (by omega) rdX0_takeRules_17 (by decide) (fun c1 => ?_) (fun c1 => ?_)
    · exact kk j Nm _ _ ls i1 (fun i hi => i2 i (by omega)) i4 w (lv_sub hl [0, 1, 2, 3] rfl)
    · refine lv_iload_n hx hb rdX0_takeRules_20 rfl (lv_at hl 0 rfl) ?_
      refine lv_aload_n hx hb rdX0_takeRules_21 rfl (lv_at hl 2 rfl) ?_
      refine g_alen F w (a := 5) (t := 4) (by decide) rfl rfl (v := zI 8) rfl rdX0_takeRules_22 ?_
      refine z_icmp_ge (tgt := 44) hx hb (by omega) (by omega) rdX0_takeRules_23 (by decide) (fun c2 => ?_) (fun c2 => ?_)
      · exact kk j Nm _ _ ls i1 (fun i hi => i2 i (by omega)) i4 w (lv_sub hl [0, 1, 2, 3] rfl)
      · refine lv_aload_n hx hb rdX0_takeRules_26 rfl (lv_at hl 1 rfl) ?_
        refine f_0_1 F w (a := 22) rfl rtb_87 rdX0_takeRules_27 ?_
        refine lv_iload_n hx hb rdX0_takeRules_30 rfl (lv_at hl 0 rfl) ?_
        refine g_aldR F w (a := 24) rfl (j := j) (o := (28 + 2 * j)) rfl (ix_n (by omega)) (by omega) rdX0_takeRules_31 ?_
        refine lv_aload_n hx hb rdX0_takeRules_32 rfl (lv_at hl 2 rfl) ?_
        refine lv_iload_n hx hb rdX0_takeRules_33 rfl (lv_at hl 0 rfl) ?_
        refine g_aldR F w (a := 5) rfl (j := j) (o := (6 + 2 * j)) rfl (ix_n (by omega)) (by omega) rdX0_takeRules_34 ?_
        refine k_Vv F w (As := [.ref (B + (6 + 2 * j))]) (rest := []) (a := (28 + 2 * j)) (kd_lt (a := (28 + 2 * j)) (kd_lst (by omega)) (by decide)) (sh_4 (kd_lst (by omega)) _ _) rfl (s_X4_copyFrom (ru := 28 + 2 * j) (rb := 6 + 2 * j) (kd_lst (by omega)) (kd_dra (by omega)) (i3 j (by omega))) rgv_X0_56 rhv_X4_copyFrom ⟨(by omega), (by omega)⟩ hl.1 rfl (Nat.le_of_ble_eq_true rfl) ⟨Nat.zero_le _, Nat.zero_le _⟩ rdX0_takeRules_35 (fun Ma3 H locs hp w => ?_)
        rcases hp with ⟨hu9, hf9, hg9⟩
        refine z_iinc (v := (((j + 1) : Nat) : Int)) (lv' := [(3, .int (zI (((j + 1) : Nat) : Int))), (0, .ref (B + 22)), (1, .ref (B + 5)), (2, .int (zI (m9 : Int)))]) hx hb rdX0_takeRules_38 hl (k := 0) rfl (by omega) (by decide) rfl (fun ls hl => ?_)
        refine lv_goto (tgt := 12) hx hb rdX0_takeRules_41 (by decide) ?_
        exact ih (j + 1) Ma3 (by omega) (by rw [hf9 22 (by omega)]; exact i1) (fun i hi => by by_cases h9 : i = j; (subst h9; exact hu9); exact isU.fr (i2 i (by omega)) (hf9 _ (by omega))) (fun i hi => isU.fr (i3 i hi) (hf9 _ (by omega))) (fun a h1 h2 => (hf9 a (by omega)).trans (i4 a h1 h2)) (by omega) _ _ ls w (lv_sub hl [0, 1, 2, 3] rfl)
theorem rdX0_takeRules_0 : decode cX0_takeRules 0 = .ok (.aload_n 0, 1) := dq0 kk_42 (by decide +kernel)
theorem rdX0_takeRules_1 : decode cX0_takeRules 1 = .ok (.iload_n 2, 1) := dq0 kk_28 (by decide +kernel)
theorem rdX0_takeRules_2 : decode cX0_takeRules 2 = .ok (.bipush 8, 2) := dqS kk_16 (by decide +kernel)
theorem rdX0_takeRules_4 : decode cX0_takeRules 4 = .ok (.invokestatic 50, 3) := dqV kk_184 (by decide +kernel)
theorem rtb_91 : Cond.methodLink "ToneLines$Derivation" 50 yJ9_min_7cf53 ∈ TB := tbm (tc3 (List.mem_of_getElem? (i := 127) rfl)) rfl
theorem rtb_92 : Cond.static yJ9_min_7cf53 ∈ TB := tbm (tc2 (List.mem_of_getElem? (i := 157) rfl)) rfl
theorem rtb_93 : Cond.initialized "java/lang/Math" ∈ TB := tbm (tc1 (List.mem_of_getElem? (i := 16) rfl)) rfl
theorem rtq_min : Cond.code Lib.Math.min.name Lib.Math.min.code 2 (some .int) ∈ TB := tbm (tc2 (List.mem_of_getElem? (i := 158) rfl)) rfl
theorem rdX0_takeRules_7 : decode cX0_takeRules 7 = .ok (.putfield 24, 3) := dqV kk_181 (by decide +kernel)
theorem rdX0_takeRules_10 : decode cX0_takeRules 10 = .ok (.iconst 0, 1) := dq0 kk_3 (by decide +kernel)
theorem rdX0_takeRules_11 : decode cX0_takeRules 11 = .ok (.istore_n 3, 1) := dq0 kk_62 (by decide +kernel)
theorem rdX0_takeRules_44 : decode cX0_takeRules 44 = .ok (.return_, 1) := dq0 kk_177 (by decide +kernel)
set_option maxRecDepth 4000 in
theorem s_X0_takeRules {l : Launch} {D : va_G} {B : Nat} {cy : Nat → ClassId} {M : Mem} {m9 : Nat} (hm9 : m9 ≤ 8) {Ps : Nat → Nat → Int} (hD : ∀ i, i < m9 → isU M (6 + 2 * i) (Ps i)) : Cv l D B cy yX0_takeRules cX0_takeRules 4 2 61 [.ref (B + 22), .ref (B + 5), .int (zI (m9 : Int))] M (fun M1 => isK M1 Ps m9 ∧ ∀ a, a ≠ 22 → (a < 28 ∨ 44 ≤ a) → M1.1 a = M.1 a) := by
  refine s_any (by decide) (Nat.le_of_ble_eq_true rfl) ?_
  intro p e s m below meth c ls F hr hlocks w hl
  have F : CallFix p m c cX0_takeRules 4 s _ TB RX0 := F
  have hx := F.1
  have hb := F.2.1
  have hl : lv_has ls 4 [(0, .ref (B + 22)), (1, .ref (B + 5)), (2, .int (zI (m9 : Int)))] := hl
  refine lv_aload_n hx hb rdX0_takeRules_0 rfl (lv_at hl 0 rfl) ?_
  refine lv_iload_n hx hb rdX0_takeRules_1 rfl (lv_at hl 2 rfl) ?_
  refine lv_bipush (v := zI 8) hx hb rdX0_takeRules_2 (by decide) ?_
  refine g_min F hl.1 rtb_91 rtb_92 rtb_93 rtq_min (Nat.le_of_ble_eq_true rfl) (Nat.le_of_ble_eq_true rfl) (Nat.zero_le _) (Nat.zero_le _) (v := (zI (m9 : Int))) (min_z (by omega) (by omega) (by omega)) rdX0_takeRules_4 ?_
  refine u_0_2 F w (a := 22) rfl rtb_86 rdX0_takeRules_7 (fun H locs w => ?_)
  refine lv_iconst (v := zI 0) hx hb rdX0_takeRules_10 rfl ?_
  refine lv_istore_n (lv' := [(3, .int (zI 0)), (0, .ref (B + 22)), (1, .ref (B + 5)), (2, .int (zI (m9 : Int)))]) hx hb rdX0_takeRules_11 rfl hl (by decide) rfl (fun ls hl => ?_)
  refine lp_X0_takeRules  F (Nat.le_of_ble_eq_true rfl) (Nat.le_of_ble_eq_true rfl) hm9 (fun j Nm H locs ls x0 x1 x2 w hl => ?_) m9 0 (st M 22 2 (zI (m9 : Int))) (by omega) st_at (fun i hi => absurd hi (Nat.not_lt_zero i)) (fun i hi => isU.fr (hD i hi) (st_o (by omega))) (fun a h1 h2 => st_o h1) (by omega) _ _ ls w (lv_sub hl [0, 1, 2, 3] rfl)
  exact e_v F w hr hlocks ⟨⟨x0, x1⟩, x2⟩ rdX0_takeRules_44
theorem rdX11_outdate_0 : decode cX11_outdate 0 = .ok (.aload_n 0, 1) := dq0 kk_42 (by decide +kernel)
theorem rdX11_outdate_1 : decode cX11_outdate 1 = .ok (.getfield 35, 3) := dqV kk_180 (by decide +kernel)
theorem rtb_95 : Cond.fieldLink "ToneLines" 35 "ToneLines" "derivation" "LToneLines$Derivation;" ∈ TB := tbm (tc2 (List.mem_of_getElem? (i := 60) rfl)) rfl
theorem rdX11_outdate_4 : decode cX11_outdate 4 = .ok (.iconst 0, 1) := dq0 kk_3 (by decide +kernel)
theorem rdX11_outdate_5 : decode cX11_outdate 5 = .ok (.putfield 301, 3) := dqV kk_181 (by decide +kernel)
theorem rtb_96 : Cond.fieldLink "ToneLines" 301 "ToneLines$Derivation" "ready" "I" ∈ TB := tbm (tc1 (List.mem_of_getElem? (i := 184) rfl)) rfl
theorem rdX11_outdate_8 : decode cX11_outdate 8 = .ok (.aload_n 0, 1) := dq0 kk_42 (by decide +kernel)
theorem rdX11_outdate_9 : decode cX11_outdate 9 = .ok (.getfield 54, 3) := dqV kk_180 (by decide +kernel)
theorem rtb_97 : Cond.fieldLink "ToneLines" 54 "ToneLines" "ordering" "LToneLines$Orders;" ∈ TB := tbm (tc2 (List.mem_of_getElem? (i := 63) rfl)) rfl
theorem rdX11_outdate_12 : decode cX11_outdate 12 = .ok (.iconst 0, 1) := dq0 kk_3 (by decide +kernel)
theorem rdX11_outdate_13 : decode cX11_outdate 13 = .ok (.putfield 271, 3) := dqV kk_181 (by decide +kernel)
theorem rtb_98 : Cond.fieldLink "ToneLines" 271 "ToneLines$Orders" "inDate" "Z" ∈ TB := tbm (tc1 (List.mem_of_getElem? (i := 230) rfl)) rfl
theorem rdX11_outdate_16 : decode cX11_outdate 16 = .ok (.aload_n 0, 1) := dq0 kk_42 (by decide +kernel)
theorem rdX11_outdate_17 : decode cX11_outdate 17 = .ok (.getfield 61, 3) := dqV kk_180 (by decide +kernel)
theorem rtb_99 : Cond.fieldLink "ToneLines" 61 "ToneLines" "alikes" "LToneLines$Sources;" ∈ TB := tbm (tc2 (List.mem_of_getElem? (i := 64) rfl)) rfl
theorem rdX11_outdate_20 : decode cX11_outdate 20 = .ok (.iconst 0, 1) := dq0 kk_3 (by decide +kernel)
theorem rdX11_outdate_21 : decode cX11_outdate 21 = .ok (.putfield 304, 3) := dqV kk_181 (by decide +kernel)
theorem rtb_100 : Cond.fieldLink "ToneLines" 304 "ToneLines$Sources" "known" "I" ∈ TB := tbm (tc2 (List.mem_of_getElem? (i := 24) rfl)) rfl
theorem rdX11_outdate_24 : decode cX11_outdate 24 = .ok (.return_, 1) := dq0 kk_177 (by decide +kernel)
set_option maxRecDepth 4000 in
theorem s_X11_outdate {l : Launch} {D : va_G} {B : Nat} {cy : Nat → ClassId} {M : Mem}  : Cv l D B cy yX11_outdate cX11_outdate 1 0 0 [.ref (B + 0)] M (fun M1 => (∀ a, a ≠ 22 → a ≠ 109 → a ≠ 135 → M1.1 a = M.1 a) ∧ (∀ k, k ≠ 7 → M1.1 22 k = M.1 22 k) ∧ M1.1 22 7 = zI 0) := by
  refine s_any (by decide) (Nat.le_of_ble_eq_true rfl) ?_
  intro p e s m below meth c ls F hr hlocks w hl
  have F : CallFix p m c cX11_outdate 1 s _ TB RX11 := F
  have hx := F.1
  have hb := F.2.1
  have hl : lv_has ls 1 [(0, .ref (B + 0))] := hl
  refine lv_aload_n hx hb rdX11_outdate_0 rfl (lv_at hl 0 rfl) ?_
  refine f_11_3 F w (a := 0) rfl rtb_95 rdX11_outdate_1 ?_
  refine lv_iconst (v := zI 0) hx hb rdX11_outdate_4 rfl ?_
  refine u_0_7 F w (a := 22) rfl rtb_96 rdX11_outdate_5 (fun H locs w => ?_)
  refine lv_aload_n hx hb rdX11_outdate_8 rfl (lv_at hl 0 rfl) ?_
  refine f_11_6 F w (a := 0) rfl rtb_97 rdX11_outdate_9 ?_
  refine lv_iconst (v := zI 0) hx hb rdX11_outdate_12 rfl ?_
  refine u_3_0 F w (a := 109) rfl (by decide) (by decide) rtb_98 rdX11_outdate_13 (fun H locs w => ?_)
  refine lv_aload_n hx hb rdX11_outdate_16 rfl (lv_at hl 0 rfl) ?_
  refine f_11_7 F w (a := 0) rfl rtb_99 rdX11_outdate_17 ?_
  refine lv_iconst (v := zI 0) hx hb rdX11_outdate_20 rfl ?_
  refine u_6_0 F w (a := 135) rfl rtb_100 rdX11_outdate_21 (fun H locs w => ?_)
  exact e_v F w hr hlocks ⟨fun a h1 h2 h3 => by rw [st_o h3, st_o h2, st_o h1], fun k hk => by rw [st_o (by decide), st_o (by decide), st_k hk], by rw [st_o (by decide), st_o (by decide)]; exact st_at⟩ rdX11_outdate_24
theorem rdX11_rules_0 : decode cX11_rules 0 = .ok (.aload_n 0, 1) := dq0 kk_42 (by decide +kernel)
theorem rdX11_rules_1 : decode cX11_rules 1 = .ok (.getfield 28, 3) := dqV kk_180 (by decide +kernel)
theorem rtb_101 : Cond.fieldLink "ToneLines" 28 "ToneLines" "ruleReader" "LToneLines$RuleReader;" ∈ TB := tbm (tc2 (List.mem_of_getElem? (i := 59) rfl)) rfl
theorem rdX11_rules_4 : decode cX11_rules 4 = .ok (.invokevirtual 103, 3) := dqV kk_182 (by decide +kernel)
theorem rtk_X5_faultOfText : Cond.code yX5_faultOfText cX5_faultOfText 1 (some .int) ∈ TB := tbm (tc3 (List.mem_of_getElem? (i := 40) rfl)) rfl
theorem rgc_X5_faultOfText : GoodIn TB (cw yX5_faultOfText cX5_faultOfText 1 (some .int)) := goodIn_c2 rtk_X5_faultOfText
theorem rtb_102 : Cond.methodLink "ToneLines" 103 yX5_faultOfText ∈ TB := tbm (tc3 (List.mem_of_getElem? (i := 37) rfl)) rfl
theorem rtb_103 : Cond.instanceMethod yX5_faultOfText ∈ TB := tbm (tc3 (List.mem_of_getElem? (i := 38) rfl)) rfl
theorem rtb_104 : Cond.selects "ToneLines$RuleReader" yX5_faultOfText yX5_faultOfText ∈ TB := tbm (tc3 (List.mem_of_getElem? (i := 39) rfl)) rfl
theorem rgv_X11_103 : GoodIn TB (wsV RX11 103 RX5 yX5_faultOfText (cw yX5_faultOfText cX5_faultOfText 1 (some .int))) := goodIn_4 rtb_102 rtb_103 rtb_104 rtb_37 rgc_X5_faultOfText
theorem rhv_X5_faultOfText : yX5_faultOfText.cls = RX5 ∧ yX5_faultOfText.cls ≠ "java/lang/invoke/MethodHandle" ∧ yX5_faultOfText.cls ≠ "java/lang/invoke/VarHandle" ∧ (parseMethodDescriptor yX5_faultOfText.desc).map (fun d => d.parameters.length) = some 0 := by decide +kernel
theorem rdX11_rules_7 : decode cX11_rules 7 = .ok (.istore_n 1, 1) := dq0 kk_60 (by decide +kernel)
theorem rdX11_rules_8 : decode cX11_rules 8 = .ok (.aload_n 0, 1) := dq0 kk_42 (by decide +kernel)
theorem rdX11_rules_9 : decode cX11_rules 9 = .ok (.getfield 12, 3) := dqV kk_180 (by decide +kernel)
theorem rtb_105 : Cond.fieldLink "ToneLines" 12 "ToneLines" "tape" "LToneLines$Tape;" ∈ TB := tbm (tc2 (List.mem_of_getElem? (i := 57) rfl)) rfl
theorem rdX11_rules_12 : decode cX11_rules 12 = .ok (.iconst 0, 1) := dq0 kk_3 (by decide +kernel)
theorem rdX11_rules_13 : decode cX11_rules 13 = .ok (.putfield 78, 3) := dqV kk_181 (by decide +kernel)
theorem rtb_106 : Cond.fieldLink "ToneLines" 78 "ToneLines$Tape" "size" "I" ∈ TB := tbm (tc1 (List.mem_of_getElem? (i := 39) rfl)) rfl
theorem rdX11_rules_16 : decode cX11_rules 16 = .ok (.iload_n 1, 1) := dq0 kk_27 (by decide +kernel)
theorem rdX11_rules_17 : decode cX11_rules 17 = .ok (.iconst (-1), 1) := dq0 kk_2 (by decide +kernel)
theorem rdX11_rules_18 : decode cX11_rules 18 = .ok (.if_icmp .eq 8, 3) := dqT kk_159 (by decide +kernel)
theorem rdX11_rules_26 : decode cX11_rules 26 = .ok (.aload_n 0, 1) := dq0 kk_42 (by decide +kernel)
theorem rdX11_rules_27 : decode cX11_rules 27 = .ok (.getfield 35, 3) := dqV kk_180 (by decide +kernel)
theorem rdX11_rules_30 : decode cX11_rules 30 = .ok (.aload_n 0, 1) := dq0 kk_42 (by decide +kernel)
theorem rdX11_rules_31 : decode cX11_rules 31 = .ok (.getfield 28, 3) := dqV kk_180 (by decide +kernel)
theorem rdX11_rules_34 : decode cX11_rules 34 = .ok (.getfield 107, 3) := dqV kk_180 (by decide +kernel)
theorem rtb_107 : Cond.fieldLink "ToneLines" 107 "ToneLines$RuleReader" "drafts" "[LToneLines$Rule;" ∈ TB := tbm (tc1 (List.mem_of_getElem? (i := 84) rfl)) rfl
theorem rdX11_rules_37 : decode cX11_rules 37 = .ok (.aload_n 0, 1) := dq0 kk_42 (by decide +kernel)
theorem rdX11_rules_38 : decode cX11_rules 38 = .ok (.getfield 28, 3) := dqV kk_180 (by decide +kernel)
theorem rdX11_rules_41 : decode cX11_rules 41 = .ok (.getfield 111, 3) := dqV kk_180 (by decide +kernel)
theorem rtb_108 : Cond.fieldLink "ToneLines" 111 "ToneLines$RuleReader" "read" "I" ∈ TB := tbm (tc1 (List.mem_of_getElem? (i := 86) rfl)) rfl
theorem rdX11_rules_44 : decode cX11_rules 44 = .ok (.invokevirtual 114, 3) := dqV kk_182 (by decide +kernel)
theorem rtk_X0_takeRules : Cond.code yX0_takeRules cX0_takeRules 4 none ∈ TB := tbm (tc3 (List.mem_of_getElem? (i := 126) rfl)) rfl
theorem rgc_X0_takeRules : GoodIn TB (cw yX0_takeRules cX0_takeRules 4 none) := goodIn_c2 rtk_X0_takeRules
theorem rtb_109 : Cond.methodLink "ToneLines" 114 yX0_takeRules ∈ TB := tbm (tc3 (List.mem_of_getElem? (i := 123) rfl)) rfl
theorem rtb_110 : Cond.instanceMethod yX0_takeRules ∈ TB := tbm (tc3 (List.mem_of_getElem? (i := 124) rfl)) rfl
theorem rtb_111 : Cond.selects "ToneLines$Derivation" yX0_takeRules yX0_takeRules ∈ TB := tbm (tc3 (List.mem_of_getElem? (i := 125) rfl)) rfl
theorem rtb_112 : Cond.initialized "ToneLines$Derivation" ∈ TB := tbm (tc1 (List.mem_of_getElem? (i := 6) rfl)) rfl
theorem rgv_X11_114 : GoodIn TB (wsV RX11 114 RX0 yX0_takeRules (cw yX0_takeRules cX0_takeRules 4 none)) := goodIn_4 rtb_109 rtb_110 rtb_111 rtb_112 rgc_X0_takeRules
theorem rhv_X0_takeRules : yX0_takeRules.cls = RX0 ∧ yX0_takeRules.cls ≠ "java/lang/invoke/MethodHandle" ∧ yX0_takeRules.cls ≠ "java/lang/invoke/VarHandle" ∧ (parseMethodDescriptor yX0_takeRules.desc).map (fun d => d.parameters.length) = some 2 := by decide +kernel
theorem rdX11_rules_47 : decode cX11_rules 47 = .ok (.aload_n 0, 1) := dq0 kk_42 (by decide +kernel)
theorem rdX11_rules_48 : decode cX11_rules 48 = .ok (.invokevirtual 97, 3) := dqV kk_182 (by decide +kernel)
theorem rtk_X11_outdate : Cond.code yX11_outdate cX11_outdate 1 none ∈ TB := tbm (tc3 (List.mem_of_getElem? (i := 32) rfl)) rfl
theorem rgc_X11_outdate : GoodIn TB (cw yX11_outdate cX11_outdate 1 none) := goodIn_c2 rtk_X11_outdate
theorem rtb_113 : Cond.methodLink "ToneLines" 97 yX11_outdate ∈ TB := tbm (tc3 (List.mem_of_getElem? (i := 29) rfl)) rfl
theorem rtb_114 : Cond.instanceMethod yX11_outdate ∈ TB := tbm (tc3 (List.mem_of_getElem? (i := 31) rfl)) rfl
theorem rtb_115 : Cond.selects "ToneLines" yX11_outdate yX11_outdate ∈ TB := tbp (List.mem_of_getElem? (i := 5) rfl) rfl
theorem rgv_X11_97 : GoodIn TB (wsV RX11 97 RX11 yX11_outdate (cw yX11_outdate cX11_outdate 1 none)) := goodIn_4 rtb_113 rtb_114 rtb_115 rtb_28 rgc_X11_outdate
theorem rhv_X11_outdate : yX11_outdate.cls = RX11 ∧ yX11_outdate.cls ≠ "java/lang/invoke/MethodHandle" ∧ yX11_outdate.cls ≠ "java/lang/invoke/VarHandle" ∧ (parseMethodDescriptor yX11_outdate.desc).map (fun d => d.parameters.length) = some 0 := by decide +kernel
theorem rdX11_rules_51 : decode cX11_rules 51 = .ok (.aload_n 0, 1) := dq0 kk_42 (by decide +kernel)
theorem rdX11_rules_52 : decode cX11_rules 52 = .ok (.getfield 35, 3) := dqV kk_180 (by decide +kernel)
theorem rdX11_rules_55 : decode cX11_rules 55 = .ok (.getfield 118, 3) := dqV kk_180 (by decide +kernel)
theorem rtb_116 : Cond.fieldLink "ToneLines" 118 "ToneLines$Derivation" "size" "I" ∈ TB := tbm (tc1 (List.mem_of_getElem? (i := 173) rfl)) rfl
theorem rdX11_rules_58 : decode cX11_rules 58 = .ok (.ireturn, 1) := dq0 kk_172 (by decide +kernel)
theorem rdX11_rules_21 : decode cX11_rules 21 = .ok (.bipush (-4), 2) := dqS kk_16 (by decide +kernel)
theorem rdX11_rules_23 : decode cX11_rules 23 = .ok (.iload_n 1, 1) := dq0 kk_27 (by decide +kernel)
theorem rdX11_rules_24 : decode cX11_rules 24 = .ok (.isub, 1) := dq0 kk_100 (by decide +kernel)
theorem rdX11_rules_25 : decode cX11_rules 25 = .ok (.ireturn, 1) := dq0 kk_172 (by decide +kernel)
set_option maxRecDepth 4000 in
theorem s_X11_rules {l : Launch} {D : va_G} {B : Nat} {cy : Nat → ClassId} {M : Mem} {T : Nat → Nat} {tn : Nat} (hT : okT T tn) (hTc : isTc M T tn) : Ci l D B cy yX11_rules cX11_rules 2 (some .int) 9 197 [.ref (B + 0)] M (fun r M1 => (∃ z : Int, rlQ T tn z ∧ r = zI z) ∧ M1.1 1 1 = zI 0 ∧ ((∃ m9 : Nat, rlE T tn m9 ∧ isK M1 (fun j => (rdR T tn (bI T tn j)).2.2) m9 ∧ M1.1 22 7 = zI 0 ∧ ∀ a, 44 ≤ a → a ≠ 109 → a ≠ 135 → M1.1 a = M.1 a) ∨ (∃ (m9 : Nat) (z9 : Int), rlF T tn m9 z9 ∧ ∀ a, 22 ≤ a → M1.1 a = M.1 a))) := by
  refine s_any (by decide) (Nat.le_of_ble_eq_true rfl) ?_
  intro p e s m below meth c ls F hr hlocks w hl
  have F : CallFix p m c cX11_rules 2 s _ TB RX11 := F
  have hx := F.1
  have hb := F.2.1
  have hl : lv_has ls 2 [(0, .ref (B + 0))] := hl
  have hN := hT.1
  refine lv_aload_n hx hb rdX11_rules_0 rfl (lv_at hl 0 rfl) ?_
  refine f_11_2 F w (a := 0) rfl rtb_101 rdX11_rules_1 ?_
  refine k_Vi F w (As := []) (rest := []) (a := 4) (kd_lt (a := 4) (show kd 4 = (5, 0, 0) from rfl) (by decide)) (sh_5 rfl _ _) rfl (s_X5_fault hT hTc) rgv_X11_103 rhv_X5_faultOfText ⟨(Nat.le_of_ble_eq_true rfl), (Nat.le_of_ble_eq_true rfl)⟩ hl.1 rfl (Nat.le_of_ble_eq_true rfl) ⟨Nat.zero_le _, Nat.zero_le _⟩ rdX11_rules_4 (fun r Ma1 H locs hp w => ?_)
  rcases hp with ⟨⟨m9, hE9, rfl, h42, hD9⟩ | ⟨m9, z9, hF9, rfl⟩, hFt⟩
  · have hm9 := hE9.1
    refine lv_istore_n (lv' := [(1, .int (zI (-1))), (0, .ref (B + 0))]) hx hb rdX11_rules_7 rfl hl (by decide) rfl (fun ls hl => ?_)
    refine lv_aload_n hx hb rdX11_rules_8 rfl (lv_at hl 1 rfl) ?_
    refine f_11_0 F w (a := 0) rfl rtb_105 rdX11_rules_9 ?_
    refine lv_iconst (v := zI 0) hx hb rdX11_rules_12 rfl ?_
    refine u_8_1 F w (a := 1) rfl rtb_106 rdX11_rules_13 (fun H locs w => ?_)
    refine lv_iload_n hx hb rdX11_rules_16 rfl (lv_at hl 0 rfl) ?_
    refine lv_iconst (v := zI (-1)) hx hb rdX11_rules_17 rfl ?_
    refine z_icmp_eq (tgt := 26) hx hb (by omega) (by omega) rdX11_rules_18 (by decide) (fun c2 => ?_) (fun c2 => False.elim (by omega))
    refine lv_aload_n hx hb rdX11_rules_26 rfl (lv_at hl 1 rfl) ?_
    refine f_11_3 F w (a := 0) rfl rtb_95 rdX11_rules_27 ?_
    refine lv_aload_n hx hb rdX11_rules_30 rfl (lv_at hl 1 rfl) ?_
    refine f_11_2 F w (a := 0) rfl rtb_101 rdX11_rules_31 ?_
    refine f_5_1 F w (a := 4) rfl rtb_107 rdX11_rules_34 ?_
    refine lv_aload_n hx hb rdX11_rules_37 rfl (lv_at hl 1 rfl) ?_
    refine f_11_2 F w (a := 0) rfl rtb_101 rdX11_rules_38 ?_
    refine f_5_2 F w (a := 4) rfl rtb_108 rdX11_rules_41 ?_
    refine r_val (v := (zI (m9 : Int))) ((st_ne (Or.inl (by omega))).trans h42) ?_
    refine k_Vv F w (As := [.ref (B + 5), .int (zI (m9 : Int))]) (rest := []) (a := 22) (kd_lt (a := 22) (show kd 22 = (0, 0, 0) from rfl) (by decide)) (sh_0 rfl _ _) rfl (s_X0_takeRules (m9 := m9) hm9 (Ps := (fun j => (rdR T tn (bI T tn j)).2.2)) (fun i hi => isU.fr (hD9 i hi) (st_o (by omega)))) rgv_X11_114 rhv_X0_takeRules ⟨(Nat.le_of_ble_eq_true rfl), (Nat.le_of_ble_eq_true rfl)⟩ hl.1 rfl (Nat.le_of_ble_eq_true rfl) ⟨Nat.zero_le _, Nat.zero_le _⟩ rdX11_rules_44 (fun Ma3 H locs hp w => ?_)
    rcases hp with ⟨hK9, hf8⟩
    refine lv_aload_n hx hb rdX11_rules_47 rfl (lv_at hl 1 rfl) ?_
    refine k_Vv F w (As := []) (rest := []) (a := 0) (kd_lt (a := 0) (show kd 0 = (11, 0, 0) from rfl) (by decide)) (sh_11 rfl _ _) rfl (s_X11_outdate) rgv_X11_97 rhv_X11_outdate ⟨(Nat.le_of_ble_eq_true rfl), (Nat.le_of_ble_eq_true rfl)⟩ hl.1 rfl (Nat.le_of_ble_eq_true rfl) ⟨Nat.zero_le _, Nat.zero_le _⟩ rdX11_rules_48 (fun Ma4 H locs hp w => ?_)
    rcases hp with ⟨ho1, ho2, ho3⟩
    refine lv_aload_n hx hb rdX11_rules_51 rfl (lv_at hl 1 rfl) ?_
    refine f_11_3 F w (a := 0) rfl rtb_95 rdX11_rules_52 ?_
    refine f_0_2 F w (a := 22) rfl rtb_116 rdX11_rules_55 ?_
    refine r_val (v := (zI (m9 : Int))) ((ho2 2 (by decide)).trans hK9.1) ?_
    exact e_i F w hr hlocks ⟨⟨_, Or.inl ⟨m9, hE9, rfl⟩, rfl⟩, by rw [ho1 1 (by decide) (by decide) (by decide), hf8 1 (by decide) (by decide)]; exact st_at, Or.inl ⟨m9, hE9, ⟨(ho2 2 (by decide)).trans hK9.1, fun j hj => isU.fr (hK9.2 j hj) (ho1 _ (by omega) (by omega) (by omega))⟩, ho3, fun a h1 h2 h3 => by rw [ho1 a (by omega) h2 h3, hf8 a (by omega) (Or.inr h1), st_o (by omega)]; exact hFt.1 a (by omega)⟩⟩ rdX11_rules_58
  · have hzr := rlF_rg hN hF9
    refine lv_istore_n (lv' := [(1, .int (zI z9)), (0, .ref (B + 0))]) hx hb rdX11_rules_7 rfl hl (by decide) rfl (fun ls hl => ?_)
    refine lv_aload_n hx hb rdX11_rules_8 rfl (lv_at hl 1 rfl) ?_
    refine f_11_0 F w (a := 0) rfl rtb_105 rdX11_rules_9 ?_
    refine lv_iconst (v := zI 0) hx hb rdX11_rules_12 rfl ?_
    refine u_8_1 F w (a := 1) rfl rtb_106 rdX11_rules_13 (fun H locs w => ?_)
    refine lv_iload_n hx hb rdX11_rules_16 rfl (lv_at hl 0 rfl) ?_
    refine lv_iconst (v := zI (-1)) hx hb rdX11_rules_17 rfl ?_
    refine z_icmp_eq (tgt := 26) hx hb (by omega) (by omega) rdX11_rules_18 (by decide) (fun c5 => False.elim (by omega)) (fun c5 => ?_)
    refine lv_bipush (v := zI (-4)) hx hb rdX11_rules_21 (by decide) ?_
    refine lv_iload_n hx hb rdX11_rules_23 rfl (lv_at hl 0 rfl) ?_
    refine z_isub (z := ((-4) - z9)) hx hb rdX11_rules_24 (by omega) ?_
    exact e_i F w hr hlocks ⟨⟨_, Or.inr ⟨m9, z9, hF9, rfl⟩, rfl⟩, st_at, Or.inr ⟨m9, z9, hF9, fun a ha => (st_o (by omega)).trans (hFt.1 a (by omega))⟩⟩ rdX11_rules_25
