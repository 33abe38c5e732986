theorem wdX2_keep_0 : decode cX2_keep 0 = .ok (.aload_n 0, 1) := dq0 kk_42 (by decide +kernel)
theorem wdX2_keep_1 : decode cX2_keep 1 = .ok (.getfield 11, 3) := dqV kk_180 (by decide +kernel)
theorem wtb_200 : Cond.fieldLink "ToneLines$History" 11 "ToneLines$History" "ring" "[LToneLines$Word;" ∈ TB := tbm (tc1 (List.mem_of_getElem? (i := 210) rfl)) rfl
theorem wdX2_keep_4 : decode cX2_keep 4 = .ok (.aload_n 0, 1) := dq0 kk_42 (by decide +kernel)
theorem wdX2_keep_5 : decode cX2_keep 5 = .ok (.getfield 17, 3) := dqV kk_180 (by decide +kernel)
theorem wtb_201 : Cond.fieldLink "ToneLines$History" 17 "ToneLines$History" "next" "I" ∈ TB := tbm (tc1 (List.mem_of_getElem? (i := 211) rfl)) rfl
theorem wdX2_keep_8 : decode cX2_keep 8 = .ok (.aaload, 1) := dq0 kk_50 (by decide +kernel)
theorem wdX2_keep_9 : decode cX2_keep 9 = .ok (.aload_n 1, 1) := dq0 kk_43 (by decide +kernel)
theorem wdX2_keep_10 : decode cX2_keep 10 = .ok (.invokevirtual 25, 3) := dqV kk_182 (by decide +kernel)
theorem wtb_202 : Cond.methodLink "ToneLines$History" 25 yX9_copyFrom ∈ TB := tbm (tc3 (List.mem_of_getElem? (i := 146) rfl)) rfl
theorem wgv_X2_25 : GoodIn TB (wsV RX2 25 RX9 yX9_copyFrom (cw yX9_copyFrom cX9_copyFrom 2 none)) := goodIn_4 wtb_202 wtb_186 wtb_187 wtb_3 wgc_X9_copyFrom
theorem wdX2_keep_13 : decode cX2_keep 13 = .ok (.aload_n 0, 1) := dq0 kk_42 (by decide +kernel)
theorem wdX2_keep_14 : decode cX2_keep 14 = .ok (.aload_n 0, 1) := dq0 kk_42 (by decide +kernel)
theorem wdX2_keep_15 : decode cX2_keep 15 = .ok (.getfield 17, 3) := dqV kk_180 (by decide +kernel)
theorem wdX2_keep_18 : decode cX2_keep 18 = .ok (.iconst 1, 1) := dq0 kk_4 (by decide +kernel)
theorem wdX2_keep_19 : decode cX2_keep 19 = .ok (.iadd, 1) := dq0 kk_96 (by decide +kernel)
theorem wdX2_keep_20 : decode cX2_keep 20 = .ok (.bipush 12, 2) := dqS kk_16 (by decide +kernel)
theorem wdX2_keep_22 : decode cX2_keep 22 = .ok (.if_icmp .ge 12, 3) := dqT kk_162 (by decide +kernel)
theorem wdX2_keep_34 : decode cX2_keep 34 = .ok (.iconst 0, 1) := dq0 kk_3 (by decide +kernel)
theorem wdX2_keep_35 : decode cX2_keep 35 = .ok (.putfield 17, 3) := dqV kk_181 (by decide +kernel)
theorem wdX2_keep_38 : decode cX2_keep 38 = .ok (.aload_n 0, 1) := dq0 kk_42 (by decide +kernel)
theorem wdX2_keep_39 : decode cX2_keep 39 = .ok (.aload_n 0, 1) := dq0 kk_42 (by decide +kernel)
theorem wdX2_keep_40 : decode cX2_keep 40 = .ok (.getfield 21, 3) := dqV kk_180 (by decide +kernel)
theorem wtb_203 : Cond.fieldLink "ToneLines$History" 21 "ToneLines$History" "acts" "I" ∈ TB := tbm (tc1 (List.mem_of_getElem? (i := 212) rfl)) rfl
theorem wdX2_keep_43 : decode cX2_keep 43 = .ok (.iconst 1, 1) := dq0 kk_4 (by decide +kernel)
theorem wdX2_keep_44 : decode cX2_keep 44 = .ok (.iadd, 1) := dq0 kk_96 (by decide +kernel)
theorem wdX2_keep_45 : decode cX2_keep 45 = .ok (.bipush 12, 2) := dqS kk_16 (by decide +kernel)
theorem wdX2_keep_47 : decode cX2_keep 47 = .ok (.invokestatic 29, 3) := dqV kk_184 (by decide +kernel)
theorem wtb_204 : Cond.methodLink "ToneLines$History" 29 yJ9_min_7cf53 ∈ TB := tbm (tc3 (List.mem_of_getElem? (i := 147) rfl)) rfl
theorem wtb_205 : Cond.static yJ9_min_7cf53 ∈ TB := rtb_92
theorem wtq_min : Cond.code Lib.Math.min.name Lib.Math.min.code 2 (some .int) ∈ TB := rtq_min
theorem wdX2_keep_50 : decode cX2_keep 50 = .ok (.putfield 21, 3) := dqV kk_181 (by decide +kernel)
theorem wdX2_keep_53 : decode cX2_keep 53 = .ok (.return_, 1) := dq0 kk_177 (by decide +kernel)
theorem wdX2_keep_25 : decode cX2_keep 25 = .ok (.aload_n 0, 1) := dq0 kk_42 (by decide +kernel)
theorem wdX2_keep_26 : decode cX2_keep 26 = .ok (.getfield 17, 3) := dqV kk_180 (by decide +kernel)
theorem wdX2_keep_29 : decode cX2_keep 29 = .ok (.iconst 1, 1) := dq0 kk_4 (by decide +kernel)
theorem wdX2_keep_30 : decode cX2_keep 30 = .ok (.iadd, 1) := dq0 kk_96 (by decide +kernel)
theorem wdX2_keep_31 : decode cX2_keep 31 = .ok (.goto 4, 3) := dqT kk_167 (by decide +kernel)
set_option maxRecDepth 4000 in
theorem g_keep {l : Launch} {D : va_G} {B : Nat} {cy : Nat → ClassId} {M : Mem} {Ps : Nat → Nat → Int} {mr rd k : Nat} {x : Fw} {Hs : Nat → Fw} (hS : CS M Ps mr x rd Hs k) {nx : Nat} (hn : HC M Hs k nx) : Cv l D B cy yX2_keep cX2_keep 2 2 61 [.ref (B + 71), .ref (B + 44)] M (fun M1 => CS M1 Ps mr x rd (phH Hs k x) (phK k) ∧ FH M1 M) := by
  refine s_any (by decide) (Nat.le_of_ble_eq_true rfl) ?_
  intro p e s m below meth c ls F hr hlocks w hl
  have F : CallFix p m c cX2_keep 2 s _ TB RX2 := F
  have hx := F.1
  have hb := F.2.1
  have hl : lv_has ls 2 [(0, .ref (B + 71)), (1, .ref (B + 44))] := hl
  have hm8 := hS.1.2.1
  have hrd := hS.2.1.2.1
  have hnx := hn.2.1
  have hk12 := hn.2.2.2.1
  refine lv_aload_n hx hb wdX2_keep_0 rfl (lv_at hl 0 rfl) ?_
  refine f_2_0 F w (a := 71) rfl wtb_200 wdX2_keep_1 ?_
  refine lv_aload_n hx hb wdX2_keep_4 rfl (lv_at hl 0 rfl) ?_
  refine f_2_1 F w (a := 71) rfl wtb_201 wdX2_keep_5 ?_
  refine r_val (v := (zI (nx : Int))) (hn.1) ?_
  refine g_aldW F w (a := 72) rfl (j := nx) (o := (73 + 3 * nx)) rfl (ix_n (by omega)) (by omega) wdX2_keep_8 ?_
  refine lv_aload_n hx hb wdX2_keep_9 rfl (lv_at hl 1 rfl) ?_
  refine k_Vv F w (As := [.ref (B + 44)]) (rest := []) (a := (73 + 3 * nx)) (kd_lt (a := (73 + 3 * nx)) (kd_rn (by omega)) (by decide)) (sh_9 (kd_rn (by omega)) _ _) rfl (s_X9_copyFrom (a := 73 + 3 * nx) (kd_rn (by omega)) (b := 44) rfl hS.t.1 (by omega) hS.t.2.1.1) wgv_X2_25 whv_X9_copyFrom ⟨(Nat.le_of_ble_eq_true rfl), (Nat.le_of_ble_eq_true rfl)⟩ hl.1 rfl (Nat.le_of_ble_eq_true rfl) ⟨Nat.zero_le _, Nat.zero_le _⟩ wdX2_keep_10 (fun Ma1 H locs hp w => ?_)
  rcases hp with ⟨hW2, hF2⟩
  have hC2 : CF Ma1 (73 + 3 * nx) x := ⟨hW2, hS.t.2⟩
  refine lv_aload_n hx hb wdX2_keep_13 rfl (lv_at hl 0 rfl) ?_
  refine lv_aload_n hx hb wdX2_keep_14 rfl (lv_at hl 0 rfl) ?_
  refine f_2_1 F w (a := 71) rfl wtb_201 wdX2_keep_15 ?_
  refine r_val (v := (zI (nx : Int))) (((congrFun (hF2.1 71 (by omega) (by omega) (by omega)) 1).trans hn.1)) ?_
  refine lv_iconst (v := zI 1) hx hb wdX2_keep_18 rfl ?_
  refine z_iadd (z := (((nx + 1) : Nat) : Int)) hx hb wdX2_keep_19 (by omega) ?_
  refine lv_bipush (v := zI 12) hx hb wdX2_keep_20 (by decide) ?_
  refine z_icmp_ge (tgt := 34) hx hb (by omega) (by omega) wdX2_keep_22 (by decide) (fun c2 => ?_) (fun c2 => ?_)
  · refine lv_iconst (v := zI 0) hx hb wdX2_keep_34 rfl ?_
    obtain ⟨ny, hny⟩ : ∃ ny : Nat, (nx + 1 < 12 ∧ ny = nx + 1) ∨ (nx = 11 ∧ ny = 0) := ⟨0, by omega⟩
    refine r_val (v := zI ((ny : Nat) : Int)) (congrArg zI (by omega)) ?_
    refine u_2_1 F w (a := 71) rfl wtb_201 wdX2_keep_35 (fun H locs w => ?_)
    refine lv_aload_n hx hb wdX2_keep_38 rfl (lv_at hl 0 rfl) ?_
    refine lv_aload_n hx hb wdX2_keep_39 rfl (lv_at hl 0 rfl) ?_
    refine f_2_2 F w (a := 71) rfl wtb_203 wdX2_keep_40 ?_
    refine r_val (v := (zI (k : Int))) ((st_ne (Or.inr (by omega))).trans (((congrFun (hF2.1 71 (by omega) (by omega) (by omega)) 2).trans hn.2.2.1))) ?_
    refine lv_iconst (v := zI 1) hx hb wdX2_keep_43 rfl ?_
    refine z_iadd (z := (((k + 1) : Nat) : Int)) hx hb wdX2_keep_44 (by omega) ?_
    refine lv_bipush (v := zI 12) hx hb wdX2_keep_45 (by decide) ?_
    refine g_min F hl.1 wtb_204 wtb_205 wtb_39 wtq_min (Nat.le_of_ble_eq_true rfl) (Nat.le_of_ble_eq_true rfl) (Nat.zero_le _) (Nat.zero_le _) (v := (zI (((phK k) : Nat) : Int))) (min_zK (by omega)) wdX2_keep_47 ?_
    refine u_2_2 F w (a := 71) rfl wtb_203 wdX2_keep_50 (fun H locs w => ?_)
    exact e_v F w hr hlocks (CS.keep hS hn hF2 hC2 hny) wdX2_keep_53
  · refine lv_aload_n hx hb wdX2_keep_25 rfl (lv_at hl 0 rfl) ?_
    refine f_2_1 F w (a := 71) rfl wtb_201 wdX2_keep_26 ?_
    refine r_val (v := (zI (nx : Int))) (((congrFun (hF2.1 71 (by omega) (by omega) (by omega)) 1).trans hn.1)) ?_
    refine lv_iconst (v := zI 1) hx hb wdX2_keep_29 rfl ?_
    refine z_iadd (z := (((nx + 1) : Nat) : Int)) hx hb wdX2_keep_30 (by omega) ?_
    refine lv_goto (tgt := 35) hx hb wdX2_keep_31 (by decide) ?_
    obtain ⟨ny, hny⟩ : ∃ ny : Nat, (nx + 1 < 12 ∧ ny = nx + 1) ∨ (nx = 11 ∧ ny = 0) := ⟨(nx + 1), by omega⟩
    refine r_val (v := zI ((ny : Nat) : Int)) (congrArg zI (by omega)) ?_
    refine u_2_1 F w (a := 71) rfl wtb_201 wdX2_keep_35 (fun H locs w => ?_)
    refine lv_aload_n hx hb wdX2_keep_38 rfl (lv_at hl 0 rfl) ?_
    refine lv_aload_n hx hb wdX2_keep_39 rfl (lv_at hl 0 rfl) ?_
    refine f_2_2 F w (a := 71) rfl wtb_203 wdX2_keep_40 ?_
    refine r_val (v := (zI (k : Int))) ((st_ne (Or.inr (by omega))).trans (((congrFun (hF2.1 71 (by omega) (by omega) (by omega)) 2).trans hn.2.2.1))) ?_
    refine lv_iconst (v := zI 1) hx hb wdX2_keep_43 rfl ?_
    refine z_iadd (z := (((k + 1) : Nat) : Int)) hx hb wdX2_keep_44 (by omega) ?_
    refine lv_bipush (v := zI 12) hx hb wdX2_keep_45 (by decide) ?_
    refine g_min F hl.1 wtb_204 wtb_205 wtb_39 wtq_min (Nat.le_of_ble_eq_true rfl) (Nat.le_of_ble_eq_true rfl) (Nat.zero_le _) (Nat.zero_le _) (v := (zI (((phK k) : Nat) : Int))) (min_zK (by omega)) wdX2_keep_47 ?_
    refine u_2_2 F w (a := 71) rfl wtb_203 wdX2_keep_50 (fun H locs w => ?_)
    exact e_v F w hr hlocks (CS.keep hS hn hF2 hC2 hny) wdX2_keep_53
theorem wdX2_giveBack_0 : decode cX2_giveBack 0 = .ok (.aload_n 0, 1) := dq0 kk_42 (by decide +kernel)
theorem wdX2_giveBack_1 : decode cX2_giveBack 1 = .ok (.getfield 21, 3) := dqV kk_180 (by decide +kernel)
theorem wdX2_giveBack_4 : decode cX2_giveBack 4 = .ok (.ifCond .le 48, 3) := dqT kk_158 (by decide +kernel)
theorem wdX2_giveBack_7 : decode cX2_giveBack 7 = .ok (.aload_n 0, 1) := dq0 kk_42 (by decide +kernel)
theorem wdX2_giveBack_8 : decode cX2_giveBack 8 = .ok (.aload_n 0, 1) := dq0 kk_42 (by decide +kernel)
theorem wdX2_giveBack_9 : decode cX2_giveBack 9 = .ok (.getfield 17, 3) := dqV kk_180 (by decide +kernel)
theorem wdX2_giveBack_12 : decode cX2_giveBack 12 = .ok (.ifCond .le 12, 3) := dqT kk_158 (by decide +kernel)
theorem wdX2_giveBack_24 : decode cX2_giveBack 24 = .ok (.bipush 11, 2) := dqS kk_16 (by decide +kernel)
theorem wdX2_giveBack_26 : decode cX2_giveBack 26 = .ok (.putfield 17, 3) := dqV kk_181 (by decide +kernel)
theorem wdX2_giveBack_29 : decode cX2_giveBack 29 = .ok (.aload_n 0, 1) := dq0 kk_42 (by decide +kernel)
theorem wdX2_giveBack_30 : decode cX2_giveBack 30 = .ok (.dup, 1) := dq0 kk_89 (by decide +kernel)
theorem wdX2_giveBack_31 : decode cX2_giveBack 31 = .ok (.getfield 21, 3) := dqV kk_180 (by decide +kernel)
theorem wdX2_giveBack_34 : decode cX2_giveBack 34 = .ok (.iconst 1, 1) := dq0 kk_4 (by decide +kernel)
theorem wdX2_giveBack_35 : decode cX2_giveBack 35 = .ok (.isub, 1) := dq0 kk_100 (by decide +kernel)
theorem wdX2_giveBack_36 : decode cX2_giveBack 36 = .ok (.putfield 21, 3) := dqV kk_181 (by decide +kernel)
theorem wdX2_giveBack_39 : decode cX2_giveBack 39 = .ok (.aload_n 1, 1) := dq0 kk_43 (by decide +kernel)
theorem wdX2_giveBack_40 : decode cX2_giveBack 40 = .ok (.aload_n 0, 1) := dq0 kk_42 (by decide +kernel)
theorem wdX2_giveBack_41 : decode cX2_giveBack 41 = .ok (.getfield 11, 3) := dqV kk_180 (by decide +kernel)
theorem wdX2_giveBack_44 : decode cX2_giveBack 44 = .ok (.aload_n 0, 1) := dq0 kk_42 (by decide +kernel)
theorem wdX2_giveBack_45 : decode cX2_giveBack 45 = .ok (.getfield 17, 3) := dqV kk_180 (by decide +kernel)
theorem wdX2_giveBack_48 : decode cX2_giveBack 48 = .ok (.aaload, 1) := dq0 kk_50 (by decide +kernel)
theorem wdX2_giveBack_49 : decode cX2_giveBack 49 = .ok (.invokevirtual 25, 3) := dqV kk_182 (by decide +kernel)
theorem wdX2_giveBack_52 : decode cX2_giveBack 52 = .ok (.return_, 1) := dq0 kk_177 (by decide +kernel)
theorem wdX2_giveBack_15 : decode cX2_giveBack 15 = .ok (.aload_n 0, 1) := dq0 kk_42 (by decide +kernel)
theorem wdX2_giveBack_16 : decode cX2_giveBack 16 = .ok (.getfield 17, 3) := dqV kk_180 (by decide +kernel)
theorem wdX2_giveBack_19 : decode cX2_giveBack 19 = .ok (.iconst 1, 1) := dq0 kk_4 (by decide +kernel)
theorem wdX2_giveBack_20 : decode cX2_giveBack 20 = .ok (.isub, 1) := dq0 kk_100 (by decide +kernel)
theorem wdX2_giveBack_21 : decode cX2_giveBack 21 = .ok (.goto 5, 3) := dqT kk_167 (by decide +kernel)
set_option maxRecDepth 4000 in
theorem g_giveBack {l : Launch} {D : va_G} {B : Nat} {cy : Nat → ClassId} {M : Mem} {Ps : Nat → Nat → Int} {mr rd k : Nat} {x : Fw} {Hs : Nat → Fw} (hS : CS M Ps mr x rd Hs k) {nx : Nat} (hn : HC M Hs k nx) (hk1 : 1 ≤ k) : Cv l D B cy yX2_giveBack cX2_giveBack 2 2 61 [.ref (B + 71), .ref (B + 44)] M (fun M1 => CF M1 44 (Hs (k - 1)) ∧ (∃ ny, HC M1 Hs (k - 1) ny) ∧ ∀ b, b < 44 ∨ (47 ≤ b ∧ b ≠ 71) → M1.1 b = M.1 b) := by
  refine s_any (by decide) (Nat.le_of_ble_eq_true rfl) ?_
  intro p e s m below meth c ls F hr hlocks w hl
  have F : CallFix p m c cX2_giveBack 2 s _ TB RX2 := F
  have hx := F.1
  have hb := F.2.1
  have hl : lv_has ls 2 [(0, .ref (B + 71)), (1, .ref (B + 44))] := hl
  have hm8 := hS.1.2.1
  have hrd := hS.2.1.2.1
  have hnx := hn.2.1
  have hk12 := hn.2.2.2.1
  refine lv_aload_n hx hb wdX2_giveBack_0 rfl (lv_at hl 0 rfl) ?_
  refine f_2_2 F w (a := 71) rfl wtb_203 wdX2_giveBack_1 ?_
  refine r_val (v := (zI (k : Int))) (hn.2.2.1) ?_
  refine z_if_le (tgt := 52) hx hb (by omega) wdX2_giveBack_4 (by decide) (fun c1 => False.elim (by omega)) (fun c1 => ?_)
  refine lv_aload_n hx hb wdX2_giveBack_7 rfl (lv_at hl 0 rfl) ?_
  refine lv_aload_n hx hb wdX2_giveBack_8 rfl (lv_at hl 0 rfl) ?_
  refine f_2_1 F w (a := 71) rfl wtb_201 wdX2_giveBack_9 ?_
  refine r_val (v := (zI (nx : Int))) (hn.1) ?_
  refine z_if_le (tgt := 24) hx hb (by omega) wdX2_giveBack_12 (by decide) (fun c2 => ?_) (fun c2 => ?_)
  · refine lv_bipush (v := zI 11) hx hb wdX2_giveBack_24 (by decide) ?_
    obtain ⟨ny, hny⟩ : ∃ ny : Nat, (0 < nx ∧ ny = nx - 1) ∨ (nx = 0 ∧ ny = 11) := ⟨11, by omega⟩
    refine r_val (v := zI ((ny : Nat) : Int)) (congrArg zI (by omega)) ?_
    refine u_2_1 F w (a := 71) rfl wtb_201 wdX2_giveBack_26 (fun H locs w => ?_)
    refine lv_aload_n hx hb wdX2_giveBack_29 rfl (lv_at hl 0 rfl) ?_
    refine lv_dup hx hb wdX2_giveBack_30 rfl ?_
    refine f_2_2 F w (a := 71) rfl wtb_203 wdX2_giveBack_31 ?_
    refine r_val (v := (zI (k : Int))) ((st_ne (Or.inr (by omega))).trans (hn.2.2.1)) ?_
    refine lv_iconst (v := zI 1) hx hb wdX2_giveBack_34 rfl ?_
    refine z_isub (z := ((k : Int) - 1)) hx hb wdX2_giveBack_35 (by omega) ?_
    refine r_val (v := zI ((k - 1 : Nat) : Int)) (congrArg zI (by omega)) ?_
    refine u_2_2 F w (a := 71) rfl wtb_203 wdX2_giveBack_36 (fun H locs w => ?_)
    refine lv_aload_n hx hb wdX2_giveBack_39 rfl (lv_at hl 1 rfl) ?_
    refine lv_aload_n hx hb wdX2_giveBack_40 rfl (lv_at hl 0 rfl) ?_
    refine f_2_0 F w (a := 71) rfl wtb_200 wdX2_giveBack_41 ?_
    refine lv_aload_n hx hb wdX2_giveBack_44 rfl (lv_at hl 0 rfl) ?_
    refine f_2_1 F w (a := 71) rfl wtb_201 wdX2_giveBack_45 ?_
    refine r_val (v := (zI (ny : Int))) ((st_ne (Or.inr (by omega))).trans st_at) ?_
    refine g_aldW F w (a := 72) rfl (j := ny) (o := (73 + 3 * ny)) rfl (ix_n (by omega)) (by omega) wdX2_giveBack_48 ?_
    have hCt : CF (st (st M 71 1 (zI (ny : Int))) 71 2 (zI (((k - 1) : Nat) : Int))) (73 + 3 * ny) (Hs (k - 1)) := (hn.top hk1 hny).fr (by rw [st_ob (by omega), st_ob (by omega)]) (by rw [st_ob (by omega), st_ob (by omega)]) (by rw [st_ob (by omega), st_ob (by omega)])
    have hHC : HC (st (st M 71 1 (zI (ny : Int))) 71 2 (zI (((k - 1) : Nat) : Int))) Hs (k - 1) ny := hn.pop hk1 (fun b a1 a2 => by rw [st_ob (by omega), st_ob (by omega)]) hny (by rw [st_ne (Or.inr (by decide))]; exact st_at) st_at
    refine k_Vv F w (As := [.ref (B + (73 + 3 * ny))]) (rest := []) (a := 44) (kd_lt (a := 44) (show kd 44 = (9, 0, 0) from rfl) (by decide)) (sh_9 rfl _ _) rfl (s_X9_copyFrom (a := 44) rfl (b := 73 + 3 * ny) (kd_rn (by omega)) hCt.1 (by omega) hCt.2.1.1) wgv_X2_25 whv_X9_copyFrom ⟨(Nat.le_of_ble_eq_true rfl), (Nat.le_of_ble_eq_true rfl)⟩ hl.1 rfl (Nat.le_of_ble_eq_true rfl) ⟨Nat.zero_le _, Nat.zero_le _⟩ wdX2_giveBack_49 (fun Ma3 H locs hp w => ?_)
    rcases hp with ⟨hW2, hF2⟩
    have hC2 : CF Ma3 44 (Hs (k - 1)) := ⟨hW2, hCt.2⟩
    exact e_v F w hr hlocks ⟨hC2, ⟨ny, hHC.fr (fun b a1 a2 => hF2.1 b (by omega) (by omega) (by omega))⟩, fun b hb => (hF2.1 b (by omega) (by omega) (by omega)).trans (by rw [st_ob (by omega), st_ob (by omega)])⟩ wdX2_giveBack_52
  · refine lv_aload_n hx hb wdX2_giveBack_15 rfl (lv_at hl 0 rfl) ?_
    refine f_2_1 F w (a := 71) rfl wtb_201 wdX2_giveBack_16 ?_
    refine r_val (v := (zI (nx : Int))) (hn.1) ?_
    refine lv_iconst (v := zI 1) hx hb wdX2_giveBack_19 rfl ?_
    refine z_isub (z := ((nx : Int) - 1)) hx hb wdX2_giveBack_20 (by omega) ?_
    refine lv_goto (tgt := 26) hx hb wdX2_giveBack_21 (by decide) ?_
    obtain ⟨ny, hny⟩ : ∃ ny : Nat, (0 < nx ∧ ny = nx - 1) ∨ (nx = 0 ∧ ny = 11) := ⟨nx - 1, by omega⟩
    refine r_val (v := zI ((ny : Nat) : Int)) (congrArg zI (by omega)) ?_
    refine u_2_1 F w (a := 71) rfl wtb_201 wdX2_giveBack_26 (fun H locs w => ?_)
    refine lv_aload_n hx hb wdX2_giveBack_29 rfl (lv_at hl 0 rfl) ?_
    refine lv_dup hx hb wdX2_giveBack_30 rfl ?_
    refine f_2_2 F w (a := 71) rfl wtb_203 wdX2_giveBack_31 ?_
    refine r_val (v := (zI (k : Int))) ((st_ne (Or.inr (by omega))).trans (hn.2.2.1)) ?_
    refine lv_iconst (v := zI 1) hx hb wdX2_giveBack_34 rfl ?_
    refine z_isub (z := ((k : Int) - 1)) hx hb wdX2_giveBack_35 (by omega) ?_
    refine r_val (v := zI ((k - 1 : Nat) : Int)) (congrArg zI (by omega)) ?_
    refine u_2_2 F w (a := 71) rfl wtb_203 wdX2_giveBack_36 (fun H locs w => ?_)
    refine lv_aload_n hx hb wdX2_giveBack_39 rfl (lv_at hl 1 rfl) ?_
    refine lv_aload_n hx hb wdX2_giveBack_40 rfl (lv_at hl 0 rfl) ?_
    refine f_2_0 F w (a := 71) rfl wtb_200 wdX2_giveBack_41 ?_
    refine lv_aload_n hx hb wdX2_giveBack_44 rfl (lv_at hl 0 rfl) ?_
    refine f_2_1 F w (a := 71) rfl wtb_201 wdX2_giveBack_45 ?_
    refine r_val (v := (zI (ny : Int))) ((st_ne (Or.inr (by omega))).trans st_at) ?_
    refine g_aldW F w (a := 72) rfl (j := ny) (o := (73 + 3 * ny)) rfl (ix_n (by omega)) (by omega) wdX2_giveBack_48 ?_
    have hCt : CF (st (st M 71 1 (zI (ny : Int))) 71 2 (zI (((k - 1) : Nat) : Int))) (73 + 3 * ny) (Hs (k - 1)) := (hn.top hk1 hny).fr (by rw [st_ob (by omega), st_ob (by omega)]) (by rw [st_ob (by omega), st_ob (by omega)]) (by rw [st_ob (by omega), st_ob (by omega)])
    have hHC : HC (st (st M 71 1 (zI (ny : Int))) 71 2 (zI (((k - 1) : Nat) : Int))) Hs (k - 1) ny := hn.pop hk1 (fun b a1 a2 => by rw [st_ob (by omega), st_ob (by omega)]) hny (by rw [st_ne (Or.inr (by decide))]; exact st_at) st_at
    refine k_Vv F w (As := [.ref (B + (73 + 3 * ny))]) (rest := []) (a := 44) (kd_lt (a := 44) (show kd 44 = (9, 0, 0) from rfl) (by decide)) (sh_9 rfl _ _) rfl (s_X9_copyFrom (a := 44) rfl (b := 73 + 3 * ny) (kd_rn (by omega)) hCt.1 (by omega) hCt.2.1.1) wgv_X2_25 whv_X9_copyFrom ⟨(Nat.le_of_ble_eq_true rfl), (Nat.le_of_ble_eq_true rfl)⟩ hl.1 rfl (Nat.le_of_ble_eq_true rfl) ⟨Nat.zero_le _, Nat.zero_le _⟩ wdX2_giveBack_49 (fun Ma4 H locs hp w => ?_)
    rcases hp with ⟨hW2, hF2⟩
    have hC2 : CF Ma4 44 (Hs (k - 1)) := ⟨hW2, hCt.2⟩
    exact e_v F w hr hlocks ⟨hC2, ⟨ny, hHC.fr (fun b a1 a2 => hF2.1 b (by omega) (by omega) (by omega))⟩, fun b hb => (hF2.1 b (by omega) (by omega) (by omega)).trans (by rw [st_ob (by omega), st_ob (by omega)])⟩ wdX2_giveBack_52
theorem wdX11_outdate_0 : decode cX11_outdate 0 = .ok (.aload_n 0, 1) := rdX11_outdate_0
theorem wdX11_outdate_1 : decode cX11_outdate 1 = .ok (.getfield 35, 3) := rdX11_outdate_1
theorem wtb_207 : Cond.fieldLink "ToneLines" 35 "ToneLines" "derivation" "LToneLines$Derivation;" ∈ TB := rtb_95
theorem wdX11_outdate_4 : decode cX11_outdate 4 = .ok (.iconst 0, 1) := rdX11_outdate_4
theorem wdX11_outdate_5 : decode cX11_outdate 5 = .ok (.putfield 301, 3) := rdX11_outdate_5
theorem wtb_208 : Cond.fieldLink "ToneLines" 301 "ToneLines$Derivation" "ready" "I" ∈ TB := rtb_96
theorem wdX11_outdate_8 : decode cX11_outdate 8 = .ok (.aload_n 0, 1) := rdX11_outdate_8
theorem wdX11_outdate_9 : decode cX11_outdate 9 = .ok (.getfield 54, 3) := rdX11_outdate_9
theorem wtb_209 : Cond.fieldLink "ToneLines" 54 "ToneLines" "ordering" "LToneLines$Orders;" ∈ TB := rtb_97
theorem wdX11_outdate_12 : decode cX11_outdate 12 = .ok (.iconst 0, 1) := rdX11_outdate_12
theorem wdX11_outdate_13 : decode cX11_outdate 13 = .ok (.putfield 271, 3) := rdX11_outdate_13
theorem wtb_210 : Cond.fieldLink "ToneLines" 271 "ToneLines$Orders" "inDate" "Z" ∈ TB := rtb_98
theorem wdX11_outdate_16 : decode cX11_outdate 16 = .ok (.aload_n 0, 1) := rdX11_outdate_16
theorem wdX11_outdate_17 : decode cX11_outdate 17 = .ok (.getfield 61, 3) := rdX11_outdate_17
theorem wtb_211 : Cond.fieldLink "ToneLines" 61 "ToneLines" "alikes" "LToneLines$Sources;" ∈ TB := rtb_99
theorem wdX11_outdate_20 : decode cX11_outdate 20 = .ok (.iconst 0, 1) := rdX11_outdate_20
theorem wdX11_outdate_21 : decode cX11_outdate 21 = .ok (.putfield 304, 3) := rdX11_outdate_21
theorem wtb_212 : Cond.fieldLink "ToneLines" 304 "ToneLines$Sources" "known" "I" ∈ TB := rtb_100
theorem wdX11_outdate_24 : decode cX11_outdate 24 = .ok (.return_, 1) := rdX11_outdate_24
set_option maxRecDepth 4000 in
theorem g_outdate {l : Launch} {D : va_G} {B : Nat} {cy : Nat → ClassId} {M : Mem}  : Cv l D B cy yX11_outdate cX11_outdate 1 0 0 [.ref (B + 0)] M (fun M1 => M1 = st (st (st M 22 7 (zI 0)) 109 0 (zI 0)) 135 0 (zI 0)) := by
  refine s_any (by decide) (Nat.le_of_ble_eq_true rfl) ?_
  intro p e s m below meth c ls F hr hlocks w hl
  have F : CallFix p m c cX11_outdate 1 s _ TB RX11 := F
  have hx := F.1
  have hb := F.2.1
  have hl : lv_has ls 1 [(0, .ref (B + 0))] := hl
  refine lv_aload_n hx hb wdX11_outdate_0 rfl (lv_at hl 0 rfl) ?_
  refine f_11_3 F w (a := 0) rfl wtb_207 wdX11_outdate_1 ?_
  refine lv_iconst (v := zI 0) hx hb wdX11_outdate_4 rfl ?_
  refine u_0_7 F w (a := 22) rfl wtb_208 wdX11_outdate_5 (fun H locs w => ?_)
  refine lv_aload_n hx hb wdX11_outdate_8 rfl (lv_at hl 0 rfl) ?_
  refine f_11_6 F w (a := 0) rfl wtb_209 wdX11_outdate_9 ?_
  refine lv_iconst (v := zI 0) hx hb wdX11_outdate_12 rfl ?_
  refine u_3_0 F w (a := 109) rfl (by decide) (by decide) wtb_210 wdX11_outdate_13 (fun H locs w => ?_)
  refine lv_aload_n hx hb wdX11_outdate_16 rfl (lv_at hl 0 rfl) ?_
  refine f_11_7 F w (a := 0) rfl wtb_211 wdX11_outdate_17 ?_
  refine lv_iconst (v := zI 0) hx hb wdX11_outdate_20 rfl ?_
  refine u_6_0 F w (a := 135) rfl wtb_212 wdX11_outdate_21 (fun H locs w => ?_)
  exact e_v F w hr hlocks rfl wdX11_outdate_24
theorem wdX11_beginAct_0 : decode cX11_beginAct 0 = .ok (.aload_n 0, 1) := dq0 kk_42 (by decide +kernel)
theorem wdX11_beginAct_1 : decode cX11_beginAct 1 = .ok (.getfield 47, 3) := dqV kk_180 (by decide +kernel)
theorem wtb_213 : Cond.fieldLink "ToneLines" 47 "ToneLines" "history" "LToneLines$History;" ∈ TB := tbm (tc2 (List.mem_of_getElem? (i := 62) rfl)) rfl
theorem wdX11_beginAct_4 : decode cX11_beginAct 4 = .ok (.aload_n 0, 1) := dq0 kk_42 (by decide +kernel)
theorem wdX11_beginAct_5 : decode cX11_beginAct 5 = .ok (.getfield 43, 3) := dqV kk_180 (by decide +kernel)
theorem wtb_214 : Cond.fieldLink "ToneLines" 43 "ToneLines" "told" "LToneLines$Word;" ∈ TB := tbm (tc2 (List.mem_of_getElem? (i := 61) rfl)) rfl
theorem wdX11_beginAct_8 : decode cX11_beginAct 8 = .ok (.invokevirtual 298, 3) := dqV kk_182 (by decide +kernel)
theorem wtk_X2_keep : Cond.code yX2_keep cX2_keep 2 none ∈ TB := tbm (tc3 (List.mem_of_getElem? (i := 145) rfl)) rfl
theorem wgc_X2_keep : GoodIn TB (cw yX2_keep cX2_keep 2 none) := goodIn_c2 wtk_X2_keep
theorem wtb_215 : Cond.methodLink "ToneLines" 298 yX2_keep ∈ TB := tbm (tc3 (List.mem_of_getElem? (i := 142) rfl)) rfl
theorem wtb_216 : Cond.instanceMethod yX2_keep ∈ TB := tbm (tc3 (List.mem_of_getElem? (i := 143) rfl)) rfl
theorem wtb_217 : Cond.selects "ToneLines$History" yX2_keep yX2_keep ∈ TB := tbm (tc3 (List.mem_of_getElem? (i := 144) rfl)) rfl
theorem wtb_218 : Cond.initialized "ToneLines$History" ∈ TB := tbm (tc1 (List.mem_of_getElem? (i := 9) rfl)) rfl
theorem wgv_X11_298 : GoodIn TB (wsV RX11 298 RX2 yX2_keep (cw yX2_keep cX2_keep 2 none)) := goodIn_4 wtb_215 wtb_216 wtb_217 wtb_218 wgc_X2_keep
theorem whv_X2_keep : yX2_keep.cls = RX2 ∧ yX2_keep.cls ≠ "java/lang/invoke/MethodHandle" ∧ yX2_keep.cls ≠ "java/lang/invoke/VarHandle" ∧ (parseMethodDescriptor yX2_keep.desc).map (fun d => d.parameters.length) = some 1 := by decide +kernel
theorem wdX11_beginAct_11 : decode cX11_beginAct 11 = .ok (.aload_n 0, 1) := dq0 kk_42 (by decide +kernel)
theorem wdX11_beginAct_12 : decode cX11_beginAct 12 = .ok (.invokevirtual 97, 3) := dqV kk_182 (by decide +kernel)
theorem wtk_X11_outdate : Cond.code yX11_outdate cX11_outdate 1 none ∈ TB := rtk_X11_outdate
theorem wgc_X11_outdate : GoodIn TB (cw yX11_outdate cX11_outdate 1 none) := goodIn_c2 wtk_X11_outdate
theorem wtb_219 : Cond.methodLink "ToneLines" 97 yX11_outdate ∈ TB := rtb_113
theorem wtb_220 : Cond.instanceMethod yX11_outdate ∈ TB := rtb_114
theorem wtb_221 : Cond.selects "ToneLines" yX11_outdate yX11_outdate ∈ TB := rtb_115
theorem wgv_X11_97 : GoodIn TB (wsV RX11 97 RX11 yX11_outdate (cw yX11_outdate cX11_outdate 1 none)) := goodIn_4 wtb_219 wtb_220 wtb_221 wtb_5 wgc_X11_outdate
theorem whv_X11_outdate : yX11_outdate.cls = RX11 ∧ yX11_outdate.cls ≠ "java/lang/invoke/MethodHandle" ∧ yX11_outdate.cls ≠ "java/lang/invoke/VarHandle" ∧ (parseMethodDescriptor yX11_outdate.desc).map (fun d => d.parameters.length) = some 0 := rhv_X11_outdate
theorem wdX11_beginAct_15 : decode cX11_beginAct 15 = .ok (.return_, 1) := dq0 kk_177 (by decide +kernel)
set_option maxRecDepth 4000 in
theorem g_beginAct {l : Launch} {D : va_G} {B : Nat} {cy : Nat → ClassId} {M : Mem} {Ps : Nat → Nat → Int} {mr rd k : Nat} {x : Fw} {Hs : Nat → Fw} (hS : CS M Ps mr x rd Hs k)  : Cv l D B cy yX11_beginAct cX11_beginAct 1 3 82 [.ref (B + 0)] M (fun M1 => CS M1 Ps mr x 0 (phH Hs k x) (phK k) ∧ FB M1 M) := by
  refine s_any (by decide) (Nat.le_of_ble_eq_true rfl) ?_
  intro p e s m below meth c ls F hr hlocks w hl
  have F : CallFix p m c cX11_beginAct 1 s _ TB RX11 := F
  have hx := F.1
  have hb := F.2.1
  have hl : lv_has ls 1 [(0, .ref (B + 0))] := hl
  obtain ⟨nx, hn⟩ := hS.2.2
  refine lv_aload_n hx hb wdX11_beginAct_0 rfl (lv_at hl 0 rfl) ?_
  refine f_11_5 F w (a := 0) rfl wtb_213 wdX11_beginAct_1 ?_
  refine lv_aload_n hx hb wdX11_beginAct_4 rfl (lv_at hl 0 rfl) ?_
  refine f_11_4 F w (a := 0) rfl wtb_214 wdX11_beginAct_5 ?_
  refine k_Vv F w (As := [.ref (B + 44)]) (rest := []) (a := 71) (kd_lt (a := 71) (show kd 71 = (2, 0, 0) from rfl) (by decide)) (sh_2 rfl _ _) rfl (g_keep hS hn) wgv_X11_298 whv_X2_keep ⟨(Nat.le_of_ble_eq_true rfl), (Nat.le_of_ble_eq_true rfl)⟩ hl.1 rfl (Nat.le_of_ble_eq_true rfl) ⟨Nat.zero_le _, Nat.zero_le _⟩ wdX11_beginAct_8 (fun Ma1 H locs hp w => ?_)
  rcases hp with ⟨hS2, hF2⟩
  refine lv_aload_n hx hb wdX11_beginAct_11 rfl (lv_at hl 0 rfl) ?_
  refine x_Vv F w (As := []) (rest := []) (a := 0) (kd_lt (a := 0) (show kd 0 = (11, 0, 0) from rfl) (by decide)) (sh_11 rfl _ _) rfl (g_outdate) wgv_X11_97 whv_X11_outdate ⟨(Nat.le_of_ble_eq_true rfl), (Nat.le_of_ble_eq_true rfl)⟩ hl.1 rfl (Nat.le_of_ble_eq_true rfl) ⟨Nat.zero_le _, Nat.zero_le _⟩ wdX11_beginAct_12 (fun H locs w => ?_)
  exact e_v F w hr hlocks ⟨hS2.out, FB.of hF2⟩ wdX11_beginAct_15
theorem wdX11_becomes_0 : decode cX11_becomes 0 = .ok (.iload_n 2, 1) := dq0 kk_28 (by decide +kernel)
theorem wdX11_becomes_1 : decode cX11_becomes 1 = .ok (.ifCond .le 15, 3) := dqT kk_158 (by decide +kernel)
theorem wdX11_becomes_16 : decode cX11_becomes 16 = .ok (.return_, 1) := dq0 kk_177 (by decide +kernel)
theorem wdX11_becomes_4 : decode cX11_becomes 4 = .ok (.aload_n 0, 1) := dq0 kk_42 (by decide +kernel)
theorem wdX11_becomes_5 : decode cX11_becomes 5 = .ok (.invokevirtual 123, 3) := dqV kk_182 (by decide +kernel)
theorem wtk_X11_beginAct : Cond.code yX11_beginAct cX11_beginAct 1 none ∈ TB := tbm (tc3 (List.mem_of_getElem? (i := 141) rfl)) rfl
theorem wgc_X11_beginAct : GoodIn TB (cw yX11_beginAct cX11_beginAct 1 none) := goodIn_c2 wtk_X11_beginAct
theorem wtb_222 : Cond.methodLink "ToneLines" 123 yX11_beginAct ∈ TB := tbm (tc3 (List.mem_of_getElem? (i := 138) rfl)) rfl
theorem wtb_223 : Cond.instanceMethod yX11_beginAct ∈ TB := tbm (tc3 (List.mem_of_getElem? (i := 140) rfl)) rfl
theorem wtb_224 : Cond.selects "ToneLines" yX11_beginAct yX11_beginAct ∈ TB := tbp (List.mem_of_getElem? (i := 14) rfl) rfl
theorem wgv_X11_123 : GoodIn TB (wsV RX11 123 RX11 yX11_beginAct (cw yX11_beginAct cX11_beginAct 1 none)) := goodIn_4 wtb_222 wtb_223 wtb_224 wtb_5 wgc_X11_beginAct
theorem whv_X11_beginAct : yX11_beginAct.cls = RX11 ∧ yX11_beginAct.cls ≠ "java/lang/invoke/MethodHandle" ∧ yX11_beginAct.cls ≠ "java/lang/invoke/VarHandle" ∧ (parseMethodDescriptor yX11_beginAct.desc).map (fun d => d.parameters.length) = some 0 := by decide +kernel
theorem wdX11_becomes_8 : decode cX11_becomes 8 = .ok (.aload_n 0, 1) := dq0 kk_42 (by decide +kernel)
theorem wdX11_becomes_9 : decode cX11_becomes 9 = .ok (.getfield 43, 3) := dqV kk_180 (by decide +kernel)
theorem wdX11_becomes_12 : decode cX11_becomes 12 = .ok (.aload_n 1, 1) := dq0 kk_43 (by decide +kernel)
theorem wdX11_becomes_13 : decode cX11_becomes 13 = .ok (.invokevirtual 90, 3) := dqV kk_182 (by decide +kernel)
theorem wtb_225 : Cond.methodLink "ToneLines" 90 yX9_copyFrom ∈ TB := tbm (tc3 (List.mem_of_getElem? (i := 18) rfl)) rfl
theorem wgv_X11_90 : GoodIn TB (wsV RX11 90 RX9 yX9_copyFrom (cw yX9_copyFrom cX9_copyFrom 2 none)) := goodIn_4 wtb_225 wtb_186 wtb_187 wtb_3 wgc_X9_copyFrom
set_option maxRecDepth 4000 in
theorem g_becomes {l : Launch} {D : va_G} {B : Nat} {cy : Nat → ClassId} {M : Mem} {Ps : Nat → Nat → Int} {mr rd k : Nat} {x : Fw} {Hs : Nat → Fw} (hS : CS M Ps mr x rd Hs k) {a cc : Nat} {y : Fw} (hk : kd a = (9, 0, 0)) (hC : CF M a y) (ha : (47 ≤ a ∧ a ≤ 68) ∨ a = 143 ∨ cc = 0) (hcc : cc ≤ 1000000) : Cv l D B cy yX11_becomes cX11_becomes 3 4 102 [.ref (B + 0), .ref (B + a), .int (zI (cc : Int))] M (fun M1 => (0 < cc ∧ CS M1 Ps mr y 0 (phH Hs k x) (phK k) ∧ FA M1 M) ∨ (cc = 0 ∧ M1 = M)) := by
  refine s_any (by decide) (Nat.le_of_ble_eq_true rfl) ?_
  intro p e s m below meth c ls F hr hlocks w hl
  have F : CallFix p m c cX11_becomes 3 s _ TB RX11 := F
  have hx := F.1
  have hb := F.2.1
  have hl : lv_has ls 3 [(0, .ref (B + 0)), (1, .ref (B + a)), (2, .int (zI (cc : Int)))] := hl
  have hm8 := hS.1.2.1
  have hrd := hS.2.1.2.1
  refine lv_iload_n hx hb wdX11_becomes_0 rfl (lv_at hl 2 rfl) ?_
  refine z_if_le (tgt := 16) hx hb (by omega) wdX11_becomes_1 (by decide) (fun c1 => ?_) (fun c1 => ?_)
  · exact e_v F w hr hlocks (Or.inr ⟨by omega, rfl⟩) wdX11_becomes_16
  · refine lv_aload_n hx hb wdX11_becomes_4 rfl (lv_at hl 0 rfl) ?_
    refine k_Vv F w (As := []) (rest := []) (a := 0) (kd_lt (a := 0) (show kd 0 = (11, 0, 0) from rfl) (by decide)) (sh_11 rfl _ _) rfl (g_beginAct hS) wgv_X11_123 whv_X11_beginAct ⟨(Nat.le_of_ble_eq_true rfl), (Nat.le_of_ble_eq_true rfl)⟩ hl.1 rfl (Nat.le_of_ble_eq_true rfl) ⟨Nat.zero_le _, Nat.zero_le _⟩ wdX11_becomes_5 (fun Ma2 H locs hp w => ?_)
    rcases hp with ⟨hS1, hB1⟩
    refine lv_aload_n hx hb wdX11_becomes_8 rfl (lv_at hl 0 rfl) ?_
    refine f_11_4 F w (a := 0) rfl wtb_214 wdX11_becomes_9 ?_
    refine lv_aload_n hx hb wdX11_becomes_12 rfl (lv_at hl 1 rfl) ?_
    refine k_Vv F w (As := [.ref (B + a)]) (rest := []) (a := 44) (kd_lt (a := 44) (show kd 44 = (9, 0, 0) from rfl) (by decide)) (sh_9 rfl _ _) rfl (s_X9_copyFrom (a := 44) rfl (b := a) hk (CF.fr hC (hB1 _ (by omega)) (hB1 _ (by omega)) (hB1 _ (by omega))).1 (by omega) hC.2.1.1) wgv_X11_90 whv_X9_copyFrom ⟨(Nat.le_of_ble_eq_true rfl), (Nat.le_of_ble_eq_true rfl)⟩ hl.1 rfl (Nat.le_of_ble_eq_true rfl) ⟨Nat.zero_le _, Nat.zero_le _⟩ wdX11_becomes_13 (fun Ma3 H locs hp w => ?_)
    rcases hp with ⟨hW2, hF2⟩
    have hC2 : CF Ma3 44 y := ⟨hW2, hC.2⟩
    exact e_v F w hr hlocks (Or.inl ⟨by omega, hS1.told hF2 hC2, FA.of hB1 hF2⟩) wdX11_becomes_16
