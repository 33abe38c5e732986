theorem Cr_mono {l : Launch} {D : va_G} {B : Nat} {cy : Nat → ClassId} {y : MethodName} {cc : ByteArray} {n : Nat} {ret : Option FieldType} {fr lo fr2 lo2 : Nat} {av : List Value} {M : Mem} {post post2 : Nat → Mem → Prop} (h : Cr l D B cy y cc n ret fr2 lo2 av M post2) (hf : fr2 ≤ fr) (hl : lo2 ≤ lo) (hp : ∀ r M1, post2 r M1 → post r M1) : Cr l D B cy y cc n ret fr lo av M post := by
  intro p e ha hcs hk s m args below hfr happ hP hK
  obtain ⟨a1, a2, a3, a4, a5, a6, a7, a8⟩ := (Spec.appliesLoose_iff hfr).mp happ
  obtain ⟨n0, o0, w0, r0, e0, ⟨⟨u, r, ho1, hp1, hw1⟩, hF1⟩, hL1⟩ := h p e ha hcs hk s m args below hfr ((Spec.appliesLoose_iff hfr).mpr ⟨a1, a2, a3, a4, a5, a6, room_le hf hl a7, a8⟩) hP hK
  exact ⟨n0, o0, w0, r0, e0, ⟨⟨u, r, ho1, hp _ _ hp1, hw1⟩, hF1⟩, hL1⟩
-- a stage that isn't there: the word as told
set_option maxRecDepth 4000 in
theorem g_stageOf0 {l : Launch} {D : va_G} {B : Nat} {cy : Nat → ClassId} {M : Mem} {Ps : Nat → Nat → Int} {mr rd k : Nat} {x : Fw} {Hs : Nat → Fw} (hS : CS M Ps mr x rd Hs k) {n9 : Int} (hn9 : rg n9) (hno : ¬ (0 ≤ n9 ∧ n9 ≤ (mr : Int))) : Cr l D B cy yX0_stageOf cX0_stageOf 3 (some (.object "ToneLines$Word")) 5 133 [.ref (B + 22), .int (zI n9)] M (fun r M1 => r = 44 ∧ M1 = M) := by
  refine s_any (by decide) (Nat.le_of_ble_eq_true rfl) ?_
  intro p e s m below meth c ls F hr hlocks w hl
  have F : CallFix p m c cX0_stageOf 3 s _ TB RX0 := F
  have hx := F.1
  have hb := F.2.1
  have hl : lv_has ls 3 [(0, .ref (B + 22)), (1, .int (zI n9))] := hl
  refine lv_aload_n hx hb dX0_stageOf_0 rfl (lv_at hl 0 rfl) ?_
  refine lv_iload_n hx hb dX0_stageOf_1 rfl (lv_at hl 1 rfl) ?_
  refine k_Vi F w (As := [.int (zI n9)]) (rest := []) (a := 22) (kd_lt (a := 22) (show kd 22 = (0, 0, 0) from rfl) (by decide)) (sh_0 rfl _ _) rfl (g_covers hS (n9 := n9) hn9) gv_X0_60 hv_X0_covers ⟨(Nat.le_of_ble_eq_true rfl), (Nat.le_of_ble_eq_true rfl)⟩ hl.1 rfl (Nat.le_of_ble_eq_true rfl) ⟨Nat.zero_le _, Nat.zero_le _⟩ dX0_stageOf_2 (fun r Ma2 H locs hp w => ?_)
  rcases hp with ⟨⟨hb1, rfl⟩ | ⟨hb1, rfl⟩, hMe⟩
  · exact absurd hb1 hno
  · rw [hMe] at w
    refine z_if_ne (tgt := 13) hx hb (by omega) dX0_stageOf_5 (by decide) (fun c4 => False.elim (by omega)) (fun c4 => ?_)
    refine lv_aload_n hx hb dX0_stageOf_8 rfl (lv_at hl 0 rfl) ?_
    refine f_0_4 F w (a := 22) rfl tb_200 dX0_stageOf_9 ?_
    exact e_r (post := fun r M1 => r = 44 ∧ M1 = M) F w hr hlocks ⟨rfl, rfl⟩ dX0_stageOf_12
theorem gq_stageOf {l : Launch} {D : va_G} {B : Nat} {cy : Nat → ClassId} {M : Mem} {Pg : Nat → Nat → Int} {mg kg : Nat} {xg : Fw} {Hg : Nat → Fw} {x : Int} (hx : (-2147483648) ≤ x ∧ x ≤ 2147483647) (hI : IvG Pg mg xg Hg kg M) : Cr l D B cy yX0_stageOf cX0_stageOf 3 (some (.object "ToneLines$Word")) 5 133 [.ref (B + 22), .int (zI x)] M (fun r M1 => ∃ z : Nat, r = z ∧ (kd z = (9, 0, 0) ∧ 44 ≤ z ∧ z ≤ 68) ∧ IvG Pg mg xg Hg kg M1 ∧ Fr (fun b9 k9 => (b9 = 22 ∧ k9 = 7) ∨ (b9 = 23 ∧ k9 = 0) ∨ b9 = 26 ∨ b9 = 27 ∨ (44 ≤ b9 ∧ b9 ≤ 70)) M1 M) := by
  obtain ⟨hI1, rd, hC⟩ := hI
  by_cases hn : 0 ≤ x ∧ x ≤ (mg : Int)
  · obtain ⟨n9, rfl⟩ : ∃ n9 : Nat, x = (n9 : Int) := ⟨x.toNat, by omega⟩
    refine Cr_mono (Cr_and2 (q_X0_stageOf hx hI1) (g_stageOf hC (n9 := n9) (by omega)) (by decide) (by decide)) (by decide) (by decide) (fun r M1 hp => ?_)
    obtain ⟨⟨z, hz, hkz, hIn, hFr⟩, M2, hA, _, rd1, _, _, hC1, _⟩ := hp
    exact ⟨z, hz, hkz, ⟨hIn, rd1, hC1.ag hA⟩, hFr⟩
  · refine Cr_mono (Cr_and2 (q_X0_stageOf hx hI1) (g_stageOf0 hC (by constructor <;> omega) hn) (by decide) (by decide)) (by decide) (by decide) (fun r M1 hp => ?_)
    obtain ⟨⟨z, hz, hkz, hIn, hFr⟩, M2, hA, _, hM⟩ := hp
    rw [hM] at hA
    exact ⟨z, hz, hkz, ⟨hIn, rd, hC.ag hA⟩, hFr⟩
set_option maxRecDepth 4000 in
theorem gq_X11_has {l : Launch} {D : va_G} {B : Nat} {cy : Nat → ClassId} {M : Mem} {Pg : Nat → Nat → Int} {mg kg : Nat} {xg : Fw} {Hg : Nat → Fw} {x : Int} (hx : (-2147483648) ≤ x ∧ x ≤ 2147483647) {x1 : Int} (hx1 : (-2147483648) ≤ x1 ∧ x1 ≤ 2147483647) (hI : IvG Pg mg xg Hg kg M) : Ci l D B cy yX11_has cX11_has 4 (some .int) 6 155 [.ref (B + 0), .int (zI x), .int (zI x1)] M (fun r M1 => ∃ z : Int, r = zI z ∧ ((-2147483648) ≤ z ∧ z ≤ 2147483647) ∧ IvG Pg mg xg Hg kg M1 ∧ Fr (fun b9 k9 => (b9 = 22 ∧ k9 = 7) ∨ (b9 = 23 ∧ k9 = 0) ∨ b9 = 26 ∨ b9 = 27 ∨ (44 ≤ b9 ∧ b9 ≤ 70)) M1 M) := by
  refine s_anyQ (by decide) (Nat.le_of_ble_eq_true rfl) ?_
  intro p e s m args below meth c ls Q F hr hlocks hQ w hl
  have F : CallFix p m c cX11_has 4 s args TB RX11 := F
  have hx := F.1
  have hb := F.2.1
  have hl : lv_has ls 4 [(0, .ref (B + 0)), (1, .int (zI x)), (2, .int (zI x1))] := hl
  have hF : Fr (fun b9 k9 => (b9 = 22 ∧ k9 = 7) ∨ (b9 = 23 ∧ k9 = 0) ∨ b9 = 26 ∨ b9 = 27 ∨ (44 ≤ b9 ∧ b9 ≤ 70)) M M := Fr.rf
  refine lv_aload_n hx hb dX11_has_0 rfl (lv_at hl 0 rfl) ?_
  refine f_11_3 F w (a := 0) rfl tb_273 dX11_has_1 ?_
  refine lv_iload_n hx hb dX11_has_4 rfl (lv_at hl 1 rfl) ?_
  refine k_Vi F w (As := [.int (zI x)]) (rest := []) (a := 22) (kd_lt (a := 22) (show kd 22 = (0, 0, 0) from rfl) (by decide)) (sh_0 rfl _ _) rfl (q_X0_covers (x := x) (by omega)  (hI).1) gv_X11_193 hv_X0_covers ⟨(Nat.le_of_ble_eq_true rfl), (Nat.le_of_ble_eq_true rfl)⟩ hl.1 rfl (Nat.le_of_ble_eq_true rfl) ⟨Nat.zero_le _, Nat.zero_le _⟩ dX11_has_5 (fun r1 N2 H locs hp w => ?_)
  obtain ⟨z3, rfl, bz3, xz3, hMN2⟩ := hp
  rw [hMN2] at w
  refine z_if_ne (tgt := 13) hx hb (by omega) dX11_has_8 (by decide) (fun c4 => ?_) (fun c4 => ?_)
  · refine lv_aload_n hx hb dX11_has_13 rfl (lv_at hl 0 rfl) ?_
    refine f_11_3 F w (a := 0) rfl tb_273 dX11_has_14 ?_
    refine lv_iload_n hx hb dX11_has_17 rfl (lv_at hl 1 rfl) ?_
    refine k_Vr F w (As := [.int (zI x)]) (rest := []) (a := 22) (kd_lt (a := 22) (show kd 22 = (0, 0, 0) from rfl) (by decide)) (sh_0 rfl _ _) rfl (gq_stageOf (x := x) (by omega)  hI) gv_X11_196 hv_X0_stageOf ⟨(Nat.le_of_ble_eq_true rfl), (Nat.le_of_ble_eq_true rfl)⟩ hl.1 rfl (Nat.le_of_ble_eq_true rfl) ⟨Nat.zero_le _, Nat.zero_le _⟩ dX11_has_18 (fun r5 N6 H locs hp w => ?_)
    obtain ⟨z7, rfl, br5, hIN6, hFN6⟩ := hp
    have hGN6 := Fr.tr hF hFN6 (S := (fun b9 k9 => (b9 = 22 ∧ k9 = 7) ∨ (b9 = 23 ∧ k9 = 0) ∨ b9 = 26 ∨ b9 = 27 ∨ (44 ≤ b9 ∧ b9 ≤ 70))) (fun b k h => by (try dsimp only at h ⊢); (repeat' (refine Or.elim h ?_ ?_ <;> clear h <;> intro h)); all_goals first | (obtain ⟨rfl, rfl⟩ := h; decide) | (subst h; decide) | omega)
    refine lv_astore_n (lv' := [(3, .ref (B + r5)), (0, .ref (B + 0)), (1, .int (zI x)), (2, .int (zI x1))]) hx hb dX11_has_21 rfl hl (by decide) rfl (fun ls hl => ?_)
    refine lv_iload_n hx hb dX11_has_22 rfl (lv_at hl 3 rfl) ?_
    rcases (show x1 = 0 ∨ x1 = 1 ∨ x1 = 2 ∨ x1 = 3 ∨ x1 = 4 ∨ x1 = 5 ∨ x1 = 6 ∨ x1 = 7 ∨ x1 = 8 ∨ (x1 ≠ 0 ∧ x1 ≠ 1 ∧ x1 ≠ 2 ∧ x1 ≠ 3 ∧ x1 ≠ 4 ∧ x1 ≠ 5 ∧ x1 ≠ 6 ∧ x1 ≠ 7 ∧ x1 ≠ 8) by omega) with c8 | c8 | c8 | c8 | c8 | c8 | c8 | c8 | c8 | c8
    · refine r_val (v := zI 0) (congrArg zI c8) ?_
      refine lv_tableIn (tgt := 72) hx hb dX11_has_23 (by decide) (by decide) (off := 49) rfl (by decide) ?_
      refine lv_aload_n hx hb dX11_has_72 rfl (lv_at hl 0 rfl) ?_
      refine f_9_0 F w (a := r5) br5.1 tb_303 dX11_has_73 ?_
      obtain ⟨z9, bz9, ez9⟩ := IvG.ld (k := 0) hIN6 (iv_w0 br5.1) (by have := lt_w br5.1; omega)
      refine r_val ez9 ?_
      rw [hQ]
      exact e_i F w hr hlocks ⟨_, rfl, (by omega), hIN6, hGN6⟩ dX11_has_76
    · refine r_val (v := zI 1) (congrArg zI c8) ?_
      refine lv_tableIn (tgt := 77) hx hb dX11_has_23 (by decide) (by decide) (off := 54) rfl (by decide) ?_
      refine lv_aload_n hx hb dX11_has_77 rfl (lv_at hl 0 rfl) ?_
      refine f_9_1 F w (a := r5) br5.1 tb_310 dX11_has_78 ?_
      obtain ⟨z10, bz10, ez10⟩ := IvG.ld (k := 1) hIN6 (iv_w1 br5.1) (by have := lt_w br5.1; omega)
      refine r_val ez10 ?_
      rw [hQ]
      exact e_i F w hr hlocks ⟨_, rfl, (by omega), hIN6, hGN6⟩ dX11_has_81
    · refine r_val (v := zI 2) (congrArg zI c8) ?_
      refine lv_tableIn (tgt := 82) hx hb dX11_has_23 (by decide) (by decide) (off := 59) rfl (by decide) ?_
      refine lv_aload_n hx hb dX11_has_82 rfl (lv_at hl 0 rfl) ?_
      refine k_Vi F w (As := []) (rest := []) (a := r5) (kd_lt (a := r5) br5.1 (by decide)) (sh_9 br5.1 _ _) rfl (q_X9_lineCount (a := r5) br5.1  (hIN6).1) gv_X11_207 hv_X9_lineCount ⟨(Nat.le_of_ble_eq_true rfl), (Nat.le_of_ble_eq_true rfl)⟩ hl.1 rfl (Nat.le_of_ble_eq_true rfl) ⟨Nat.zero_le _, Nat.zero_le _⟩ dX11_has_83 (fun r11 N12 H locs hp w => ?_)
      obtain ⟨z13, rfl, bz13, hMN12⟩ := hp
      rw [hMN12] at w
      rw [hQ]
      exact e_i F w hr hlocks ⟨_, rfl, (by omega), hIN6, hGN6⟩ dX11_has_86
    · refine r_val (v := zI 3) (congrArg zI c8) ?_
      refine lv_tableIn (tgt := 87) hx hb dX11_has_23 (by decide) (by decide) (off := 64) rfl (by decide) ?_
      refine lv_aload_n hx hb dX11_has_87 rfl (lv_at hl 0 rfl) ?_
      refine k_Vi F w (As := []) (rest := []) (a := r5) (kd_lt (a := r5) br5.1 (by decide)) (sh_9 br5.1 _ _) rfl (q_X9_floating (a := r5) br5.1  (hIN6).1) gv_X11_210 hv_X9_floating ⟨(Nat.le_of_ble_eq_true rfl), (Nat.le_of_ble_eq_true rfl)⟩ hl.1 rfl (Nat.le_of_ble_eq_true rfl) ⟨Nat.zero_le _, Nat.zero_le _⟩ dX11_has_88 (fun r14 N15 H locs hp w => ?_)
      obtain ⟨z16, rfl, bz16, hMN15⟩ := hp
      rw [hMN15] at w
      rw [hQ]
      exact e_i F w hr hlocks ⟨_, rfl, (by omega), hIN6, hGN6⟩ dX11_has_91
    · refine r_val (v := zI 4) (congrArg zI c8) ?_
      refine lv_tableIn (tgt := 92) hx hb dX11_has_23 (by decide) (by decide) (off := 69) rfl (by decide) ?_
      refine lv_aload_n hx hb dX11_has_92 rfl (lv_at hl 0 rfl) ?_
      refine k_Vi F w (As := []) (rest := []) (a := r5) (kd_lt (a := r5) br5.1 (by decide)) (sh_9 br5.1 _ _) rfl (q_X9_bare (a := r5) br5.1  (hIN6).1) gv_X11_213 hv_X9_bare ⟨(Nat.le_of_ble_eq_true rfl), (Nat.le_of_ble_eq_true rfl)⟩ hl.1 rfl (Nat.le_of_ble_eq_true rfl) ⟨Nat.zero_le _, Nat.zero_le _⟩ dX11_has_93 (fun r17 N18 H locs hp w => ?_)
      obtain ⟨z19, rfl, bz19, hMN18⟩ := hp
      rw [hMN18] at w
      rw [hQ]
      exact e_i F w hr hlocks ⟨_, rfl, (by omega), hIN6, hGN6⟩ dX11_has_96
    · refine r_val (v := zI 5) (congrArg zI c8) ?_
      refine lv_tableIn (tgt := 97) hx hb dX11_has_23 (by decide) (by decide) (off := 74) rfl (by decide) ?_
      refine lv_aload_n hx hb dX11_has_97 rfl (lv_at hl 0 rfl) ?_
      refine lv_aload_n hx hb dX11_has_98 rfl (lv_at hl 0 rfl) ?_
      refine f_9_0 F w (a := r5) br5.1 tb_303 dX11_has_99 ?_
      obtain ⟨z20, bz20, ez20⟩ := IvG.ld (k := 0) hIN6 (iv_w0 br5.1) (by have := lt_w br5.1; omega)
      refine r_val ez20 ?_
      refine lv_iconst (v := zI 1) hx hb dX11_has_102 rfl ?_
      refine z_isub (z := (z20 - 1)) hx hb dX11_has_103 (by omega) ?_
      refine k_Vi F w (As := [.int (zI (z20 - 1))]) (rest := []) (a := r5) (kd_lt (a := r5) br5.1 (by decide)) (sh_9 br5.1 _ _) rfl (q_X9_fallsUpTo (a := r5) br5.1 (t := (z20 - 1)) (by omega)  (hIN6).1) gv_X11_216 hv_X9_fallsUpTo ⟨(Nat.le_of_ble_eq_true rfl), (Nat.le_of_ble_eq_true rfl)⟩ hl.1 rfl (Nat.le_of_ble_eq_true rfl) ⟨Nat.zero_le _, Nat.zero_le _⟩ dX11_has_104 (fun r21 N22 H locs hp w => ?_)
      obtain ⟨z23, rfl, bz23, hMN22⟩ := hp
      rw [hMN22] at w
      rw [hQ]
      exact e_i F w hr hlocks ⟨_, rfl, (by omega), hIN6, hGN6⟩ dX11_has_107
    · refine r_val (v := zI 6) (congrArg zI c8) ?_
      refine lv_tableIn (tgt := 108) hx hb dX11_has_23 (by decide) (by decide) (off := 85) rfl (by decide) ?_
      refine lv_aload_n hx hb dX11_has_108 rfl (lv_at hl 0 rfl) ?_
      refine k_Vi F w (As := []) (rest := []) (a := r5) (kd_lt (a := r5) br5.1 (by decide)) (sh_9 br5.1 _ _) rfl (q_X9_mostTones (a := r5) br5.1  (hIN6).1) gv_X11_219 hv_X9_mostTones ⟨(Nat.le_of_ble_eq_true rfl), (Nat.le_of_ble_eq_true rfl)⟩ hl.1 rfl (Nat.le_of_ble_eq_true rfl) ⟨Nat.zero_le _, Nat.zero_le _⟩ dX11_has_109 (fun r24 N25 H locs hp w => ?_)
      obtain ⟨z26, rfl, bz26, hMN25⟩ := hp
      rw [hMN25] at w
      rw [hQ]
      exact e_i F w hr hlocks ⟨_, rfl, (by omega), hIN6, hGN6⟩ dX11_has_112
    · refine r_val (v := zI 7) (congrArg zI c8) ?_
      refine lv_tableIn (tgt := 113) hx hb dX11_has_23 (by decide) (by decide) (off := 90) rfl (by decide) ?_
      refine lv_aload_n hx hb dX11_has_113 rfl (lv_at hl 0 rfl) ?_
      refine k_Vi F w (As := []) (rest := []) (a := r5) (kd_lt (a := r5) br5.1 (by decide)) (sh_9 br5.1 _ _) rfl (q_X9_mostSyllables (a := r5) br5.1  (hIN6).1) gv_X11_222 hv_X9_mostSyllables ⟨(Nat.le_of_ble_eq_true rfl), (Nat.le_of_ble_eq_true rfl)⟩ hl.1 rfl (Nat.le_of_ble_eq_true rfl) ⟨Nat.zero_le _, Nat.zero_le _⟩ dX11_has_114 (fun r27 N28 H locs hp w => ?_)
      obtain ⟨z29, rfl, bz29, hMN28⟩ := hp
      rw [hMN28] at w
      rw [hQ]
      exact e_i F w hr hlocks ⟨_, rfl, (by omega), hIN6, hGN6⟩ dX11_has_117
    · refine r_val (v := zI 8) (congrArg zI c8) ?_
      refine lv_tableIn (tgt := 118) hx hb dX11_has_23 (by decide) (by decide) (off := 95) rfl (by decide) ?_
      refine lv_aload_n hx hb dX11_has_118 rfl (lv_at hl 0 rfl) ?_
      refine k_Vi F w (As := []) (rest := []) (a := r5) (kd_lt (a := r5) br5.1 (by decide)) (sh_9 br5.1 _ _) rfl (q_X9_linkedFromFirst (a := r5) br5.1  (hIN6).1) gv_X11_225 hv_X9_linkedFromFirst ⟨(Nat.le_of_ble_eq_true rfl), (Nat.le_of_ble_eq_true rfl)⟩ hl.1 rfl (Nat.le_of_ble_eq_true rfl) ⟨Nat.zero_le _, Nat.zero_le _⟩ dX11_has_119 (fun r30 N31 H locs hp w => ?_)
      obtain ⟨z32, rfl, bz32, hMN31⟩ := hp
      rw [hMN31] at w
      rw [hQ]
      exact e_i F w hr hlocks ⟨_, rfl, (by omega), hIN6, hGN6⟩ dX11_has_122
    · refine lv_tableOut (tgt := 123) hx hb dX11_has_23 (by rw [zI_toInt (by omega)]; omega) (by decide) ?_
      refine lv_iconst (v := zI (-1)) hx hb dX11_has_123 rfl ?_
      rw [hQ]
      exact e_i F w hr hlocks ⟨_, rfl, (by omega), hIN6, hGN6⟩ dX11_has_124
  · refine lv_iconst (v := zI (-1)) hx hb dX11_has_11 rfl ?_
    rw [hQ]
    exact e_i F w hr hlocks ⟨_, rfl, (by omega), hI, hF⟩ dX11_has_12
set_option maxRecDepth 4000 in
theorem gq_X11_toneAt {l : Launch} {D : va_G} {B : Nat} {cy : Nat → ClassId} {M : Mem} {Pg : Nat → Nat → Int} {mg kg : Nat} {xg : Fw} {Hg : Nat → Fw} {x : Int} (hx : (-2147483648) ≤ x ∧ x ≤ 2147483647) {x1 : Int} (hx1 : (-2147483648) ≤ x1 ∧ x1 ≤ 2147483647) {x2 : Int} (hx2 : (-2147483648) ≤ x2 ∧ x2 ≤ 2147483647) (hI : IvG Pg mg xg Hg kg M) : Ci l D B cy yX11_toneAt cX11_toneAt 6 (some .int) 6 155 [.ref (B + 0), .int (zI x), .int (zI x1), .int (zI x2)] M (fun r M1 => ∃ z : Int, r = zI z ∧ ((-2147483648) ≤ z ∧ z ≤ 2147483647) ∧ IvG Pg mg xg Hg kg M1 ∧ Fr (fun b9 k9 => (b9 = 22 ∧ k9 = 7) ∨ (b9 = 23 ∧ k9 = 0) ∨ b9 = 26 ∨ b9 = 27 ∨ (44 ≤ b9 ∧ b9 ≤ 70)) M1 M) := by
  refine s_anyQ (by decide) (Nat.le_of_ble_eq_true rfl) ?_
  intro p e s m args below meth c ls Q F hr hlocks hQ w hl
  have F : CallFix p m c cX11_toneAt 6 s args TB RX11 := F
  have hx := F.1
  have hb := F.2.1
  have hl : lv_has ls 6 [(0, .ref (B + 0)), (1, .int (zI x)), (2, .int (zI x1)), (3, .int (zI x2))] := hl
  have hF : Fr (fun b9 k9 => (b9 = 22 ∧ k9 = 7) ∨ (b9 = 23 ∧ k9 = 0) ∨ b9 = 26 ∨ b9 = 27 ∨ (44 ≤ b9 ∧ b9 ≤ 70)) M M := Fr.rf
  refine lv_aload_n hx hb dX11_toneAt_0 rfl (lv_at hl 0 rfl) ?_
  refine f_11_3 F w (a := 0) rfl tb_273 dX11_toneAt_1 ?_
  refine lv_iload_n hx hb dX11_toneAt_4 rfl (lv_at hl 1 rfl) ?_
  refine k_Vi F w (As := [.int (zI x)]) (rest := []) (a := 22) (kd_lt (a := 22) (show kd 22 = (0, 0, 0) from rfl) (by decide)) (sh_0 rfl _ _) rfl (q_X0_covers (x := x) (by omega)  (hI).1) gv_X11_193 hv_X0_covers ⟨(Nat.le_of_ble_eq_true rfl), (Nat.le_of_ble_eq_true rfl)⟩ hl.1 rfl (Nat.le_of_ble_eq_true rfl) ⟨Nat.zero_le _, Nat.zero_le _⟩ dX11_toneAt_5 (fun r1 N2 H locs hp w => ?_)
  obtain ⟨z3, rfl, bz3, xz3, hMN2⟩ := hp
  rw [hMN2] at w
  refine z_if_ne (tgt := 13) hx hb (by omega) dX11_toneAt_8 (by decide) (fun c4 => ?_) (fun c4 => ?_)
  · refine lv_aload_n hx hb dX11_toneAt_13 rfl (lv_at hl 0 rfl) ?_
    refine f_11_3 F w (a := 0) rfl tb_273 dX11_toneAt_14 ?_
    refine lv_iload_n hx hb dX11_toneAt_17 rfl (lv_at hl 1 rfl) ?_
    refine k_Vr F w (As := [.int (zI x)]) (rest := []) (a := 22) (kd_lt (a := 22) (show kd 22 = (0, 0, 0) from rfl) (by decide)) (sh_0 rfl _ _) rfl (gq_stageOf (x := x) (by omega)  hI) gv_X11_196 hv_X0_stageOf ⟨(Nat.le_of_ble_eq_true rfl), (Nat.le_of_ble_eq_true rfl)⟩ hl.1 rfl (Nat.le_of_ble_eq_true rfl) ⟨Nat.zero_le _, Nat.zero_le _⟩ dX11_toneAt_18 (fun r5 N6 H locs hp w => ?_)
    obtain ⟨z7, rfl, br5, hIN6, hFN6⟩ := hp
    have hGN6 := Fr.tr hF hFN6 (S := (fun b9 k9 => (b9 = 22 ∧ k9 = 7) ∨ (b9 = 23 ∧ k9 = 0) ∨ b9 = 26 ∨ b9 = 27 ∨ (44 ≤ b9 ∧ b9 ≤ 70))) (fun b k h => by (try dsimp only at h ⊢); (repeat' (refine Or.elim h ?_ ?_ <;> clear h <;> intro h)); all_goals first | (obtain ⟨rfl, rfl⟩ := h; decide) | (subst h; decide) | omega)
    refine lv_astore (lv' := [(4, .ref (B + r5)), (0, .ref (B + 0)), (1, .int (zI x)), (2, .int (zI x1)), (3, .int (zI x2))]) hx hb dX11_toneAt_21 hl (by decide) rfl (fun ls hl => ?_)
    refine lv_aload hx hb dX11_toneAt_23 (lv_at hl 0 rfl) ?_
    refine lv_iload_n hx hb dX11_toneAt_25 rfl (lv_at hl 3 rfl) ?_
    obtain ⟨z8, bz8, ez8⟩ := IvG.ld (k := 0) hIN6 (iv_w0 br5.1) (by have := lt_w br5.1; omega)
    refine k_Vi F w (As := [.int (zI x1)]) (rest := []) (a := r5) (kd_lt (a := r5) br5.1 (by decide)) (sh_9 br5.1 _ _) rfl (q_X9_hasTone (a := r5) br5.1 (t := x1) (by omega) (nn := z8) (ez8) (by omega)  (hIN6).1) gv_X11_141 hv_X9_hasTone ⟨(Nat.le_of_ble_eq_true rfl), (Nat.le_of_ble_eq_true rfl)⟩ hl.1 rfl (Nat.le_of_ble_eq_true rfl) ⟨Nat.zero_le _, Nat.zero_le _⟩ dX11_toneAt_26 (fun r9 N10 H locs hp w => ?_)
    obtain ⟨z11, rfl, bz11, xz11, hMN10⟩ := hp
    rw [hMN10] at w
    refine z_if_ne (tgt := 44) hx hb (by omega) dX11_toneAt_29 (by decide) (fun c12 => ?_) (fun c12 => ?_)
    · refine lv_aload hx hb dX11_toneAt_44 (lv_at hl 0 rfl) ?_
      refine f_9_5 F w (a := r5) br5.1 tb_299 dX11_toneAt_46 ?_
      refine lv_iload_n hx hb dX11_toneAt_49 rfl (lv_at hl 3 rfl) ?_
      refine g_iald F w (a := (r5 + 2)) (kd_w2 br5.1) (j := (Int.toNat x1)) (ix_z (by omega) (by omega)) (by omega) dX11_toneAt_50 ?_
      obtain ⟨z13, bz13, ez13⟩ := IvG.ld (k := (Int.toNat x1)) hIN6 (iv_wl br5.1 _) (by have := lt_w br5.1; omega)
      refine r_val ez13 ?_
      refine z_if_ne (tgt := 58) hx hb (by omega) dX11_toneAt_51 (by decide) (fun c14 => ?_) (fun c14 => ?_)
      · refine lv_iconst (v := zI 0) hx hb dX11_toneAt_58 rfl ?_
        refine lv_istore (lv' := [(5, .int (zI 0)), (4, .ref (B + r5)), (0, .ref (B + 0)), (1, .int (zI x)), (2, .int (zI x1)), (3, .int (zI x2))]) hx hb dX11_toneAt_59 hl (by decide) rfl (fun ls hl => ?_)
        refine lv_iload_n hx hb dX11_toneAt_61 rfl (lv_at hl 5 rfl) ?_
        rcases (show x2 = 0 ∨ x2 = 1 ∨ x2 = 2 ∨ x2 = 3 ∨ x2 = 4 ∨ (x2 ≠ 0 ∧ x2 ≠ 1 ∧ x2 ≠ 2 ∧ x2 ≠ 3 ∧ x2 ≠ 4) by omega) with c15 | c15 | c15 | c15 | c15 | c15
        · refine r_val (v := zI 0) (congrArg zI c15) ?_
          refine lv_tableIn (tgt := 96) hx hb dX11_toneAt_62 (by decide) (by decide) (off := 34) rfl (by decide) ?_
          refine lv_aload hx hb dX11_toneAt_96 (lv_at hl 1 rfl) ?_
          refine f_9_4 F w (a := r5) br5.1 tb_309 dX11_toneAt_98 ?_
          refine lv_iload_n hx hb dX11_toneAt_101 rfl (lv_at hl 4 rfl) ?_
          refine g_iald F w (a := (r5 + 1)) (kd_w1 br5.1) (j := (Int.toNat x1)) (ix_z (by omega) (by omega)) (by omega) dX11_toneAt_102 ?_
          obtain ⟨z16, bz16, ez16⟩ := IvG.ld (k := (Int.toNat x1)) hIN6 (iv_wk br5.1 _) (by have := lt_w br5.1; omega)
          refine r_val ez16 ?_
          rw [hQ]
          exact e_i F w hr hlocks ⟨_, rfl, (by omega), hIN6, hGN6⟩ dX11_toneAt_103
        · refine r_val (v := zI 1) (congrArg zI c15) ?_
          refine lv_tableIn (tgt := 104) hx hb dX11_toneAt_62 (by decide) (by decide) (off := 42) rfl (by decide) ?_
          refine lv_iload hx hb dX11_toneAt_104 (lv_at hl 0 rfl) ?_
          refine z_if_eq (tgt := 114) hx hb (by omega) dX11_toneAt_106 (by decide) (fun c17 => ?_) (fun c17 => False.elim (by omega))
          refine lv_aload hx hb dX11_toneAt_114 (lv_at hl 1 rfl) ?_
          refine f_9_5 F w (a := r5) br5.1 tb_299 dX11_toneAt_116 ?_
          refine lv_iload_n hx hb dX11_toneAt_119 rfl (lv_at hl 4 rfl) ?_
          refine g_iald F w (a := (r5 + 2)) (kd_w2 br5.1) (j := (Int.toNat x1)) (ix_z (by omega) (by omega)) (by omega) dX11_toneAt_120 ?_
          refine r_val (v := zI z13) (ez13) ?_
          refine k_Si F w (As := [.int (zI z13)]) (rest := []) (q_lowest (x := z13) (by omega) ) gs_X11_228 hs_X11_lowest ⟨(Nat.le_of_ble_eq_true rfl), (Nat.le_of_ble_eq_true rfl)⟩ hl.1 rfl (Nat.le_of_ble_eq_true rfl) ⟨Nat.zero_le _, Nat.zero_le _⟩ dX11_toneAt_121 (fun r18 N19 H locs hp w => ?_)
          obtain ⟨hrz20, hMz20⟩ := hp
          rw [hMz20] at w
          obtain ⟨z20, bz20, xz20, ez20⟩ := low_ex z13 (by omega)
          refine r_val (hrz20.trans ez20) ?_
          rw [hQ]
          exact e_i F w hr hlocks ⟨_, rfl, (by omega), hIN6, hGN6⟩ dX11_toneAt_124
        · refine r_val (v := zI 2) (congrArg zI c15) ?_
          refine lv_tableIn (tgt := 125) hx hb dX11_toneAt_62 (by decide) (by decide) (off := 63) rfl (by decide) ?_
          refine lv_iload hx hb dX11_toneAt_125 (lv_at hl 0 rfl) ?_
          refine z_if_eq (tgt := 135) hx hb (by omega) dX11_toneAt_127 (by decide) (fun c21 => ?_) (fun c21 => False.elim (by omega))
          refine lv_aload hx hb dX11_toneAt_135 (lv_at hl 1 rfl) ?_
          refine f_9_5 F w (a := r5) br5.1 tb_299 dX11_toneAt_137 ?_
          refine lv_iload_n hx hb dX11_toneAt_140 rfl (lv_at hl 4 rfl) ?_
          refine g_iald F w (a := (r5 + 2)) (kd_w2 br5.1) (j := (Int.toNat x1)) (ix_z (by omega) (by omega)) (by omega) dX11_toneAt_141 ?_
          refine r_val (v := zI z13) (ez13) ?_
          refine k_Si F w (As := [.int (zI z13)]) (rest := []) (q_highest (x := z13) (by omega) ) gs_X11_231 hs_X11_highest ⟨(Nat.le_of_ble_eq_true rfl), (Nat.le_of_ble_eq_true rfl)⟩ hl.1 rfl (Nat.le_of_ble_eq_true rfl) ⟨Nat.zero_le _, Nat.zero_le _⟩ dX11_toneAt_142 (fun r22 N23 H locs hp w => ?_)
          obtain ⟨hrz24, hMz24⟩ := hp
          rw [hMz24] at w
          obtain ⟨z24, bz24, xz24, ez24⟩ := hig_ex z13 (by omega)
          refine r_val (hrz24.trans ez24) ?_
          rw [hQ]
          exact e_i F w hr hlocks ⟨_, rfl, (by omega), hIN6, hGN6⟩ dX11_toneAt_145
        · refine r_val (v := zI 3) (congrArg zI c15) ?_
          refine lv_tableIn (tgt := 146) hx hb dX11_toneAt_62 (by decide) (by decide) (off := 84) rfl (by decide) ?_
          refine lv_aload hx hb dX11_toneAt_146 (lv_at hl 1 rfl) ?_
          refine f_9_5 F w (a := r5) br5.1 tb_299 dX11_toneAt_148 ?_
          refine lv_iload_n hx hb dX11_toneAt_151 rfl (lv_at hl 4 rfl) ?_
          refine g_iald F w (a := (r5 + 2)) (kd_w2 br5.1) (j := (Int.toNat x1)) (ix_z (by omega) (by omega)) (by omega) dX11_toneAt_152 ?_
          refine r_val (v := zI z13) (ez13) ?_
          refine k_Si F w (As := [.int (zI z13)]) (rest := []) (q_bitCount (x := z13) (by omega) ) gs_X11_234 hs_J6_bitCount_0f7a4 ⟨(Nat.le_of_ble_eq_true rfl), (Nat.le_of_ble_eq_true rfl)⟩ hl.1 rfl (Nat.le_of_ble_eq_true rfl) ⟨Nat.zero_le _, Nat.zero_le _⟩ dX11_toneAt_153 (fun r25 N26 H locs hp w => ?_)
          obtain ⟨hrz27, hMz27⟩ := hp
          rw [hMz27] at w
          obtain ⟨z27, bz27, ez27⟩ := pop_ex z13 (by omega)
          refine r_val (hrz27.trans ez27) ?_
          rw [hQ]
          exact e_i F w hr hlocks ⟨_, rfl, (by omega), hIN6, hGN6⟩ dX11_toneAt_156
        · refine r_val (v := zI 4) (congrArg zI c15) ?_
          refine lv_tableIn (tgt := 157) hx hb dX11_toneAt_62 (by decide) (by decide) (off := 95) rfl (by decide) ?_
          refine lv_iconst (v := zI 3) hx hb dX11_toneAt_157 rfl ?_
          refine lv_aload hx hb dX11_toneAt_158 (lv_at hl 1 rfl) ?_
          refine f_9_4 F w (a := r5) br5.1 tb_309 dX11_toneAt_160 ?_
          refine lv_iload_n hx hb dX11_toneAt_163 rfl (lv_at hl 4 rfl) ?_
          refine g_iald F w (a := (r5 + 1)) (kd_w1 br5.1) (j := (Int.toNat x1)) (ix_z (by omega) (by omega)) (by omega) dX11_toneAt_164 ?_
          obtain ⟨z28, bz28, ez28⟩ := IvG.ld (k := (Int.toNat x1)) hIN6 (iv_wk br5.1 _) (by have := lt_w br5.1; omega)
          refine r_val ez28 ?_
          refine lv_iconst (v := zI 1) hx hb dX11_toneAt_165 rfl ?_
          refine z_iadd (z := (z28 + 1)) hx hb dX11_toneAt_166 (by omega) ?_
          refine z_imul (z := (3 * (z28 + 1))) hx hb dX11_toneAt_167 (by omega) ?_
          refine lv_aload hx hb dX11_toneAt_168 (lv_at hl 1 rfl) ?_
          refine lv_iload_n hx hb dX11_toneAt_170 rfl (lv_at hl 4 rfl) ?_
          refine k_Vi F w (As := [.int (zI x1)]) (rest := [.int (zI (3 * (z28 + 1)))]) (a := r5) (kd_lt (a := r5) br5.1 (by decide)) (sh_9 br5.1 _ _) rfl (q_X9_fallsUpTo (a := r5) br5.1 (t := x1) (by omega)  (hIN6).1) gv_X11_216 hv_X9_fallsUpTo ⟨(Nat.le_of_ble_eq_true rfl), (Nat.le_of_ble_eq_true rfl)⟩ hl.1 rfl (Nat.le_of_ble_eq_true rfl) ⟨Nat.zero_le _, Nat.zero_le _⟩ dX11_toneAt_171 (fun r29 N30 H locs hp w => ?_)
          obtain ⟨z31, rfl, bz31, hMN30⟩ := hp
          rw [hMN30] at w
          obtain ⟨z32, bz32, x0z32, ez32⟩ := sub_ex (3 * (z28 + 1)) z31
          refine lv_isub hx hb dX11_toneAt_174 ?_
          refine r_val ez32 ?_
          rw [hQ]
          exact e_i F w hr hlocks ⟨_, rfl, (by omega), hIN6, hGN6⟩ dX11_toneAt_175
        · refine lv_tableOut (tgt := 176) hx hb dX11_toneAt_62 (by rw [zI_toInt (by omega)]; omega) (by decide) ?_
          refine lv_iconst (v := zI (-1)) hx hb dX11_toneAt_176 rfl ?_
          rw [hQ]
          exact e_i F w hr hlocks ⟨_, rfl, (by omega), hIN6, hGN6⟩ dX11_toneAt_177
      · refine lv_iconst (v := zI 1) hx hb dX11_toneAt_54 rfl ?_
        refine lv_goto (tgt := 59) hx hb dX11_toneAt_55 (by decide) ?_
        refine lv_istore (lv' := [(5, .int (zI 1)), (4, .ref (B + r5)), (0, .ref (B + 0)), (1, .int (zI x)), (2, .int (zI x1)), (3, .int (zI x2))]) hx hb dX11_toneAt_59 hl (by decide) rfl (fun ls hl => ?_)
        refine lv_iload_n hx hb dX11_toneAt_61 rfl (lv_at hl 5 rfl) ?_
        rcases (show x2 = 0 ∨ x2 = 1 ∨ x2 = 2 ∨ x2 = 3 ∨ x2 = 4 ∨ (x2 ≠ 0 ∧ x2 ≠ 1 ∧ x2 ≠ 2 ∧ x2 ≠ 3 ∧ x2 ≠ 4) by omega) with c33 | c33 | c33 | c33 | c33 | c33
        · refine r_val (v := zI 0) (congrArg zI c33) ?_
          refine lv_tableIn (tgt := 96) hx hb dX11_toneAt_62 (by decide) (by decide) (off := 34) rfl (by decide) ?_
          refine lv_aload hx hb dX11_toneAt_96 (lv_at hl 1 rfl) ?_
          refine f_9_4 F w (a := r5) br5.1 tb_309 dX11_toneAt_98 ?_
          refine lv_iload_n hx hb dX11_toneAt_101 rfl (lv_at hl 4 rfl) ?_
          refine g_iald F w (a := (r5 + 1)) (kd_w1 br5.1) (j := (Int.toNat x1)) (ix_z (by omega) (by omega)) (by omega) dX11_toneAt_102 ?_
          obtain ⟨z34, bz34, ez34⟩ := IvG.ld (k := (Int.toNat x1)) hIN6 (iv_wk br5.1 _) (by have := lt_w br5.1; omega)
          refine r_val ez34 ?_
          rw [hQ]
          exact e_i F w hr hlocks ⟨_, rfl, (by omega), hIN6, hGN6⟩ dX11_toneAt_103
        · refine r_val (v := zI 1) (congrArg zI c33) ?_
          refine lv_tableIn (tgt := 104) hx hb dX11_toneAt_62 (by decide) (by decide) (off := 42) rfl (by decide) ?_
          refine lv_iload hx hb dX11_toneAt_104 (lv_at hl 0 rfl) ?_
          refine z_if_eq (tgt := 114) hx hb (by omega) dX11_toneAt_106 (by decide) (fun c35 => False.elim (by omega)) (fun c35 => ?_)
          refine lv_bipush (v := zI (-2)) hx hb dX11_toneAt_109 (by decide) ?_
          refine lv_goto (tgt := 124) hx hb dX11_toneAt_111 (by decide) ?_
          rw [hQ]
          exact e_i F w hr hlocks ⟨_, rfl, (by omega), hIN6, hGN6⟩ dX11_toneAt_124
        · refine r_val (v := zI 2) (congrArg zI c33) ?_
          refine lv_tableIn (tgt := 125) hx hb dX11_toneAt_62 (by decide) (by decide) (off := 63) rfl (by decide) ?_
          refine lv_iload hx hb dX11_toneAt_125 (lv_at hl 0 rfl) ?_
          refine z_if_eq (tgt := 135) hx hb (by omega) dX11_toneAt_127 (by decide) (fun c36 => False.elim (by omega)) (fun c36 => ?_)
          refine lv_bipush (v := zI (-2)) hx hb dX11_toneAt_130 (by decide) ?_
          refine lv_goto (tgt := 145) hx hb dX11_toneAt_132 (by decide) ?_
          rw [hQ]
          exact e_i F w hr hlocks ⟨_, rfl, (by omega), hIN6, hGN6⟩ dX11_toneAt_145
        · refine r_val (v := zI 3) (congrArg zI c33) ?_
          refine lv_tableIn (tgt := 146) hx hb dX11_toneAt_62 (by decide) (by decide) (off := 84) rfl (by decide) ?_
          refine lv_aload hx hb dX11_toneAt_146 (lv_at hl 1 rfl) ?_
          refine f_9_5 F w (a := r5) br5.1 tb_299 dX11_toneAt_148 ?_
          refine lv_iload_n hx hb dX11_toneAt_151 rfl (lv_at hl 4 rfl) ?_
          refine g_iald F w (a := (r5 + 2)) (kd_w2 br5.1) (j := (Int.toNat x1)) (ix_z (by omega) (by omega)) (by omega) dX11_toneAt_152 ?_
          refine r_val (v := zI z13) (ez13) ?_
          refine k_Si F w (As := [.int (zI z13)]) (rest := []) (q_bitCount (x := z13) (by omega) ) gs_X11_234 hs_J6_bitCount_0f7a4 ⟨(Nat.le_of_ble_eq_true rfl), (Nat.le_of_ble_eq_true rfl)⟩ hl.1 rfl (Nat.le_of_ble_eq_true rfl) ⟨Nat.zero_le _, Nat.zero_le _⟩ dX11_toneAt_153 (fun r37 N38 H locs hp w => ?_)
          obtain ⟨hrz39, hMz39⟩ := hp
          rw [hMz39] at w
          obtain ⟨z39, bz39, ez39⟩ := pop_ex z13 (by omega)
          refine r_val (hrz39.trans ez39) ?_
          rw [hQ]
          exact e_i F w hr hlocks ⟨_, rfl, (by omega), hIN6, hGN6⟩ dX11_toneAt_156
        · refine r_val (v := zI 4) (congrArg zI c33) ?_
          refine lv_tableIn (tgt := 157) hx hb dX11_toneAt_62 (by decide) (by decide) (off := 95) rfl (by decide) ?_
          refine lv_iconst (v := zI 3) hx hb dX11_toneAt_157 rfl ?_
          refine lv_aload hx hb dX11_toneAt_158 (lv_at hl 1 rfl) ?_
          refine f_9_4 F w (a := r5) br5.1 tb_309 dX11_toneAt_160 ?_
          refine lv_iload_n hx hb dX11_toneAt_163 rfl (lv_at hl 4 rfl) ?_
          refine g_iald F w (a := (r5 + 1)) (kd_w1 br5.1) (j := (Int.toNat x1)) (ix_z (by omega) (by omega)) (by omega) dX11_toneAt_164 ?_
          obtain ⟨z40, bz40, ez40⟩ := IvG.ld (k := (Int.toNat x1)) hIN6 (iv_wk br5.1 _) (by have := lt_w br5.1; omega)
          refine r_val ez40 ?_
          refine lv_iconst (v := zI 1) hx hb dX11_toneAt_165 rfl ?_
          refine z_iadd (z := (z40 + 1)) hx hb dX11_toneAt_166 (by omega) ?_
          refine z_imul (z := (3 * (z40 + 1))) hx hb dX11_toneAt_167 (by omega) ?_
          refine lv_aload hx hb dX11_toneAt_168 (lv_at hl 1 rfl) ?_
          refine lv_iload_n hx hb dX11_toneAt_170 rfl (lv_at hl 4 rfl) ?_
          refine k_Vi F w (As := [.int (zI x1)]) (rest := [.int (zI (3 * (z40 + 1)))]) (a := r5) (kd_lt (a := r5) br5.1 (by decide)) (sh_9 br5.1 _ _) rfl (q_X9_fallsUpTo (a := r5) br5.1 (t := x1) (by omega)  (hIN6).1) gv_X11_216 hv_X9_fallsUpTo ⟨(Nat.le_of_ble_eq_true rfl), (Nat.le_of_ble_eq_true rfl)⟩ hl.1 rfl (Nat.le_of_ble_eq_true rfl) ⟨Nat.zero_le _, Nat.zero_le _⟩ dX11_toneAt_171 (fun r41 N42 H locs hp w => ?_)
          obtain ⟨z43, rfl, bz43, hMN42⟩ := hp
          rw [hMN42] at w
          obtain ⟨z44, bz44, x0z44, ez44⟩ := sub_ex (3 * (z40 + 1)) z43
          refine lv_isub hx hb dX11_toneAt_174 ?_
          refine r_val ez44 ?_
          rw [hQ]
          exact e_i F w hr hlocks ⟨_, rfl, (by omega), hIN6, hGN6⟩ dX11_toneAt_175
        · refine lv_tableOut (tgt := 176) hx hb dX11_toneAt_62 (by rw [zI_toInt (by omega)]; omega) (by decide) ?_
          refine lv_iconst (v := zI (-1)) hx hb dX11_toneAt_176 rfl ?_
          rw [hQ]
          exact e_i F w hr hlocks ⟨_, rfl, (by omega), hIN6, hGN6⟩ dX11_toneAt_177
    · refine lv_iload_n hx hb dX11_toneAt_32 rfl (lv_at hl 4 rfl) ?_
      refine lv_iconst (v := zI 4) hx hb dX11_toneAt_33 rfl ?_
      refine z_icmp_ne (tgt := 42) hx hb (by omega) (by omega) dX11_toneAt_34 (by decide) (fun c45 => ?_) (fun c45 => ?_)
      · refine lv_iconst (v := zI (-1)) hx hb dX11_toneAt_42 rfl ?_
        rw [hQ]
        exact e_i F w hr hlocks ⟨_, rfl, (by omega), hIN6, hGN6⟩ dX11_toneAt_43
      · refine lv_bipush (v := zI (-100)) hx hb dX11_toneAt_37 (by decide) ?_
        refine lv_goto (tgt := 43) hx hb dX11_toneAt_39 (by decide) ?_
        rw [hQ]
        exact e_i F w hr hlocks ⟨_, rfl, (by omega), hIN6, hGN6⟩ dX11_toneAt_43
  · refine lv_iconst (v := zI (-1)) hx hb dX11_toneAt_11 rfl ?_
    rw [hQ]
    exact e_i F w hr hlocks ⟨_, rfl, (by omega), hI, hF⟩ dX11_toneAt_12
set_option maxRecDepth 4000 in
theorem gq_X11_syllableAt {l : Launch} {D : va_G} {B : Nat} {cy : Nat → ClassId} {M : Mem} {Pg : Nat → Nat → Int} {mg kg : Nat} {xg : Fw} {Hg : Nat → Fw} {x : Int} (hx : (-2147483648) ≤ x ∧ x ≤ 2147483647) {x1 : Int} (hx1 : (-2147483648) ≤ x1 ∧ x1 ≤ 2147483647) {x2 : Int} (hx2 : (-2147483648) ≤ x2 ∧ x2 ≤ 2147483647) (hI : IvG Pg mg xg Hg kg M) : Ci l D B cy yX11_syllableAt cX11_syllableAt 6 (some .int) 6 155 [.ref (B + 0), .int (zI x), .int (zI x1), .int (zI x2)] M (fun r M1 => ∃ z : Int, r = zI z ∧ ((-2147483648) ≤ z ∧ z ≤ 2147483647) ∧ IvG Pg mg xg Hg kg M1 ∧ Fr (fun b9 k9 => (b9 = 22 ∧ k9 = 7) ∨ (b9 = 23 ∧ k9 = 0) ∨ b9 = 26 ∨ b9 = 27 ∨ (44 ≤ b9 ∧ b9 ≤ 70)) M1 M) := by
  refine s_anyQ (by decide) (Nat.le_of_ble_eq_true rfl) ?_
  intro p e s m args below meth c ls Q F hr hlocks hQ w hl
  have F : CallFix p m c cX11_syllableAt 6 s args TB RX11 := F
  have hx := F.1
  have hb := F.2.1
  have hl : lv_has ls 6 [(0, .ref (B + 0)), (1, .int (zI x)), (2, .int (zI x1)), (3, .int (zI x2))] := hl
  have hF : Fr (fun b9 k9 => (b9 = 22 ∧ k9 = 7) ∨ (b9 = 23 ∧ k9 = 0) ∨ b9 = 26 ∨ b9 = 27 ∨ (44 ≤ b9 ∧ b9 ≤ 70)) M M := Fr.rf
  refine lv_aload_n hx hb dX11_syllableAt_0 rfl (lv_at hl 0 rfl) ?_
  refine f_11_3 F w (a := 0) rfl tb_273 dX11_syllableAt_1 ?_
  refine lv_iload_n hx hb dX11_syllableAt_4 rfl (lv_at hl 1 rfl) ?_
  refine k_Vi F w (As := [.int (zI x)]) (rest := []) (a := 22) (kd_lt (a := 22) (show kd 22 = (0, 0, 0) from rfl) (by decide)) (sh_0 rfl _ _) rfl (q_X0_covers (x := x) (by omega)  (hI).1) gv_X11_193 hv_X0_covers ⟨(Nat.le_of_ble_eq_true rfl), (Nat.le_of_ble_eq_true rfl)⟩ hl.1 rfl (Nat.le_of_ble_eq_true rfl) ⟨Nat.zero_le _, Nat.zero_le _⟩ dX11_syllableAt_5 (fun r1 N2 H locs hp w => ?_)
  obtain ⟨z3, rfl, bz3, xz3, hMN2⟩ := hp
  rw [hMN2] at w
  refine z_if_ne (tgt := 13) hx hb (by omega) dX11_syllableAt_8 (by decide) (fun c4 => ?_) (fun c4 => ?_)
  · refine lv_aload_n hx hb dX11_syllableAt_13 rfl (lv_at hl 0 rfl) ?_
    refine f_11_3 F w (a := 0) rfl tb_273 dX11_syllableAt_14 ?_
    refine lv_iload_n hx hb dX11_syllableAt_17 rfl (lv_at hl 1 rfl) ?_
    refine k_Vr F w (As := [.int (zI x)]) (rest := []) (a := 22) (kd_lt (a := 22) (show kd 22 = (0, 0, 0) from rfl) (by decide)) (sh_0 rfl _ _) rfl (gq_stageOf (x := x) (by omega)  hI) gv_X11_196 hv_X0_stageOf ⟨(Nat.le_of_ble_eq_true rfl), (Nat.le_of_ble_eq_true rfl)⟩ hl.1 rfl (Nat.le_of_ble_eq_true rfl) ⟨Nat.zero_le _, Nat.zero_le _⟩ dX11_syllableAt_18 (fun r5 N6 H locs hp w => ?_)
    obtain ⟨z7, rfl, br5, hIN6, hFN6⟩ := hp
    have hGN6 := Fr.tr hF hFN6 (S := (fun b9 k9 => (b9 = 22 ∧ k9 = 7) ∨ (b9 = 23 ∧ k9 = 0) ∨ b9 = 26 ∨ b9 = 27 ∨ (44 ≤ b9 ∧ b9 ≤ 70))) (fun b k h => by (try dsimp only at h ⊢); (repeat' (refine Or.elim h ?_ ?_ <;> clear h <;> intro h)); all_goals first | (obtain ⟨rfl, rfl⟩ := h; decide) | (subst h; decide) | omega)
    refine lv_astore (lv' := [(4, .ref (B + r5)), (0, .ref (B + 0)), (1, .int (zI x)), (2, .int (zI x1)), (3, .int (zI x2))]) hx hb dX11_syllableAt_21 hl (by decide) rfl (fun ls hl => ?_)
    refine lv_aload hx hb dX11_syllableAt_23 (lv_at hl 0 rfl) ?_
    refine lv_iload_n hx hb dX11_syllableAt_25 rfl (lv_at hl 3 rfl) ?_
    refine k_Vi F w (As := [.int (zI x1)]) (rest := []) (a := r5) (kd_lt (a := r5) br5.1 (by decide)) (sh_9 br5.1 _ _) rfl (q_X9_hasSyllable (a := r5) br5.1 (y := x1) (by omega)  (hIN6).1) gv_X11_160 hv_X9_hasSyllable ⟨(Nat.le_of_ble_eq_true rfl), (Nat.le_of_ble_eq_true rfl)⟩ hl.1 rfl (Nat.le_of_ble_eq_true rfl) ⟨Nat.zero_le _, Nat.zero_le _⟩ dX11_syllableAt_26 (fun r8 N9 H locs hp w => ?_)
    obtain ⟨z10, rfl, bz10, xz10, hMN9⟩ := hp
    rw [hMN9] at w
    refine z_if_ne (tgt := 34) hx hb (by omega) dX11_syllableAt_29 (by decide) (fun c11 => ?_) (fun c11 => ?_)
    · refine lv_aload hx hb dX11_syllableAt_34 (lv_at hl 0 rfl) ?_
      refine lv_iload_n hx hb dX11_syllableAt_36 rfl (lv_at hl 3 rfl) ?_
      refine k_Vi F w (As := [.int (zI x1)]) (rest := []) (a := r5) (kd_lt (a := r5) br5.1 (by decide)) (sh_9 br5.1 _ _) rfl (q_X9_tonesOf (a := r5) br5.1 (y := x1) (by omega)  (hIN6).1) gv_X11_239 hv_X9_tonesOf ⟨(Nat.le_of_ble_eq_true rfl), (Nat.le_of_ble_eq_true rfl)⟩ hl.1 rfl (Nat.le_of_ble_eq_true rfl) ⟨Nat.zero_le _, Nat.zero_le _⟩ dX11_syllableAt_37 (fun r12 N13 H locs hp w => ?_)
      obtain ⟨z14, rfl, bz14, hMN13⟩ := hp
      rw [hMN13] at w
      refine lv_istore (lv' := [(5, .int (zI z14)), (4, .ref (B + r5)), (0, .ref (B + 0)), (1, .int (zI x)), (2, .int (zI x1)), (3, .int (zI x2))]) hx hb dX11_syllableAt_40 hl (by decide) rfl (fun ls hl => ?_)
      refine lv_iload_n hx hb dX11_syllableAt_42 rfl (lv_at hl 5 rfl) ?_
      rcases (show x2 = 0 ∨ x2 = 1 ∨ x2 = 2 ∨ x2 = 3 ∨ x2 = 4 ∨ x2 = 5 ∨ (x2 ≠ 0 ∧ x2 ≠ 1 ∧ x2 ≠ 2 ∧ x2 ≠ 3 ∧ x2 ≠ 4 ∧ x2 ≠ 5) by omega) with c15 | c15 | c15 | c15 | c15 | c15 | c15
      · refine r_val (v := zI 0) (congrArg zI c15) ?_
        refine lv_tableIn (tgt := 80) hx hb dX11_syllableAt_43 (by decide) (by decide) (off := 37) rfl (by decide) ?_
        refine lv_aload hx hb dX11_syllableAt_80 (lv_at hl 1 rfl) ?_
        refine lv_iload_n hx hb dX11_syllableAt_82 rfl (lv_at hl 4 rfl) ?_
        refine k_Vi F w (As := [.int (zI x1)]) (rest := []) (a := r5) (kd_lt (a := r5) br5.1 (by decide)) (sh_9 br5.1 _ _) rfl (q_X9_isHeavy (a := r5) br5.1 (y := x1) (by omega)  (hIN6).1) gv_X11_163 hv_X9_isHeavy ⟨(Nat.le_of_ble_eq_true rfl), (Nat.le_of_ble_eq_true rfl)⟩ hl.1 rfl (Nat.le_of_ble_eq_true rfl) ⟨Nat.zero_le _, Nat.zero_le _⟩ dX11_syllableAt_83 (fun r16 N17 H locs hp w => ?_)
        obtain ⟨z18, rfl, bz18, xz18, hMN17⟩ := hp
        rw [hMN17] at w
        refine z_if_eq (tgt := 93) hx hb (by omega) dX11_syllableAt_86 (by decide) (fun c19 => ?_) (fun c19 => ?_)
        · refine lv_iconst (v := zI 0) hx hb dX11_syllableAt_93 rfl ?_
          rw [hQ]
          exact e_i F w hr hlocks ⟨_, rfl, (by omega), hIN6, hGN6⟩ dX11_syllableAt_94
        · refine lv_iconst (v := zI 1) hx hb dX11_syllableAt_89 rfl ?_
          refine lv_goto (tgt := 94) hx hb dX11_syllableAt_90 (by decide) ?_
          rw [hQ]
          exact e_i F w hr hlocks ⟨_, rfl, (by omega), hIN6, hGN6⟩ dX11_syllableAt_94
      · refine r_val (v := zI 1) (congrArg zI c15) ?_
        refine lv_tableIn (tgt := 95) hx hb dX11_syllableAt_43 (by decide) (by decide) (off := 52) rfl (by decide) ?_
        refine lv_aload hx hb dX11_syllableAt_95 (lv_at hl 1 rfl) ?_
        refine lv_iload_n hx hb dX11_syllableAt_97 rfl (lv_at hl 4 rfl) ?_
        refine k_Vi F w (As := [.int (zI x1)]) (rest := []) (a := r5) (kd_lt (a := r5) br5.1 (by decide)) (sh_9 br5.1 _ _) rfl (q_X9_hasEdge (a := r5) br5.1 (y := x1) (by omega)  (hIN6).1) gv_X11_166 hv_X9_hasEdge ⟨(Nat.le_of_ble_eq_true rfl), (Nat.le_of_ble_eq_true rfl)⟩ hl.1 rfl (Nat.le_of_ble_eq_true rfl) ⟨Nat.zero_le _, Nat.zero_le _⟩ dX11_syllableAt_98 (fun r20 N21 H locs hp w => ?_)
        obtain ⟨z22, rfl, bz22, xz22, hMN21⟩ := hp
        rw [hMN21] at w
        refine z_if_eq (tgt := 108) hx hb (by omega) dX11_syllableAt_101 (by decide) (fun c23 => ?_) (fun c23 => ?_)
        · refine lv_iconst (v := zI 0) hx hb dX11_syllableAt_108 rfl ?_
          rw [hQ]
          exact e_i F w hr hlocks ⟨_, rfl, (by omega), hIN6, hGN6⟩ dX11_syllableAt_109
        · refine lv_iconst (v := zI 1) hx hb dX11_syllableAt_104 rfl ?_
          refine lv_goto (tgt := 109) hx hb dX11_syllableAt_105 (by decide) ?_
          rw [hQ]
          exact e_i F w hr hlocks ⟨_, rfl, (by omega), hIN6, hGN6⟩ dX11_syllableAt_109
      · refine r_val (v := zI 2) (congrArg zI c15) ?_
        refine lv_tableIn (tgt := 110) hx hb dX11_syllableAt_43 (by decide) (by decide) (off := 67) rfl (by decide) ?_
        refine lv_iload hx hb dX11_syllableAt_110 (lv_at hl 0 rfl) ?_
        refine k_Si F w (As := [.int (zI z14)]) (rest := []) (q_bitCount (x := z14) (by omega) ) gs_X11_234 hs_J6_bitCount_0f7a4 ⟨(Nat.le_of_ble_eq_true rfl), (Nat.le_of_ble_eq_true rfl)⟩ hl.1 rfl (Nat.le_of_ble_eq_true rfl) ⟨Nat.zero_le _, Nat.zero_le _⟩ dX11_syllableAt_112 (fun r24 N25 H locs hp w => ?_)
        obtain ⟨hrz26, hMz26⟩ := hp
        rw [hMz26] at w
        obtain ⟨z26, bz26, ez26⟩ := pop_ex z14 (by omega)
        refine r_val (hrz26.trans ez26) ?_
        rw [hQ]
        exact e_i F w hr hlocks ⟨_, rfl, (by omega), hIN6, hGN6⟩ dX11_syllableAt_115
      · refine r_val (v := zI 3) (congrArg zI c15) ?_
        refine lv_tableIn (tgt := 116) hx hb dX11_syllableAt_43 (by decide) (by decide) (off := 73) rfl (by decide) ?_
        refine lv_iload hx hb dX11_syllableAt_116 (lv_at hl 0 rfl) ?_
        refine z_if_ne (tgt := 126) hx hb (by omega) dX11_syllableAt_118 (by decide) (fun c27 => ?_) (fun c27 => ?_)
        · refine lv_iload hx hb dX11_syllableAt_126 (lv_at hl 0 rfl) ?_
          refine k_Si F w (As := [.int (zI z14)]) (rest := []) (q_lowest (x := z14) (by omega) ) gs_X11_228 hs_X11_lowest ⟨(Nat.le_of_ble_eq_true rfl), (Nat.le_of_ble_eq_true rfl)⟩ hl.1 rfl (Nat.le_of_ble_eq_true rfl) ⟨Nat.zero_le _, Nat.zero_le _⟩ dX11_syllableAt_128 (fun r28 N29 H locs hp w => ?_)
          obtain ⟨hrz30, hMz30⟩ := hp
          rw [hMz30] at w
          obtain ⟨z30, bz30, xz30, ez30⟩ := low_ex z14 (by omega)
          refine r_val (hrz30.trans ez30) ?_
          rw [hQ]
          exact e_i F w hr hlocks ⟨_, rfl, (by omega), hIN6, hGN6⟩ dX11_syllableAt_131
        · refine lv_bipush (v := zI (-2)) hx hb dX11_syllableAt_121 (by decide) ?_
          refine lv_goto (tgt := 131) hx hb dX11_syllableAt_123 (by decide) ?_
          rw [hQ]
          exact e_i F w hr hlocks ⟨_, rfl, (by omega), hIN6, hGN6⟩ dX11_syllableAt_131
      · refine r_val (v := zI 4) (congrArg zI c15) ?_
        refine lv_tableIn (tgt := 132) hx hb dX11_syllableAt_43 (by decide) (by decide) (off := 89) rfl (by decide) ?_
        refine lv_iload hx hb dX11_syllableAt_132 (lv_at hl 0 rfl) ?_
        refine z_if_ne (tgt := 142) hx hb (by omega) dX11_syllableAt_134 (by decide) (fun c31 => ?_) (fun c31 => ?_)
        · refine lv_iload hx hb dX11_syllableAt_142 (lv_at hl 0 rfl) ?_
          refine k_Si F w (As := [.int (zI z14)]) (rest := []) (q_highest (x := z14) (by omega) ) gs_X11_231 hs_X11_highest ⟨(Nat.le_of_ble_eq_true rfl), (Nat.le_of_ble_eq_true rfl)⟩ hl.1 rfl (Nat.le_of_ble_eq_true rfl) ⟨Nat.zero_le _, Nat.zero_le _⟩ dX11_syllableAt_144 (fun r32 N33 H locs hp w => ?_)
          obtain ⟨hrz34, hMz34⟩ := hp
          rw [hMz34] at w
          obtain ⟨z34, bz34, xz34, ez34⟩ := hig_ex z14 (by omega)
          refine r_val (hrz34.trans ez34) ?_
          rw [hQ]
          exact e_i F w hr hlocks ⟨_, rfl, (by omega), hIN6, hGN6⟩ dX11_syllableAt_147
        · refine lv_bipush (v := zI (-2)) hx hb dX11_syllableAt_137 (by decide) ?_
          refine lv_goto (tgt := 147) hx hb dX11_syllableAt_139 (by decide) ?_
          rw [hQ]
          exact e_i F w hr hlocks ⟨_, rfl, (by omega), hIN6, hGN6⟩ dX11_syllableAt_147
      · refine r_val (v := zI 5) (congrArg zI c15) ?_
        refine lv_tableIn (tgt := 148) hx hb dX11_syllableAt_43 (by decide) (by decide) (off := 105) rfl (by decide) ?_
        refine lv_aload hx hb dX11_syllableAt_148 (lv_at hl 1 rfl) ?_
        refine lv_iload_n hx hb dX11_syllableAt_150 rfl (lv_at hl 4 rfl) ?_
        refine k_Vi F w (As := [.int (zI x1)]) (rest := []) (a := r5) (kd_lt (a := r5) br5.1 (by decide)) (sh_9 br5.1 _ _) rfl (q_X9_readOf (a := r5) br5.1 (y := x1) (by omega)  (hIN6).1) gv_X11_242 hv_X9_readOf ⟨(Nat.le_of_ble_eq_true rfl), (Nat.le_of_ble_eq_true rfl)⟩ hl.1 rfl (Nat.le_of_ble_eq_true rfl) ⟨Nat.zero_le _, Nat.zero_le _⟩ dX11_syllableAt_151 (fun r35 N36 H locs hp w => ?_)
        obtain ⟨z37, rfl, bz37, hMN36⟩ := hp
        rw [hMN36] at w
        rw [hQ]
        exact e_i F w hr hlocks ⟨_, rfl, (by omega), hIN6, hGN6⟩ dX11_syllableAt_154
      · refine lv_tableOut (tgt := 155) hx hb dX11_syllableAt_43 (by rw [zI_toInt (by omega)]; omega) (by decide) ?_
        refine lv_iconst (v := zI (-1)) hx hb dX11_syllableAt_155 rfl ?_
        rw [hQ]
        exact e_i F w hr hlocks ⟨_, rfl, (by omega), hIN6, hGN6⟩ dX11_syllableAt_156
    · refine lv_iconst (v := zI (-1)) hx hb dX11_syllableAt_32 rfl ?_
      rw [hQ]
      exact e_i F w hr hlocks ⟨_, rfl, (by omega), hIN6, hGN6⟩ dX11_syllableAt_33
  · refine lv_iconst (v := zI (-1)) hx hb dX11_syllableAt_11 rfl ?_
    rw [hQ]
    exact e_i F w hr hlocks ⟨_, rfl, (by omega), hI, hF⟩ dX11_syllableAt_12
set_option maxRecDepth 4000 in
theorem gq_X11_linesOf {l : Launch} {D : va_G} {B : Nat} {cy : Nat → ClassId} {M : Mem} {Pg : Nat → Nat → Int} {mg kg : Nat} {xg : Fw} {Hg : Nat → Fw} {x : Int} (hx : (-2147483648) ≤ x ∧ x ≤ 2147483647) {x1 : Int} (hx1 : (-2147483648) ≤ x1 ∧ x1 ≤ 2147483647) (hI : IvG Pg mg xg Hg kg M) : Ci l D B cy yX11_linesOf cX11_linesOf 4 (some .int) 6 155 [.ref (B + 0), .int (zI x), .int (zI x1)] M (fun r M1 => ∃ z : Int, r = zI z ∧ ((-1) ≤ z ∧ z ≤ 4095) ∧ IvG Pg mg xg Hg kg M1 ∧ Fr (fun b9 k9 => (b9 = 22 ∧ k9 = 7) ∨ (b9 = 23 ∧ k9 = 0) ∨ b9 = 26 ∨ b9 = 27 ∨ (44 ≤ b9 ∧ b9 ≤ 70)) M1 M) := by
  refine s_anyQ (by decide) (Nat.le_of_ble_eq_true rfl) ?_
  intro p e s m args below meth c ls Q F hr hlocks hQ w hl
  have F : CallFix p m c cX11_linesOf 4 s args TB RX11 := F
  have hx := F.1
  have hb := F.2.1
  have hl : lv_has ls 4 [(0, .ref (B + 0)), (1, .int (zI x)), (2, .int (zI x1))] := hl
  have hF : Fr (fun b9 k9 => (b9 = 22 ∧ k9 = 7) ∨ (b9 = 23 ∧ k9 = 0) ∨ b9 = 26 ∨ b9 = 27 ∨ (44 ≤ b9 ∧ b9 ≤ 70)) M M := Fr.rf
  refine lv_aload_n hx hb dX11_linesOf_0 rfl (lv_at hl 0 rfl) ?_
  refine f_11_3 F w (a := 0) rfl tb_273 dX11_linesOf_1 ?_
  refine lv_iload_n hx hb dX11_linesOf_4 rfl (lv_at hl 1 rfl) ?_
  refine k_Vi F w (As := [.int (zI x)]) (rest := []) (a := 22) (kd_lt (a := 22) (show kd 22 = (0, 0, 0) from rfl) (by decide)) (sh_0 rfl _ _) rfl (q_X0_covers (x := x) (by omega)  (hI).1) gv_X11_193 hv_X0_covers ⟨(Nat.le_of_ble_eq_true rfl), (Nat.le_of_ble_eq_true rfl)⟩ hl.1 rfl (Nat.le_of_ble_eq_true rfl) ⟨Nat.zero_le _, Nat.zero_le _⟩ dX11_linesOf_5 (fun r1 N2 H locs hp w => ?_)
  obtain ⟨z3, rfl, bz3, xz3, hMN2⟩ := hp
  rw [hMN2] at w
  refine z_if_ne (tgt := 13) hx hb (by omega) dX11_linesOf_8 (by decide) (fun c4 => ?_) (fun c4 => ?_)
  · refine lv_aload_n hx hb dX11_linesOf_13 rfl (lv_at hl 0 rfl) ?_
    refine f_11_3 F w (a := 0) rfl tb_273 dX11_linesOf_14 ?_
    refine lv_iload_n hx hb dX11_linesOf_17 rfl (lv_at hl 1 rfl) ?_
    refine k_Vr F w (As := [.int (zI x)]) (rest := []) (a := 22) (kd_lt (a := 22) (show kd 22 = (0, 0, 0) from rfl) (by decide)) (sh_0 rfl _ _) rfl (gq_stageOf (x := x) (by omega)  hI) gv_X11_196 hv_X0_stageOf ⟨(Nat.le_of_ble_eq_true rfl), (Nat.le_of_ble_eq_true rfl)⟩ hl.1 rfl (Nat.le_of_ble_eq_true rfl) ⟨Nat.zero_le _, Nat.zero_le _⟩ dX11_linesOf_18 (fun r5 N6 H locs hp w => ?_)
    obtain ⟨z7, rfl, br5, hIN6, hFN6⟩ := hp
    have hGN6 := Fr.tr hF hFN6 (S := (fun b9 k9 => (b9 = 22 ∧ k9 = 7) ∨ (b9 = 23 ∧ k9 = 0) ∨ b9 = 26 ∨ b9 = 27 ∨ (44 ≤ b9 ∧ b9 ≤ 70))) (fun b k h => by (try dsimp only at h ⊢); (repeat' (refine Or.elim h ?_ ?_ <;> clear h <;> intro h)); all_goals first | (obtain ⟨rfl, rfl⟩ := h; decide) | (subst h; decide) | omega)
    refine lv_astore_n (lv' := [(3, .ref (B + r5)), (0, .ref (B + 0)), (1, .int (zI x)), (2, .int (zI x1))]) hx hb dX11_linesOf_21 rfl hl (by decide) rfl (fun ls hl => ?_)
    refine lv_aload_n hx hb dX11_linesOf_22 rfl (lv_at hl 0 rfl) ?_
    refine lv_iload_n hx hb dX11_linesOf_23 rfl (lv_at hl 3 rfl) ?_
    obtain ⟨z8, bz8, ez8⟩ := IvG.ld (k := 0) hIN6 (iv_w0 br5.1) (by have := lt_w br5.1; omega)
    refine k_Vi F w (As := [.int (zI x1)]) (rest := []) (a := r5) (kd_lt (a := r5) br5.1 (by decide)) (sh_9 br5.1 _ _) rfl (q_X9_hasTone (a := r5) br5.1 (t := x1) (by omega) (nn := z8) (ez8) (by omega)  (hIN6).1) gv_X11_141 hv_X9_hasTone ⟨(Nat.le_of_ble_eq_true rfl), (Nat.le_of_ble_eq_true rfl)⟩ hl.1 rfl (Nat.le_of_ble_eq_true rfl) ⟨Nat.zero_le _, Nat.zero_le _⟩ dX11_linesOf_24 (fun r9 N10 H locs hp w => ?_)
    obtain ⟨z11, rfl, bz11, xz11, hMN10⟩ := hp
    rw [hMN10] at w
    refine z_if_eq (tgt := 39) hx hb (by omega) dX11_linesOf_27 (by decide) (fun c12 => ?_) (fun c12 => ?_)
    · refine lv_iconst (v := zI (-1)) hx hb dX11_linesOf_39 rfl ?_
      rw [hQ]
      exact e_i F w hr hlocks ⟨_, rfl, (by omega), hIN6, hGN6⟩ dX11_linesOf_40
    · refine lv_aload_n hx hb dX11_linesOf_30 rfl (lv_at hl 0 rfl) ?_
      refine f_9_5 F w (a := r5) br5.1 tb_299 dX11_linesOf_31 ?_
      refine lv_iload_n hx hb dX11_linesOf_34 rfl (lv_at hl 3 rfl) ?_
      refine g_iald F w (a := (r5 + 2)) (kd_w2 br5.1) (j := (Int.toNat x1)) (ix_z (by omega) (by omega)) (by omega) dX11_linesOf_35 ?_
      obtain ⟨z13, bz13, ez13⟩ := IvG.ld (k := (Int.toNat x1)) hIN6 (iv_wl br5.1 _) (by have := lt_w br5.1; omega)
      refine r_val ez13 ?_
      refine lv_goto (tgt := 40) hx hb dX11_linesOf_36 (by decide) ?_
      rw [hQ]
      exact e_i F w hr hlocks ⟨_, rfl, (by omega), hIN6, hGN6⟩ dX11_linesOf_40
  · refine lv_iconst (v := zI (-1)) hx hb dX11_linesOf_11 rfl ?_
    rw [hQ]
    exact e_i F w hr hlocks ⟨_, rfl, (by omega), hI, hF⟩ dX11_linesOf_12
set_option maxRecDepth 4000 in
theorem gq_X11_open {l : Launch} {D : va_G} {B : Nat} {cy : Nat → ClassId} {M : Mem} {Pg : Nat → Nat → Int} {mg kg : Nat} {xg : Fw} {Hg : Nat → Fw} {x : Int} (hx : (-2147483648) ≤ x ∧ x ≤ 2147483647) {x1 : Int} (hx1 : (-2147483648) ≤ x1 ∧ x1 ≤ 2147483647) {x2 : Int} (hx2 : (-2147483648) ≤ x2 ∧ x2 ≤ 2147483647) (hI : IvG Pg mg xg Hg kg M) : Ci l D B cy yX11_open cX11_open 5 (some .int) 6 155 [.ref (B + 0), .int (zI x), .int (zI x1), .int (zI x2)] M (fun r M1 => ∃ z : Int, r = zI z ∧ ((-1) ≤ z ∧ z ≤ 1) ∧ IvG Pg mg xg Hg kg M1 ∧ Fr (fun b9 k9 => (b9 = 22 ∧ k9 = 7) ∨ (b9 = 23 ∧ k9 = 0) ∨ b9 = 26 ∨ b9 = 27 ∨ (44 ≤ b9 ∧ b9 ≤ 70)) M1 M) := by
  refine s_anyQ (by decide) (Nat.le_of_ble_eq_true rfl) ?_
  intro p e s m args below meth c ls Q F hr hlocks hQ w hl
  have F : CallFix p m c cX11_open 5 s args TB RX11 := F
  have hx := F.1
  have hb := F.2.1
  have hl : lv_has ls 5 [(0, .ref (B + 0)), (1, .int (zI x)), (2, .int (zI x1)), (3, .int (zI x2))] := hl
  have hF : Fr (fun b9 k9 => (b9 = 22 ∧ k9 = 7) ∨ (b9 = 23 ∧ k9 = 0) ∨ b9 = 26 ∨ b9 = 27 ∨ (44 ≤ b9 ∧ b9 ≤ 70)) M M := Fr.rf
  refine lv_aload_n hx hb dX11_open_0 rfl (lv_at hl 0 rfl) ?_
  refine f_11_3 F w (a := 0) rfl tb_273 dX11_open_1 ?_
  refine lv_iload_n hx hb dX11_open_4 rfl (lv_at hl 1 rfl) ?_
  refine k_Vi F w (As := [.int (zI x)]) (rest := []) (a := 22) (kd_lt (a := 22) (show kd 22 = (0, 0, 0) from rfl) (by decide)) (sh_0 rfl _ _) rfl (q_X0_covers (x := x) (by omega)  (hI).1) gv_X11_193 hv_X0_covers ⟨(Nat.le_of_ble_eq_true rfl), (Nat.le_of_ble_eq_true rfl)⟩ hl.1 rfl (Nat.le_of_ble_eq_true rfl) ⟨Nat.zero_le _, Nat.zero_le _⟩ dX11_open_5 (fun r1 N2 H locs hp w => ?_)
  obtain ⟨z3, rfl, bz3, xz3, hMN2⟩ := hp
  rw [hMN2] at w
  refine z_if_ne (tgt := 13) hx hb (by omega) dX11_open_8 (by decide) (fun c4 => ?_) (fun c4 => ?_)
  · refine lv_aload_n hx hb dX11_open_13 rfl (lv_at hl 0 rfl) ?_
    refine f_11_3 F w (a := 0) rfl tb_273 dX11_open_14 ?_
    refine lv_iload_n hx hb dX11_open_17 rfl (lv_at hl 1 rfl) ?_
    refine k_Vr F w (As := [.int (zI x)]) (rest := []) (a := 22) (kd_lt (a := 22) (show kd 22 = (0, 0, 0) from rfl) (by decide)) (sh_0 rfl _ _) rfl (gq_stageOf (x := x) (by omega)  hI) gv_X11_196 hv_X0_stageOf ⟨(Nat.le_of_ble_eq_true rfl), (Nat.le_of_ble_eq_true rfl)⟩ hl.1 rfl (Nat.le_of_ble_eq_true rfl) ⟨Nat.zero_le _, Nat.zero_le _⟩ dX11_open_18 (fun r5 N6 H locs hp w => ?_)
    obtain ⟨z7, rfl, br5, hIN6, hFN6⟩ := hp
    have hGN6 := Fr.tr hF hFN6 (S := (fun b9 k9 => (b9 = 22 ∧ k9 = 7) ∨ (b9 = 23 ∧ k9 = 0) ∨ b9 = 26 ∨ b9 = 27 ∨ (44 ≤ b9 ∧ b9 ≤ 70))) (fun b k h => by (try dsimp only at h ⊢); (repeat' (refine Or.elim h ?_ ?_ <;> clear h <;> intro h)); all_goals first | (obtain ⟨rfl, rfl⟩ := h; decide) | (subst h; decide) | omega)
    refine lv_astore (lv' := [(4, .ref (B + r5)), (0, .ref (B + 0)), (1, .int (zI x)), (2, .int (zI x1)), (3, .int (zI x2))]) hx hb dX11_open_21 hl (by decide) rfl (fun ls hl => ?_)
    refine lv_aload hx hb dX11_open_23 (lv_at hl 0 rfl) ?_
    refine lv_iload_n hx hb dX11_open_25 rfl (lv_at hl 3 rfl) ?_
    obtain ⟨z8, bz8, ez8⟩ := IvG.ld (k := 0) hIN6 (iv_w0 br5.1) (by have := lt_w br5.1; omega)
    refine k_Vi F w (As := [.int (zI x1)]) (rest := []) (a := r5) (kd_lt (a := r5) br5.1 (by decide)) (sh_9 br5.1 _ _) rfl (q_X9_hasTone (a := r5) br5.1 (t := x1) (by omega) (nn := z8) (ez8) (by omega)  (hIN6).1) gv_X11_141 hv_X9_hasTone ⟨(Nat.le_of_ble_eq_true rfl), (Nat.le_of_ble_eq_true rfl)⟩ hl.1 rfl (Nat.le_of_ble_eq_true rfl) ⟨Nat.zero_le _, Nat.zero_le _⟩ dX11_open_26 (fun r9 N10 H locs hp w => ?_)
    obtain ⟨z11, rfl, bz11, xz11, hMN10⟩ := hp
    rw [hMN10] at w
    refine z_if_eq (tgt := 41) hx hb (by omega) dX11_open_29 (by decide) (fun c12 => ?_) (fun c12 => ?_)
    · refine lv_iconst (v := zI (-1)) hx hb dX11_open_41 rfl ?_
      rw [hQ]
      exact e_i F w hr hlocks ⟨_, rfl, (by omega), hIN6, hGN6⟩ dX11_open_42
    · refine lv_aload hx hb dX11_open_32 (lv_at hl 0 rfl) ?_
      refine lv_iload_n hx hb dX11_open_34 rfl (lv_at hl 4 rfl) ?_
      refine k_Vi F w (As := [.int (zI x2)]) (rest := []) (a := r5) (kd_lt (a := r5) br5.1 (by decide)) (sh_9 br5.1 _ _) rfl (q_X9_hasSyllable (a := r5) br5.1 (y := x2) (by omega)  (hIN6).1) gv_X11_160 hv_X9_hasSyllable ⟨(Nat.le_of_ble_eq_true rfl), (Nat.le_of_ble_eq_true rfl)⟩ hl.1 rfl (Nat.le_of_ble_eq_true rfl) ⟨Nat.zero_le _, Nat.zero_le _⟩ dX11_open_35 (fun r13 N14 H locs hp w => ?_)
      obtain ⟨z15, rfl, bz15, xz15, hMN14⟩ := hp
      rw [hMN14] at w
      refine z_if_ne (tgt := 43) hx hb (by omega) dX11_open_38 (by decide) (fun c16 => ?_) (fun c16 => ?_)
      · refine lv_aload hx hb dX11_open_43 (lv_at hl 0 rfl) ?_
        refine lv_iload_n hx hb dX11_open_45 rfl (lv_at hl 3 rfl) ?_
        refine lv_iload_n hx hb dX11_open_46 rfl (lv_at hl 4 rfl) ?_
        refine k_Vi F w (As := [.int (zI x1), .int (zI x2)]) (rest := []) (a := r5) (kd_lt (a := r5) br5.1 (by decide)) (sh_9 br5.1 _ _) rfl (q_X9_isOpen (a := r5) br5.1 (t := x1) (by omega) (y := x2) (by omega)  (hIN6).1) gv_X11_119 hv_X9_isOpen ⟨(Nat.le_of_ble_eq_true rfl), (Nat.le_of_ble_eq_true rfl)⟩ hl.1 rfl (Nat.le_of_ble_eq_true rfl) ⟨Nat.zero_le _, Nat.zero_le _⟩ dX11_open_47 (fun r17 N18 H locs hp w => ?_)
        obtain ⟨z19, rfl, bz19, xz19, hMN18⟩ := hp
        rw [hMN18] at w
        refine z_if_eq (tgt := 57) hx hb (by omega) dX11_open_50 (by decide) (fun c20 => ?_) (fun c20 => ?_)
        · refine lv_iconst (v := zI 0) hx hb dX11_open_57 rfl ?_
          rw [hQ]
          exact e_i F w hr hlocks ⟨_, rfl, (by omega), hIN6, hGN6⟩ dX11_open_58
        · refine lv_iconst (v := zI 1) hx hb dX11_open_53 rfl ?_
          refine lv_goto (tgt := 58) hx hb dX11_open_54 (by decide) ?_
          rw [hQ]
          exact e_i F w hr hlocks ⟨_, rfl, (by omega), hIN6, hGN6⟩ dX11_open_58
      · refine lv_iconst (v := zI (-1)) hx hb dX11_open_41 rfl ?_
        rw [hQ]
        exact e_i F w hr hlocks ⟨_, rfl, (by omega), hIN6, hGN6⟩ dX11_open_42
  · refine lv_iconst (v := zI (-1)) hx hb dX11_open_11 rfl ?_
    rw [hQ]
    exact e_i F w hr hlocks ⟨_, rfl, (by omega), hI, hF⟩ dX11_open_12
set_option maxRecDepth 4000 in
theorem gq_X11_spell {l : Launch} {D : va_G} {B : Nat} {cy : Nat → ClassId} {M : Mem} {Pg : Nat → Nat → Int} {mg kg : Nat} {xg : Fw} {Hg : Nat → Fw} {x : Int} (hx : (-2147483648) ≤ x ∧ x ≤ 2147483647) {x1 : Int} (hx1 : (-2147483648) ≤ x1 ∧ x1 ≤ 2147483647) (hI : IvG Pg mg xg Hg kg M) : Ci l D B cy yX11_spell cX11_spell 3 (some .int) 6 155 [.ref (B + 0), .int (zI x), .int (zI x1)] M (fun r M1 => ∃ z : Int, r = zI z ∧ ((-1) ≤ z ∧ z ≤ 65535) ∧ IvG Pg mg xg Hg kg M1 ∧ Fr (fun b9 k9 => (b9 = 141 ∧ k9 = 1) ∨ (b9 = 22 ∧ k9 = 7) ∨ (b9 = 23 ∧ k9 = 0) ∨ b9 = 142 ∨ b9 = 26 ∨ b9 = 27 ∨ (44 ≤ b9 ∧ b9 ≤ 70)) M1 M) := by
  refine s_anyQ (by decide) (Nat.le_of_ble_eq_true rfl) ?_
  intro p e s m args below meth c ls Q F hr hlocks hQ w hl
  have F : CallFix p m c cX11_spell 3 s args TB RX11 := F
  have hx := F.1
  have hb := F.2.1
  have hl : lv_has ls 3 [(0, .ref (B + 0)), (1, .int (zI x)), (2, .int (zI x1))] := hl
  have hF : Fr (fun b9 k9 => (b9 = 141 ∧ k9 = 1) ∨ (b9 = 22 ∧ k9 = 7) ∨ (b9 = 23 ∧ k9 = 0) ∨ b9 = 142 ∨ b9 = 26 ∨ b9 = 27 ∨ (44 ≤ b9 ∧ b9 ≤ 70)) M M := Fr.rf
  refine lv_aload_n hx hb dX11_spell_0 rfl (lv_at hl 0 rfl) ?_
  refine f_11_3 F w (a := 0) rfl tb_273 dX11_spell_1 ?_
  refine lv_iload_n hx hb dX11_spell_4 rfl (lv_at hl 1 rfl) ?_
  refine k_Vi F w (As := [.int (zI x)]) (rest := []) (a := 22) (kd_lt (a := 22) (show kd 22 = (0, 0, 0) from rfl) (by decide)) (sh_0 rfl _ _) rfl (q_X0_covers (x := x) (by omega)  (hI).1) gv_X11_193 hv_X0_covers ⟨(Nat.le_of_ble_eq_true rfl), (Nat.le_of_ble_eq_true rfl)⟩ hl.1 rfl (Nat.le_of_ble_eq_true rfl) ⟨Nat.zero_le _, Nat.zero_le _⟩ dX11_spell_5 (fun r1 N2 H locs hp w => ?_)
  obtain ⟨z3, rfl, bz3, xz3, hMN2⟩ := hp
  rw [hMN2] at w
  refine z_if_eq (tgt := 16) hx hb (by omega) dX11_spell_8 (by decide) (fun c4 => ?_) (fun c4 => ?_)
  · refine lv_iconst (v := zI (-1)) hx hb dX11_spell_16 rfl ?_
    rw [hQ]
    exact e_i F w hr hlocks ⟨_, rfl, (by omega), hI, hF⟩ dX11_spell_17
  · refine lv_iload_n hx hb dX11_spell_11 rfl (lv_at hl 2 rfl) ?_
    refine lv_iconst (v := zI (-1)) hx hb dX11_spell_12 rfl ?_
    refine z_icmp_ge (tgt := 18) hx hb (by omega) (by omega) dX11_spell_13 (by decide) (fun c5 => ?_) (fun c5 => ?_)
    · refine lv_aload_n hx hb dX11_spell_18 rfl (lv_at hl 0 rfl) ?_
      refine f_11_8 F w (a := 0) rfl tb_367 dX11_spell_19 ?_
      refine lv_aload_n hx hb dX11_spell_22 rfl (lv_at hl 0 rfl) ?_
      refine f_11_3 F w (a := 0) rfl tb_273 dX11_spell_23 ?_
      refine lv_iload_n hx hb dX11_spell_26 rfl (lv_at hl 1 rfl) ?_
      refine k_Vr F w (As := [.int (zI x)]) (rest := [.ref (B + 141)]) (a := 22) (kd_lt (a := 22) (show kd 22 = (0, 0, 0) from rfl) (by decide)) (sh_0 rfl _ _) rfl (gq_stageOf (x := x) (by omega)  hI) gv_X11_196 hv_X0_stageOf ⟨(Nat.le_of_ble_eq_true rfl), (Nat.le_of_ble_eq_true rfl)⟩ hl.1 rfl (Nat.le_of_ble_eq_true rfl) ⟨Nat.zero_le _, Nat.zero_le _⟩ dX11_spell_27 (fun r6 N7 H locs hp w => ?_)
      obtain ⟨z8, rfl, br6, hIN7, hFN7⟩ := hp
      have hGN7 := Fr.tr hF hFN7 (S := (fun b9 k9 => (b9 = 141 ∧ k9 = 1) ∨ (b9 = 22 ∧ k9 = 7) ∨ (b9 = 23 ∧ k9 = 0) ∨ b9 = 142 ∨ b9 = 26 ∨ b9 = 27 ∨ (44 ≤ b9 ∧ b9 ≤ 70))) (fun b k h => by (try dsimp only at h ⊢); (repeat' (refine Or.elim h ?_ ?_ <;> clear h <;> intro h)); all_goals first | (obtain ⟨rfl, rfl⟩ := h; decide) | (subst h; decide) | omega)
      refine k_Vv F w (As := [.ref (B + r6)]) (rest := []) (a := 141) (kd_lt (a := 141) (show kd 141 = (7, 0, 0) from rfl) (by decide)) (sh_7 rfl _ _) rfl (q_X7_write (a := r6) br6.1  (hIN7).1) gv_X11_245 hv_X7_write ⟨(Nat.le_of_ble_eq_true rfl), (Nat.le_of_ble_eq_true rfl)⟩ hl.1 rfl (Nat.le_of_ble_eq_true rfl) ⟨Nat.zero_le _, Nat.zero_le _⟩ dX11_spell_30 (fun N10 H locs hp w => ?_)
      obtain ⟨hIN10, hFN10⟩ := hp
      have hGN10 := Fr.tr hGN7 hFN10 (S := (fun b9 k9 => (b9 = 141 ∧ k9 = 1) ∨ (b9 = 22 ∧ k9 = 7) ∨ (b9 = 23 ∧ k9 = 0) ∨ b9 = 142 ∨ b9 = 26 ∨ b9 = 27 ∨ (44 ≤ b9 ∧ b9 ≤ 70))) (fun b k h => by (try dsimp only at h ⊢); (repeat' (refine Or.elim h ?_ ?_ <;> clear h <;> intro h)); all_goals first | (obtain ⟨rfl, rfl⟩ := h; decide) | (subst h; decide) | omega)
      have hJN10 := IvG.call hIN7 hIN10 hFN10 (fun b9 k9 h9 => by (try dsimp only at h9); omega)
      refine lv_iload_n hx hb dX11_spell_33 rfl (lv_at hl 2 rfl) ?_
      refine lv_iconst (v := zI (-1)) hx hb dX11_spell_34 rfl ?_
      refine z_icmp_ne (tgt := 46) hx hb (by omega) (by omega) dX11_spell_35 (by decide) (fun c12 => ?_) (fun c12 => ?_)
      · refine lv_iload_n hx hb dX11_spell_46 rfl (lv_at hl 2 rfl) ?_
        refine lv_aload_n hx hb dX11_spell_47 rfl (lv_at hl 0 rfl) ?_
        refine f_11_8 F w (a := 0) rfl tb_367 dX11_spell_48 ?_
        refine f_7_1 F w (a := 141) rfl tb_371 dX11_spell_51 ?_
        obtain ⟨z13, bz13, ez13⟩ := IvG.ld (k := 1) hJN10 (show iv 141 1 = (0, 256) from rfl) (show 141 < 146 by decide)
        refine r_val ez13 ?_
        refine z_icmp_ge (tgt := 69) hx hb (by omega) (by omega) dX11_spell_54 (by decide) (fun c14 => ?_) (fun c14 => ?_)
        · refine lv_iconst (v := zI (-1)) hx hb dX11_spell_69 rfl ?_
          rw [hQ]
          exact e_i F w hr hlocks ⟨_, rfl, (by omega), hJN10, hGN10⟩ dX11_spell_70
        · refine lv_aload_n hx hb dX11_spell_57 rfl (lv_at hl 0 rfl) ?_
          refine f_11_8 F w (a := 0) rfl tb_367 dX11_spell_58 ?_
          refine f_7_0 F w (a := 141) rfl tb_372 dX11_spell_61 ?_
          refine lv_iload_n hx hb dX11_spell_64 rfl (lv_at hl 2 rfl) ?_
          refine g_cald F w (a := 142) rfl (j := (Int.toNat x1)) (ix_z (by omega) (by omega)) (by omega) dX11_spell_65 ?_
          obtain ⟨z15, bz15, ez15⟩ := IvG.ld (k := (Int.toNat x1)) hJN10 (show iv 142 (Int.toNat x1) = (0, 65535) from rfl) (show 142 < 146 by decide)
          refine r_val ez15 ?_
          refine lv_goto (tgt := 70) hx hb dX11_spell_66 (by decide) ?_
          rw [hQ]
          exact e_i F w hr hlocks ⟨_, rfl, (by omega), hJN10, hGN10⟩ dX11_spell_70
      · refine lv_aload_n hx hb dX11_spell_38 rfl (lv_at hl 0 rfl) ?_
        refine f_11_8 F w (a := 0) rfl tb_367 dX11_spell_39 ?_
        refine f_7_1 F w (a := 141) rfl tb_371 dX11_spell_42 ?_
        obtain ⟨z16, bz16, ez16⟩ := IvG.ld (k := 1) hJN10 (show iv 141 1 = (0, 256) from rfl) (show 141 < 146 by decide)
        refine r_val ez16 ?_
        rw [hQ]
        exact e_i F w hr hlocks ⟨_, rfl, (by omega), hJN10, hGN10⟩ dX11_spell_45
    · refine lv_iconst (v := zI (-1)) hx hb dX11_spell_16 rfl ?_
      rw [hQ]
      exact e_i F w hr hlocks ⟨_, rfl, (by omega), hI, hF⟩ dX11_spell_17
set_option maxRecDepth 4000 in
theorem gq_X11_done {l : Launch} {D : va_G} {B : Nat} {cy : Nat → ClassId} {M : Mem} {Pg : Nat → Nat → Int} {mg kg : Nat} {xg : Fw} {Hg : Nat → Fw} {x : Int} (hx : (-2147483648) ≤ x ∧ x ≤ 2147483647) {x1 : Int} (hx1 : (-2147483648) ≤ x1 ∧ x1 ≤ 2147483647) (hI : IvG Pg mg xg Hg kg M) : Ci l D B cy yX11_done cX11_done 3 (some .int) 6 155 [.ref (B + 0), .int (zI x), .int (zI x1)] M (fun r M1 => ∃ z : Int, r = zI z ∧ ((-2147483648) ≤ z ∧ z ≤ 2147483647) ∧ IvG Pg mg xg Hg kg M1 ∧ Fr (fun b9 k9 => (b9 = 22 ∧ k9 = 7) ∨ (b9 = 23 ∧ k9 = 0) ∨ b9 = 26 ∨ b9 = 27 ∨ (44 ≤ b9 ∧ b9 ≤ 70)) M1 M) := by
  refine s_anyQ (by decide) (Nat.le_of_ble_eq_true rfl) ?_
  intro p e s m args below meth c ls Q F hr hlocks hQ w hl
  have F : CallFix p m c cX11_done 3 s args TB RX11 := F
  have hx := F.1
  have hb := F.2.1
  have hl : lv_has ls 3 [(0, .ref (B + 0)), (1, .int (zI x)), (2, .int (zI x1))] := hl
  have hF : Fr (fun b9 k9 => (b9 = 22 ∧ k9 = 7) ∨ (b9 = 23 ∧ k9 = 0) ∨ b9 = 26 ∨ b9 = 27 ∨ (44 ≤ b9 ∧ b9 ≤ 70)) M M := Fr.rf
  refine lv_aload_n hx hb dX11_done_0 rfl (lv_at hl 0 rfl) ?_
  refine f_11_3 F w (a := 0) rfl tb_273 dX11_done_1 ?_
  refine lv_iload_n hx hb dX11_done_4 rfl (lv_at hl 1 rfl) ?_
  refine k_Vi F w (As := [.int (zI x)]) (rest := []) (a := 22) (kd_lt (a := 22) (show kd 22 = (0, 0, 0) from rfl) (by decide)) (sh_0 rfl _ _) rfl (q_X0_hasRule (x := x) (by omega)  (hI).1) gv_X11_173 hv_X0_hasRule ⟨(Nat.le_of_ble_eq_true rfl), (Nat.le_of_ble_eq_true rfl)⟩ hl.1 rfl (Nat.le_of_ble_eq_true rfl) ⟨Nat.zero_le _, Nat.zero_le _⟩ dX11_done_5 (fun r1 N2 H locs hp w => ?_)
  obtain ⟨z3, rfl, bz3, xz3, hMN2⟩ := hp
  rw [hMN2] at w
  refine z_if_eq (tgt := 20) hx hb (by omega) dX11_done_8 (by decide) (fun c4 => ?_) (fun c4 => ?_)
  · refine lv_iconst (v := zI (-1)) hx hb dX11_done_20 rfl ?_
    rw [hQ]
    exact e_i F w hr hlocks ⟨_, rfl, (by omega), hI, hF⟩ dX11_done_21
  · refine lv_iload_n hx hb dX11_done_11 rfl (lv_at hl 2 rfl) ?_
    refine z_if_lt (tgt := 20) hx hb (by omega) dX11_done_12 (by decide) (fun c5 => ?_) (fun c5 => ?_)
    · refine lv_iconst (v := zI (-1)) hx hb dX11_done_20 rfl ?_
      rw [hQ]
      exact e_i F w hr hlocks ⟨_, rfl, (by omega), hI, hF⟩ dX11_done_21
    · refine lv_iload_n hx hb dX11_done_15 rfl (lv_at hl 2 rfl) ?_
      refine lv_iconst (v := zI 1) hx hb dX11_done_16 rfl ?_
      refine z_icmp_le (tgt := 22) hx hb (by omega) (by omega) dX11_done_17 (by decide) (fun c6 => ?_) (fun c6 => ?_)
      · refine lv_aload_n hx hb dX11_done_22 rfl (lv_at hl 0 rfl) ?_
        refine f_11_3 F w (a := 0) rfl tb_273 dX11_done_23 ?_
        refine lv_iload_n hx hb dX11_done_26 rfl (lv_at hl 1 rfl) ?_
        refine lv_iconst (v := zI 1) hx hb dX11_done_27 rfl ?_
        refine z_iadd (z := (x + 1)) hx hb dX11_done_28 (by omega) ?_
        refine k_Vr F w (As := [.int (zI (x + 1))]) (rest := []) (a := 22) (kd_lt (a := 22) (show kd 22 = (0, 0, 0) from rfl) (by decide)) (sh_0 rfl _ _) rfl (gq_stageOf (x := (x + 1)) (by omega)  hI) gv_X11_196 hv_X0_stageOf ⟨(Nat.le_of_ble_eq_true rfl), (Nat.le_of_ble_eq_true rfl)⟩ hl.1 rfl (Nat.le_of_ble_eq_true rfl) ⟨Nat.zero_le _, Nat.zero_le _⟩ dX11_done_29 (fun r7 N8 H locs hp w => ?_)
        obtain ⟨z9, rfl, br7, hIN8, hFN8⟩ := hp
        have hGN8 := Fr.tr hF hFN8 (S := (fun b9 k9 => (b9 = 22 ∧ k9 = 7) ∨ (b9 = 23 ∧ k9 = 0) ∨ b9 = 26 ∨ b9 = 27 ∨ (44 ≤ b9 ∧ b9 ≤ 70))) (fun b k h => by (try dsimp only at h ⊢); (repeat' (refine Or.elim h ?_ ?_ <;> clear h <;> intro h)); all_goals first | (obtain ⟨rfl, rfl⟩ := h; decide) | (subst h; decide) | omega)
        refine lv_pop hx hb dX11_done_32 rfl ?_
        refine lv_iload_n hx hb dX11_done_33 rfl (lv_at hl 2 rfl) ?_
        refine z_if_ne (tgt := 49) hx hb (by omega) dX11_done_34 (by decide) (fun c10 => ?_) (fun c10 => ?_)
        · refine lv_aload_n hx hb dX11_done_49 rfl (lv_at hl 0 rfl) ?_
          refine f_11_3 F w (a := 0) rfl tb_273 dX11_done_50 ?_
          refine f_0_6 F w (a := 22) rfl tb_374 dX11_done_53 ?_
          refine lv_iload_n hx hb dX11_done_56 rfl (lv_at hl 1 rfl) ?_
          refine g_iald F w (a := 27) rfl (j := (Int.toNat x)) (ix_z (by omega) (by omega)) (by omega) dX11_done_57 ?_
          obtain ⟨z11, bz11, ez11⟩ := IvG.ld (k := (Int.toNat x)) hIN8 (show iv 27 (Int.toNat x) = ((-2147483648), 2147483647) from rfl) (show 27 < 146 by decide)
          refine r_val ez11 ?_
          rw [hQ]
          exact e_i F w hr hlocks ⟨_, rfl, (by omega), hIN8, hGN8⟩ dX11_done_58
        · refine lv_aload_n hx hb dX11_done_37 rfl (lv_at hl 0 rfl) ?_
          refine f_11_3 F w (a := 0) rfl tb_273 dX11_done_38 ?_
          refine f_0_5 F w (a := 22) rfl tb_375 dX11_done_41 ?_
          refine lv_iload_n hx hb dX11_done_44 rfl (lv_at hl 1 rfl) ?_
          refine g_iald F w (a := 26) rfl (j := (Int.toNat x)) (ix_z (by omega) (by omega)) (by omega) dX11_done_45 ?_
          obtain ⟨z12, bz12, ez12⟩ := IvG.ld (k := (Int.toNat x)) hIN8 (show iv 26 (Int.toNat x) = ((-2147483648), 2147483647) from rfl) (show 26 < 146 by decide)
          refine r_val ez12 ?_
          refine lv_goto (tgt := 58) hx hb dX11_done_46 (by decide) ?_
          rw [hQ]
          exact e_i F w hr hlocks ⟨_, rfl, (by omega), hIN8, hGN8⟩ dX11_done_58
      · refine lv_iconst (v := zI (-1)) hx hb dX11_done_20 rfl ?_
        rw [hQ]
        exact e_i F w hr hlocks ⟨_, rfl, (by omega), hI, hF⟩ dX11_done_21
set_option maxRecDepth 4000 in
theorem gq_X11_exchanged {l : Launch} {D : va_G} {B : Nat} {cy : Nat → ClassId} {M : Mem} {Pg : Nat → Nat → Int} {mg kg : Nat} {xg : Fw} {Hg : Nat → Fw} {x : Int} (hx : (-2147483648) ≤ x ∧ x ≤ 2147483647) (hI : IvG Pg mg xg Hg kg M) : Ci l D B cy yX11_exchanged cX11_exchanged 2 (some .int) 6 156 [.ref (B + 0), .int (zI x)] M (fun r M1 => ∃ z : Int, r = zI z ∧ ((-1) ≤ z ∧ z ≤ 1) ∧ IvG Pg mg xg Hg kg M1 ∧ Fr (fun b9 k9 => (b9 = 22 ∧ k9 = 7) ∨ (b9 = 23 ∧ k9 = 0) ∨ b9 = 143 ∨ b9 = 144 ∨ b9 = 145 ∨ b9 = 26 ∨ b9 = 27 ∨ (44 ≤ b9 ∧ b9 ≤ 70)) M1 M) := by
  refine s_anyQ (by decide) (Nat.le_of_ble_eq_true rfl) ?_
  intro p e s m args below meth c ls Q F hr hlocks hQ w hl
  have F : CallFix p m c cX11_exchanged 2 s args TB RX11 := F
  have hx := F.1
  have hb := F.2.1
  have hl : lv_has ls 2 [(0, .ref (B + 0)), (1, .int (zI x))] := hl
  have hF : Fr (fun b9 k9 => (b9 = 22 ∧ k9 = 7) ∨ (b9 = 23 ∧ k9 = 0) ∨ b9 = 143 ∨ b9 = 144 ∨ b9 = 145 ∨ b9 = 26 ∨ b9 = 27 ∨ (44 ≤ b9 ∧ b9 ≤ 70)) M M := Fr.rf
  refine lv_aload_n hx hb dX11_exchanged_0 rfl (lv_at hl 0 rfl) ?_
  refine f_11_3 F w (a := 0) rfl tb_273 dX11_exchanged_1 ?_
  refine lv_iload_n hx hb dX11_exchanged_4 rfl (lv_at hl 1 rfl) ?_
  refine k_Vi F w (As := [.int (zI x)]) (rest := []) (a := 22) (kd_lt (a := 22) (show kd 22 = (0, 0, 0) from rfl) (by decide)) (sh_0 rfl _ _) rfl (q_X0_hasRule (x := x) (by omega)  (hI).1) gv_X11_173 hv_X0_hasRule ⟨(Nat.le_of_ble_eq_true rfl), (Nat.le_of_ble_eq_true rfl)⟩ hl.1 rfl (Nat.le_of_ble_eq_true rfl) ⟨Nat.zero_le _, Nat.zero_le _⟩ dX11_exchanged_5 (fun r1 N2 H locs hp w => ?_)
  obtain ⟨z3, rfl, bz3, xz3, hMN2⟩ := hp
  rw [hMN2] at w
  refine z_if_eq (tgt := 24) hx hb (by omega) dX11_exchanged_8 (by decide) (fun c4 => ?_) (fun c4 => ?_)
  · refine lv_iconst (v := zI (-1)) hx hb dX11_exchanged_24 rfl ?_
    rw [hQ]
    exact e_i F w hr hlocks ⟨_, rfl, (by omega), hI, hF⟩ dX11_exchanged_25
  · refine lv_aload_n hx hb dX11_exchanged_11 rfl (lv_at hl 0 rfl) ?_
    refine f_11_3 F w (a := 0) rfl tb_273 dX11_exchanged_12 ?_
    refine lv_iload_n hx hb dX11_exchanged_15 rfl (lv_at hl 1 rfl) ?_
    refine lv_iconst (v := zI 1) hx hb dX11_exchanged_16 rfl ?_
    refine z_iadd (z := (x + 1)) hx hb dX11_exchanged_17 (by omega) ?_
    refine k_Vi F w (As := [.int (zI (x + 1))]) (rest := []) (a := 22) (kd_lt (a := 22) (show kd 22 = (0, 0, 0) from rfl) (by decide)) (sh_0 rfl _ _) rfl (q_X0_hasRule (x := (x + 1)) (by omega)  (hI).1) gv_X11_173 hv_X0_hasRule ⟨(Nat.le_of_ble_eq_true rfl), (Nat.le_of_ble_eq_true rfl)⟩ hl.1 rfl (Nat.le_of_ble_eq_true rfl) ⟨Nat.zero_le _, Nat.zero_le _⟩ dX11_exchanged_18 (fun r5 N6 H locs hp w => ?_)
    obtain ⟨z7, rfl, bz7, xz7, hMN6⟩ := hp
    rw [hMN6] at w
    refine z_if_ne (tgt := 26) hx hb (by omega) dX11_exchanged_21 (by decide) (fun c8 => ?_) (fun c8 => ?_)
    · refine lv_aload_n hx hb dX11_exchanged_26 rfl (lv_at hl 0 rfl) ?_
      refine f_11_9 F w (a := 0) rfl tb_324 dX11_exchanged_27 ?_
      refine lv_aload_n hx hb dX11_exchanged_30 rfl (lv_at hl 0 rfl) ?_
      refine f_11_3 F w (a := 0) rfl tb_273 dX11_exchanged_31 ?_
      refine lv_iload_n hx hb dX11_exchanged_34 rfl (lv_at hl 1 rfl) ?_
      refine k_Vr F w (As := [.int (zI x)]) (rest := [.ref (B + 143)]) (a := 22) (kd_lt (a := 22) (show kd 22 = (0, 0, 0) from rfl) (by decide)) (sh_0 rfl _ _) rfl (gq_stageOf (x := x) (by omega)  hI) gv_X11_196 hv_X0_stageOf ⟨(Nat.le_of_ble_eq_true rfl), (Nat.le_of_ble_eq_true rfl)⟩ hl.1 rfl (Nat.le_of_ble_eq_true rfl) ⟨Nat.zero_le _, Nat.zero_le _⟩ dX11_exchanged_35 (fun r9 N10 H locs hp w => ?_)
      obtain ⟨z11, rfl, br9, hIN10, hFN10⟩ := hp
      have hGN10 := Fr.tr hF hFN10 (S := (fun b9 k9 => (b9 = 22 ∧ k9 = 7) ∨ (b9 = 23 ∧ k9 = 0) ∨ b9 = 143 ∨ b9 = 144 ∨ b9 = 145 ∨ b9 = 26 ∨ b9 = 27 ∨ (44 ≤ b9 ∧ b9 ≤ 70))) (fun b k h => by (try dsimp only at h ⊢); (repeat' (refine Or.elim h ?_ ?_ <;> clear h <;> intro h)); all_goals first | (obtain ⟨rfl, rfl⟩ := h; decide) | (subst h; decide) | omega)
      refine k_Vv F w (As := [.ref (B + r9)]) (rest := []) (a := 143) (kd_lt (a := 143) (show kd 143 = (9, 0, 0) from rfl) (by decide)) (sh_9 rfl _ _) rfl (q_X9_copyFrom (a := 143) rfl (d := r9) br9.1  (hIN10).1) gv_X11_90 hv_X9_copyFrom ⟨(Nat.le_of_ble_eq_true rfl), (Nat.le_of_ble_eq_true rfl)⟩ hl.1 rfl (Nat.le_of_ble_eq_true rfl) ⟨Nat.zero_le _, Nat.zero_le _⟩ dX11_exchanged_38 (fun N13 H locs hp w => ?_)
      obtain ⟨hIN13, hFN13⟩ := hp
      have hGN13 := Fr.tr hGN10 hFN13 (S := (fun b9 k9 => (b9 = 22 ∧ k9 = 7) ∨ (b9 = 23 ∧ k9 = 0) ∨ b9 = 143 ∨ b9 = 144 ∨ b9 = 145 ∨ b9 = 26 ∨ b9 = 27 ∨ (44 ≤ b9 ∧ b9 ≤ 70))) (fun b k h => by (try dsimp only at h ⊢); (repeat' (refine Or.elim h ?_ ?_ <;> clear h <;> intro h)); all_goals first | (obtain ⟨rfl, rfl⟩ := h; decide) | (subst h; decide) | omega)
      have hJN13 := IvG.call hIN10 hIN13 hFN13 (fun b9 k9 h9 => by (try dsimp only at h9); omega)
      refine lv_aload_n hx hb dX11_exchanged_41 rfl (lv_at hl 0 rfl) ?_
      refine f_11_3 F w (a := 0) rfl tb_273 dX11_exchanged_42 ?_
      refine f_0_0 F w (a := 22) rfl tb_325 dX11_exchanged_45 ?_
      refine lv_aload_n hx hb dX11_exchanged_48 rfl (lv_at hl 0 rfl) ?_
      refine f_11_3 F w (a := 0) rfl tb_273 dX11_exchanged_49 ?_
      refine f_0_1 F w (a := 22) rfl tb_326 dX11_exchanged_52 ?_
      refine lv_iload_n hx hb dX11_exchanged_55 rfl (lv_at hl 1 rfl) ?_
      refine lv_iconst (v := zI 1) hx hb dX11_exchanged_56 rfl ?_
      refine z_iadd (z := (x + 1)) hx hb dX11_exchanged_57 (by omega) ?_
      have hk15 := kd_lst (j := (Int.toNat (x + 1))) (by omega)
      refine g_aldR F w (a := 24) rfl (j := (Int.toNat (x + 1))) (o := (28 + 2 * (Int.toNat (x + 1)))) rfl (ix_z (by omega) (by omega)) (by omega) dX11_exchanged_58 ?_
      refine lv_aload_n hx hb dX11_exchanged_59 rfl (lv_at hl 0 rfl) ?_
      refine f_11_9 F w (a := 0) rfl tb_324 dX11_exchanged_60 ?_
      refine k_Vi F w (As := [.ref (B + (28 + 2 * (Int.toNat (x + 1)))), .ref (B + 143)]) (rest := []) (a := 23) (kd_lt (a := 23) (show kd 23 = (1, 0, 0) from rfl) (by decide)) (sh_1 rfl _ _) rfl (q_X1_perform (u1 := (28 + 2 * (Int.toNat (x + 1)))) hk15 (a := 143) rfl  (hJN13).1) gv_X11_183 hv_X1_perform ⟨(Nat.le_of_ble_eq_true rfl), (Nat.le_of_ble_eq_true rfl)⟩ hl.1 rfl (Nat.le_of_ble_eq_true rfl) ⟨Nat.zero_le _, Nat.zero_le _⟩ dX11_exchanged_63 (fun r16 N17 H locs hp w => ?_)
      obtain ⟨z18, rfl, bz18, hIN17, hFN17⟩ := hp
      have hGN17 := Fr.tr hGN13 hFN17 (S := (fun b9 k9 => (b9 = 22 ∧ k9 = 7) ∨ (b9 = 23 ∧ k9 = 0) ∨ b9 = 143 ∨ b9 = 144 ∨ b9 = 145 ∨ b9 = 26 ∨ b9 = 27 ∨ (44 ≤ b9 ∧ b9 ≤ 70))) (fun b k h => by (try dsimp only at h ⊢); (repeat' (refine Or.elim h ?_ ?_ <;> clear h <;> intro h)); all_goals first | (obtain ⟨rfl, rfl⟩ := h; decide) | (subst h; decide) | omega)
      have hJN17 := IvG.call hJN13 hIN17 hFN17 (fun b9 k9 h9 => by (try dsimp only at h9); omega)
      refine lv_pop hx hb dX11_exchanged_66 rfl ?_
      refine lv_aload_n hx hb dX11_exchanged_67 rfl (lv_at hl 0 rfl) ?_
      refine f_11_3 F w (a := 0) rfl tb_273 dX11_exchanged_68 ?_
      refine f_0_0 F w (a := 22) rfl tb_325 dX11_exchanged_71 ?_
      refine lv_aload_n hx hb dX11_exchanged_74 rfl (lv_at hl 0 rfl) ?_
      refine f_11_3 F w (a := 0) rfl tb_273 dX11_exchanged_75 ?_
      refine f_0_1 F w (a := 22) rfl tb_326 dX11_exchanged_78 ?_
      refine lv_iload_n hx hb dX11_exchanged_81 rfl (lv_at hl 1 rfl) ?_
      have hk19 := kd_lst (j := (Int.toNat x)) (by omega)
      refine g_aldR F w (a := 24) rfl (j := (Int.toNat x)) (o := (28 + 2 * (Int.toNat x))) rfl (ix_z (by omega) (by omega)) (by omega) dX11_exchanged_82 ?_
      refine lv_aload_n hx hb dX11_exchanged_83 rfl (lv_at hl 0 rfl) ?_
      refine f_11_9 F w (a := 0) rfl tb_324 dX11_exchanged_84 ?_
      refine k_Vi F w (As := [.ref (B + (28 + 2 * (Int.toNat x))), .ref (B + 143)]) (rest := []) (a := 23) (kd_lt (a := 23) (show kd 23 = (1, 0, 0) from rfl) (by decide)) (sh_1 rfl _ _) rfl (q_X1_perform (u1 := (28 + 2 * (Int.toNat x))) hk19 (a := 143) rfl  (hJN17).1) gv_X11_183 hv_X1_perform ⟨(Nat.le_of_ble_eq_true rfl), (Nat.le_of_ble_eq_true rfl)⟩ hl.1 rfl (Nat.le_of_ble_eq_true rfl) ⟨Nat.zero_le _, Nat.zero_le _⟩ dX11_exchanged_87 (fun r20 N21 H locs hp w => ?_)
      obtain ⟨z22, rfl, bz22, hIN21, hFN21⟩ := hp
      have hGN21 := Fr.tr hGN17 hFN21 (S := (fun b9 k9 => (b9 = 22 ∧ k9 = 7) ∨ (b9 = 23 ∧ k9 = 0) ∨ b9 = 143 ∨ b9 = 144 ∨ b9 = 145 ∨ b9 = 26 ∨ b9 = 27 ∨ (44 ≤ b9 ∧ b9 ≤ 70))) (fun b k h => by (try dsimp only at h ⊢); (repeat' (refine Or.elim h ?_ ?_ <;> clear h <;> intro h)); all_goals first | (obtain ⟨rfl, rfl⟩ := h; decide) | (subst h; decide) | omega)
      have hJN21 := IvG.call hJN17 hIN21 hFN21 (fun b9 k9 h9 => by (try dsimp only at h9); omega)
      refine lv_pop hx hb dX11_exchanged_90 rfl ?_
      refine lv_aload_n hx hb dX11_exchanged_91 rfl (lv_at hl 0 rfl) ?_
      refine f_11_3 F w (a := 0) rfl tb_273 dX11_exchanged_92 ?_
      refine lv_aload_n hx hb dX11_exchanged_95 rfl (lv_at hl 0 rfl) ?_
      refine f_11_9 F w (a := 0) rfl tb_324 dX11_exchanged_96 ?_
      refine lv_iload_n hx hb dX11_exchanged_99 rfl (lv_at hl 1 rfl) ?_
      refine lv_iconst (v := zI 2) hx hb dX11_exchanged_100 rfl ?_
      refine z_iadd (z := (x + 2)) hx hb dX11_exchanged_101 (by omega) ?_
      refine k_Vv F w (As := [.ref (B + 143), .int (zI (x + 2))]) (rest := []) (a := 22) (kd_lt (a := 22) (show kd 22 = (0, 0, 0) from rfl) (by decide)) (sh_0 rfl _ _) rfl (q_X0_finish (a := 143) rfl (x := (x + 2)) (by omega)  (hJN21).1) gv_X11_264 hv_X0_finish ⟨(Nat.le_of_ble_eq_true rfl), (Nat.le_of_ble_eq_true rfl)⟩ hl.1 rfl (Nat.le_of_ble_eq_true rfl) ⟨Nat.zero_le _, Nat.zero_le _⟩ dX11_exchanged_102 (fun N24 H locs hp w => ?_)
      obtain ⟨hIN24, hFN24⟩ := hp
      have hGN24 := Fr.tr hGN21 hFN24 (S := (fun b9 k9 => (b9 = 22 ∧ k9 = 7) ∨ (b9 = 23 ∧ k9 = 0) ∨ b9 = 143 ∨ b9 = 144 ∨ b9 = 145 ∨ b9 = 26 ∨ b9 = 27 ∨ (44 ≤ b9 ∧ b9 ≤ 70))) (fun b k h => by (try dsimp only at h ⊢); (repeat' (refine Or.elim h ?_ ?_ <;> clear h <;> intro h)); all_goals first | (obtain ⟨rfl, rfl⟩ := h; decide) | (subst h; decide) | omega)
      have hJN24 := IvG.call hJN21 hIN24 hFN24 (fun b9 k9 h9 => by (try dsimp only at h9); omega)
      refine lv_aload_n hx hb dX11_exchanged_105 rfl (lv_at hl 0 rfl) ?_
      refine f_11_9 F w (a := 0) rfl tb_324 dX11_exchanged_106 ?_
      refine lv_aload_n hx hb dX11_exchanged_109 rfl (lv_at hl 0 rfl) ?_
      refine f_11_3 F w (a := 0) rfl tb_273 dX11_exchanged_110 ?_
      refine lv_aload_n hx hb dX11_exchanged_113 rfl (lv_at hl 0 rfl) ?_
      refine f_11_3 F w (a := 0) rfl tb_273 dX11_exchanged_114 ?_
      refine f_0_2 F w (a := 22) rfl tb_379 dX11_exchanged_117 ?_
      obtain ⟨z26, bz26, ez26⟩ := IvG.ld (k := 2) hJN24 (show iv 22 2 = (0, 8) from rfl) (show 22 < 146 by decide)
      refine r_val ez26 ?_
      refine k_Vr F w (As := [.int (zI z26)]) (rest := [.ref (B + 143)]) (a := 22) (kd_lt (a := 22) (show kd 22 = (0, 0, 0) from rfl) (by decide)) (sh_0 rfl _ _) rfl (gq_stageOf (x := z26) (by omega)  hJN24) gv_X11_196 hv_X0_stageOf ⟨(Nat.le_of_ble_eq_true rfl), (Nat.le_of_ble_eq_true rfl)⟩ hl.1 rfl (Nat.le_of_ble_eq_true rfl) ⟨Nat.zero_le _, Nat.zero_le _⟩ dX11_exchanged_120 (fun r27 N28 H locs hp w => ?_)
      obtain ⟨z29, rfl, br27, hIN28, hFN28⟩ := hp
      have hGN28 := Fr.tr hGN24 hFN28 (S := (fun b9 k9 => (b9 = 22 ∧ k9 = 7) ∨ (b9 = 23 ∧ k9 = 0) ∨ b9 = 143 ∨ b9 = 144 ∨ b9 = 145 ∨ b9 = 26 ∨ b9 = 27 ∨ (44 ≤ b9 ∧ b9 ≤ 70))) (fun b k h => by (try dsimp only at h ⊢); (repeat' (refine Or.elim h ?_ ?_ <;> clear h <;> intro h)); all_goals first | (obtain ⟨rfl, rfl⟩ := h; decide) | (subst h; decide) | omega)
      have kn30 : N28.1 22 2 = zI z26 := (hFN28 22 2 (by first | omega | (dsimp only; omega))).trans (ez26)
      refine k_Vi F w (As := [.ref (B + r27)]) (rest := []) (a := 143) (kd_lt (a := 143) (show kd 143 = (9, 0, 0) from rfl) (by decide)) (sh_9 rfl _ _) rfl (q_X9_isReadAs (a := 143) rfl (d := r27) br27.1  (hIN28).1) gv_X11_267 hv_X9_isReadAs ⟨(Nat.le_of_ble_eq_true rfl), (Nat.le_of_ble_eq_true rfl)⟩ hl.1 rfl (Nat.le_of_ble_eq_true rfl) ⟨Nat.zero_le _, Nat.zero_le _⟩ dX11_exchanged_123 (fun r31 N32 H locs hp w => ?_)
      obtain ⟨z33, rfl, bz33, hMN32⟩ := hp
      rw [hMN32] at w
      refine z_if_eq (tgt := 133) hx hb (by omega) dX11_exchanged_126 (by decide) (fun c34 => ?_) (fun c34 => ?_)
      · refine lv_iconst (v := zI 1) hx hb dX11_exchanged_133 rfl ?_
        rw [hQ]
        exact e_i F w hr hlocks ⟨_, rfl, (by omega), hIN28, hGN28⟩ dX11_exchanged_134
      · refine lv_iconst (v := zI 0) hx hb dX11_exchanged_129 rfl ?_
        refine lv_goto (tgt := 134) hx hb dX11_exchanged_130 (by decide) ?_
        rw [hQ]
        exact e_i F w hr hlocks ⟨_, rfl, (by omega), hIN28, hGN28⟩ dX11_exchanged_134
    · refine lv_iconst (v := zI (-1)) hx hb dX11_exchanged_24 rfl ?_
      rw [hQ]
      exact e_i F w hr hlocks ⟨_, rfl, (by omega), hI, hF⟩ dX11_exchanged_25
set_option maxRecDepth 4000 in
theorem gq_X11_needed {l : Launch} {D : va_G} {B : Nat} {cy : Nat → ClassId} {M : Mem} {Pg : Nat → Nat → Int} {mg kg : Nat} {xg : Fw} {Hg : Nat → Fw}  (hI : IvG Pg mg xg Hg kg M) : Ci l D B cy yX11_needed cX11_needed 4 (some .int) 6 156 [.ref (B + 0)] M (fun r M1 => ∃ z : Int, r = zI z ∧ (0 ≤ z ∧ z ≤ 4095) ∧ IvG Pg mg xg Hg kg M1 ∧ Fr (fun b9 k9 => (b9 = 22 ∧ k9 = 7) ∨ (b9 = 23 ∧ k9 = 0) ∨ b9 = 143 ∨ b9 = 144 ∨ b9 = 145 ∨ b9 = 26 ∨ b9 = 27 ∨ (44 ≤ b9 ∧ b9 ≤ 70)) M1 M) := by
  refine s_anyQ (by decide) (Nat.le_of_ble_eq_true rfl) ?_
  intro p e s m args below meth c ls Q F hr hlocks hQ w hl
  have F : CallFix p m c cX11_needed 4 s args TB RX11 := F
  have hx := F.1
  have hb := F.2.1
  have hl : lv_has ls 4 [(0, .ref (B + 0))] := hl
  have hF : Fr (fun b9 k9 => (b9 = 22 ∧ k9 = 7) ∨ (b9 = 23 ∧ k9 = 0) ∨ b9 = 143 ∨ b9 = 144 ∨ b9 = 145 ∨ b9 = 26 ∨ b9 = 27 ∨ (44 ≤ b9 ∧ b9 ≤ 70)) M M := Fr.rf
  refine lv_iconst (v := zI 0) hx hb dX11_needed_0 rfl ?_
  refine lv_istore_n (lv' := [(1, .int (zI 0)), (0, .ref (B + 0))]) hx hb dX11_needed_1 rfl hl (by decide) rfl (fun ls hl => ?_)
  refine lv_aload_n hx hb dX11_needed_2 rfl (lv_at hl 1 rfl) ?_
  refine f_11_3 F w (a := 0) rfl tb_273 dX11_needed_3 ?_
  refine lv_aload_n hx hb dX11_needed_6 rfl (lv_at hl 1 rfl) ?_
  refine f_11_3 F w (a := 0) rfl tb_273 dX11_needed_7 ?_
  refine f_0_2 F w (a := 22) rfl tb_379 dX11_needed_10 ?_
  obtain ⟨z1, bz1, ez1⟩ := IvG.ld (k := 2) hI (show iv 22 2 = (0, 8) from rfl) (show 22 < 146 by decide)
  refine r_val ez1 ?_
  refine k_Vr F w (As := [.int (zI z1)]) (rest := []) (a := 22) (kd_lt (a := 22) (show kd 22 = (0, 0, 0) from rfl) (by decide)) (sh_0 rfl _ _) rfl (gq_stageOf (x := z1) (by omega)  hI) gv_X11_196 hv_X0_stageOf ⟨(Nat.le_of_ble_eq_true rfl), (Nat.le_of_ble_eq_true rfl)⟩ hl.1 rfl (Nat.le_of_ble_eq_true rfl) ⟨Nat.zero_le _, Nat.zero_le _⟩ dX11_needed_13 (fun r2 N3 H locs hp w => ?_)
  obtain ⟨z4, rfl, br2, hIN3, hFN3⟩ := hp
  have hGN3 := Fr.tr hF hFN3 (S := (fun b9 k9 => (b9 = 22 ∧ k9 = 7) ∨ (b9 = 23 ∧ k9 = 0) ∨ b9 = 143 ∨ b9 = 144 ∨ b9 = 145 ∨ b9 = 26 ∨ b9 = 27 ∨ (44 ≤ b9 ∧ b9 ≤ 70))) (fun b k h => by (try dsimp only at h ⊢); (repeat' (refine Or.elim h ?_ ?_ <;> clear h <;> intro h)); all_goals first | (obtain ⟨rfl, rfl⟩ := h; decide) | (subst h; decide) | omega)
  have kn5 : N3.1 22 2 = zI z1 := (hFN3 22 2 (by first | omega | (dsimp only; omega))).trans (ez1)
  refine lv_astore_n (lv' := [(2, .ref (B + r2)), (1, .int (zI 0)), (0, .ref (B + 0))]) hx hb dX11_needed_16 rfl hl (by decide) rfl (fun ls hl => ?_)
  refine lv_iconst (v := zI 0) hx hb dX11_needed_17 rfl ?_
  refine lv_istore_n (lv' := [(3, .int (zI 0)), (2, .ref (B + r2)), (1, .int (zI 0)), (0, .ref (B + 0))]) hx hb dX11_needed_18 rfl hl (by decide) rfl (fun ls hl => ?_)
  have lp19 : ∀ (f : Nat) (v3_19 : Int) (v1_19 : Int)  (NL19 : Mem), (0 ≤ v3_19 ∧ v3_19 ≤ 8) → (0 ≤ v1_19 ∧ v1_19 ≤ 4095) → NL19.1 22 2 = zI z1 → IvG Pg mg xg Hg kg NL19 → Fr (fun b9 k9 => (b9 = 22 ∧ k9 = 7) ∨ (b9 = 23 ∧ k9 = 0) ∨ b9 = 143 ∨ b9 = 144 ∨ b9 = 145 ∨ b9 = 26 ∨ b9 = 27 ∨ (44 ≤ b9 ∧ b9 ≤ 70)) NL19 M → (Int.toNat (8 - v3_19) < f) → ∀ (H : Heap) (locs : List Loc) (ls : Array Slot), Wd D B cy s s.heap NL19 H locs → lv_has ls 4 [(3, .int (zI v3_19)), (2, .ref (B + r2)), (1, .int (zI v1_19)), (0, .ref (B + 0))] → W p l e (rmm 6 156) s m args below meth c H locs 0 0 Q (F0 m 19 ls []) := by
    intro f
    induction f with
    | zero => intros; omega
    | succ f ih19 =>
      intro v3_19 v1_19  NL19 iv3_19 iv1_19 eg22_2_19 hIL19 hFL19 hf19 H locs ls w hl
      refine lv_iload_n hx hb dX11_needed_19 rfl (lv_at hl 0 rfl) ?_
      refine lv_aload_n hx hb dX11_needed_20 rfl (lv_at hl 3 rfl) ?_
      refine f_11_3 F w (a := 0) rfl tb_273 dX11_needed_21 ?_
      refine f_0_2 F w (a := 22) rfl tb_379 dX11_needed_24 ?_
      refine r_val (v := zI z1) (eg22_2_19) ?_
      refine z_icmp_ge (tgt := 82) hx hb (by omega) (by omega) dX11_needed_27 (by decide) (fun c6 => ?_) (fun c6 => ?_)
      · refine lv_iload_n hx hb dX11_needed_82 rfl (lv_at hl 2 rfl) ?_
        rw [hQ]
        exact e_i F w hr hlocks ⟨_, rfl, (by omega), hIL19, hFL19⟩ dX11_needed_83
      · refine lv_aload_n hx hb dX11_needed_30 rfl (lv_at hl 3 rfl) ?_
        refine f_11_9 F w (a := 0) rfl tb_324 dX11_needed_31 ?_
        refine lv_aload_n hx hb dX11_needed_34 rfl (lv_at hl 3 rfl) ?_
        refine f_11_3 F w (a := 0) rfl tb_273 dX11_needed_35 ?_
        refine lv_iload_n hx hb dX11_needed_38 rfl (lv_at hl 0 rfl) ?_
        refine k_Vr F w (As := [.int (zI v3_19)]) (rest := [.ref (B + 143)]) (a := 22) (kd_lt (a := 22) (show kd 22 = (0, 0, 0) from rfl) (by decide)) (sh_0 rfl _ _) rfl (gq_stageOf (x := v3_19) (by omega)  hIL19) gv_X11_196 hv_X0_stageOf ⟨(Nat.le_of_ble_eq_true rfl), (Nat.le_of_ble_eq_true rfl)⟩ hl.1 rfl (Nat.le_of_ble_eq_true rfl) ⟨Nat.zero_le _, Nat.zero_le _⟩ dX11_needed_39 (fun r7 N8 H locs hp w => ?_)
        obtain ⟨z9, rfl, br7, hIN8, hFN8⟩ := hp
        have hGN8 := Fr.tr hFL19 hFN8 (S := (fun b9 k9 => (b9 = 22 ∧ k9 = 7) ∨ (b9 = 23 ∧ k9 = 0) ∨ b9 = 143 ∨ b9 = 144 ∨ b9 = 145 ∨ b9 = 26 ∨ b9 = 27 ∨ (44 ≤ b9 ∧ b9 ≤ 70))) (fun b k h => by (try dsimp only at h ⊢); (repeat' (refine Or.elim h ?_ ?_ <;> clear h <;> intro h)); all_goals first | (obtain ⟨rfl, rfl⟩ := h; decide) | (subst h; decide) | omega)
        have kn10 : N8.1 22 2 = zI z1 := (hFN8 22 2 (by first | omega | (dsimp only; omega))).trans (eg22_2_19)
        refine k_Vv F w (As := [.ref (B + r7)]) (rest := []) (a := 143) (kd_lt (a := 143) (show kd 143 = (9, 0, 0) from rfl) (by decide)) (sh_9 rfl _ _) rfl (q_X9_copyFrom (a := 143) rfl (d := r7) br7.1  (hIN8).1) gv_X11_90 hv_X9_copyFrom ⟨(Nat.le_of_ble_eq_true rfl), (Nat.le_of_ble_eq_true rfl)⟩ hl.1 rfl (Nat.le_of_ble_eq_true rfl) ⟨Nat.zero_le _, Nat.zero_le _⟩ dX11_needed_42 (fun N12 H locs hp w => ?_)
        obtain ⟨hIN12, hFN12⟩ := hp
        have hGN12 := Fr.tr hGN8 hFN12 (S := (fun b9 k9 => (b9 = 22 ∧ k9 = 7) ∨ (b9 = 23 ∧ k9 = 0) ∨ b9 = 143 ∨ b9 = 144 ∨ b9 = 145 ∨ b9 = 26 ∨ b9 = 27 ∨ (44 ≤ b9 ∧ b9 ≤ 70))) (fun b k h => by (try dsimp only at h ⊢); (repeat' (refine Or.elim h ?_ ?_ <;> clear h <;> intro h)); all_goals first | (obtain ⟨rfl, rfl⟩ := h; decide) | (subst h; decide) | omega)
        have kn14 : N12.1 22 2 = zI z1 := (hFN12 22 2 (by first | omega | (dsimp only; omega))).trans (kn10)
        have hJN12 := IvG.call hIN8 hIN12 hFN12 (fun b9 k9 h9 => by (try dsimp only at h9); omega)
        refine lv_aload_n hx hb dX11_needed_45 rfl (lv_at hl 3 rfl) ?_
        refine f_11_3 F w (a := 0) rfl tb_273 dX11_needed_46 ?_
        refine lv_aload_n hx hb dX11_needed_49 rfl (lv_at hl 3 rfl) ?_
        refine f_11_9 F w (a := 0) rfl tb_324 dX11_needed_50 ?_
        refine lv_iload_n hx hb dX11_needed_53 rfl (lv_at hl 0 rfl) ?_
        refine lv_iconst (v := zI 1) hx hb dX11_needed_54 rfl ?_
        refine z_iadd (z := (v3_19 + 1)) hx hb dX11_needed_55 (by omega) ?_
        refine k_Vv F w (As := [.ref (B + 143), .int (zI (v3_19 + 1))]) (rest := []) (a := 22) (kd_lt (a := 22) (show kd 22 = (0, 0, 0) from rfl) (by decide)) (sh_0 rfl _ _) rfl (q_X0_finish (a := 143) rfl (x := (v3_19 + 1)) (by omega)  (hJN12).1) gv_X11_264 hv_X0_finish ⟨(Nat.le_of_ble_eq_true rfl), (Nat.le_of_ble_eq_true rfl)⟩ hl.1 rfl (Nat.le_of_ble_eq_true rfl) ⟨Nat.zero_le _, Nat.zero_le _⟩ dX11_needed_56 (fun N16 H locs hp w => ?_)
        obtain ⟨hIN16, hFN16⟩ := hp
        have hGN16 := Fr.tr hGN12 hFN16 (S := (fun b9 k9 => (b9 = 22 ∧ k9 = 7) ∨ (b9 = 23 ∧ k9 = 0) ∨ b9 = 143 ∨ b9 = 144 ∨ b9 = 145 ∨ b9 = 26 ∨ b9 = 27 ∨ (44 ≤ b9 ∧ b9 ≤ 70))) (fun b k h => by (try dsimp only at h ⊢); (repeat' (refine Or.elim h ?_ ?_ <;> clear h <;> intro h)); all_goals first | (obtain ⟨rfl, rfl⟩ := h; decide) | (subst h; decide) | omega)
        have kn18 : N16.1 22 2 = zI z1 := (hFN16 22 2 (by first | omega | (dsimp only; omega))).trans (kn14)
        have hJN16 := IvG.call hJN12 hIN16 hFN16 (fun b9 k9 h9 => by (try dsimp only at h9); omega)
        refine lv_aload_n hx hb dX11_needed_59 rfl (lv_at hl 3 rfl) ?_
        refine f_11_9 F w (a := 0) rfl tb_324 dX11_needed_60 ?_
        refine lv_aload_n hx hb dX11_needed_63 rfl (lv_at hl 1 rfl) ?_
        refine k_Vi F w (As := [.ref (B + r2)]) (rest := []) (a := 143) (kd_lt (a := 143) (show kd 143 = (9, 0, 0) from rfl) (by decide)) (sh_9 rfl _ _) rfl (q_X9_isReadAs (a := 143) rfl (d := r2) br2.1  (hJN16).1) gv_X11_267 hv_X9_isReadAs ⟨(Nat.le_of_ble_eq_true rfl), (Nat.le_of_ble_eq_true rfl)⟩ hl.1 rfl (Nat.le_of_ble_eq_true rfl) ⟨Nat.zero_le _, Nat.zero_le _⟩ dX11_needed_64 (fun r19 N20 H locs hp w => ?_)
        obtain ⟨z21, rfl, bz21, hMN20⟩ := hp
        rw [hMN20] at w
        refine z_if_ne (tgt := 76) hx hb (by omega) dX11_needed_67 (by decide) (fun c22 => ?_) (fun c22 => ?_)
        · refine z_iinc (v := (v3_19 + 1)) (lv' := [(3, .int (zI (v3_19 + 1))), (2, .ref (B + r2)), (1, .int (zI v1_19)), (0, .ref (B + 0))]) hx hb dX11_needed_76 hl (k := 0) rfl (by omega) (by decide) rfl (fun ls hl => ?_)
          refine lv_goto (tgt := 19) hx hb dX11_needed_79 (by decide) ?_
          exact ih19 (v3_19 + 1) v1_19 N16 (by omega) (by omega)  (kn18)  hJN16 hGN16 (by omega) _ _ _ w (lv_sub hl [0, 1, 2, 3] rfl)
        · refine lv_iload_n hx hb dX11_needed_70 rfl (lv_at hl 2 rfl) ?_
          refine lv_iconst (v := zI 1) hx hb dX11_needed_71 rfl ?_
          refine lv_iload_n hx hb dX11_needed_72 rfl (lv_at hl 0 rfl) ?_
          obtain ⟨z23, bz23, x0z23, ez23⟩ := shl_ex 1 v3_19
          refine lv_ishl hx hb dX11_needed_73 ?_
          refine r_val ez23 ?_
          obtain ⟨z24, bz24, x0z24, ez24⟩ := or_ex v1_19 z23
          refine lv_ior hx hb dX11_needed_74 ?_
          refine r_val ez24 ?_
          refine lv_istore_n (lv' := [(1, .int (zI z24)), (3, .int (zI v3_19)), (2, .ref (B + r2)), (0, .ref (B + 0))]) hx hb dX11_needed_75 rfl hl (by decide) rfl (fun ls hl => ?_)
          refine z_iinc (v := (v3_19 + 1)) (lv' := [(3, .int (zI (v3_19 + 1))), (1, .int (zI z24)), (2, .ref (B + r2)), (0, .ref (B + 0))]) hx hb dX11_needed_76 hl (k := 1) rfl (by omega) (by decide) rfl (fun ls hl => ?_)
          refine lv_goto (tgt := 19) hx hb dX11_needed_79 (by decide) ?_
          exact ih19 (v3_19 + 1) z24 N16 (by omega) (by omega)  (kn18)  hJN16 hGN16 (by omega) _ _ _ w (lv_sub hl [0, 2, 1, 3] rfl)
  exact lp19 _ 0 0 N3 (by omega) (by omega) (kn5) hIN3 hGN3 (Nat.lt_succ_self _) _ _ _ w (lv_sub hl [0, 1, 2, 3] rfl)
set_option maxRecDepth 4000 in
theorem gq_X11_orders {l : Launch} {D : va_G} {B : Nat} {cy : Nat → ClassId} {M : Mem} {Pg : Nat → Nat → Int} {mg kg : Nat} {xg : Fw} {Hg : Nat → Fw} {x : Int} (hx : (-2147483648) ≤ x ∧ x ≤ 2147483647) (hI : IvG Pg mg xg Hg kg M) : Ci l D B cy yX11_orders cX11_orders 2 (some .int) 6 167 [.ref (B + 0), .int (zI x)] M (fun r M1 => ∃ z : Int, r = zI z ∧ ((-2147483648) ≤ z ∧ z ≤ 2147483647) ∧ IvG Pg mg xg Hg kg M1 ∧ Fr (fun b9 k9 => (b9 = 109 ∧ k9 = 0) ∨ (b9 = 109 ∧ k9 = 1) ∨ (b9 = 109 ∧ k9 = 2) ∨ (b9 = 22 ∧ k9 = 7) ∨ (b9 = 23 ∧ k9 = 0) ∨ b9 = 110 ∨ b9 = 26 ∨ b9 = 27 ∨ (114 ≤ b9 ∧ b9 ≤ 134) ∨ (44 ≤ b9 ∧ b9 ≤ 70)) M1 M) := by
  refine s_anyQ (by decide) (Nat.le_of_ble_eq_true rfl) ?_
  intro p e s m args below meth c ls Q F hr hlocks hQ w hl
  have F : CallFix p m c cX11_orders 2 s args TB RX11 := F
  have hx := F.1
  have hb := F.2.1
  have hl : lv_has ls 2 [(0, .ref (B + 0)), (1, .int (zI x))] := hl
  have hF : Fr (fun b9 k9 => (b9 = 109 ∧ k9 = 0) ∨ (b9 = 109 ∧ k9 = 1) ∨ (b9 = 109 ∧ k9 = 2) ∨ (b9 = 22 ∧ k9 = 7) ∨ (b9 = 23 ∧ k9 = 0) ∨ b9 = 110 ∨ b9 = 26 ∨ b9 = 27 ∨ (114 ≤ b9 ∧ b9 ≤ 134) ∨ (44 ≤ b9 ∧ b9 ≤ 70)) M M := Fr.rf
  refine lv_iload_n hx hb dX11_orders_0 rfl (lv_at hl 1 rfl) ?_
  refine z_if_lt (tgt := 9) hx hb (by omega) dX11_orders_1 (by decide) (fun c1 => ?_) (fun c1 => ?_)
  · refine lv_iconst (v := zI (-1)) hx hb dX11_orders_9 rfl ?_
    rw [hQ]
    exact e_i F w hr hlocks ⟨_, rfl, (by omega), hI, hF⟩ dX11_orders_10
  · refine lv_iload_n hx hb dX11_orders_4 rfl (lv_at hl 1 rfl) ?_
    refine lv_iconst (v := zI 1) hx hb dX11_orders_5 rfl ?_
    refine z_icmp_le (tgt := 11) hx hb (by omega) (by omega) dX11_orders_6 (by decide) (fun c2 => ?_) (fun c2 => ?_)
    · refine lv_aload_n hx hb dX11_orders_11 rfl (lv_at hl 0 rfl) ?_
      refine f_11_3 F w (a := 0) rfl tb_273 dX11_orders_12 ?_
      refine f_0_2 F w (a := 22) rfl tb_379 dX11_orders_15 ?_
      obtain ⟨z3, bz3, ez3⟩ := IvG.ld (k := 2) hI (show iv 22 2 = (0, 8) from rfl) (show 22 < 146 by decide)
      refine r_val ez3 ?_
      refine lv_bipush (v := zI 6) hx hb dX11_orders_18 (by decide) ?_
      refine z_icmp_le (tgt := 26) hx hb (by omega) (by omega) dX11_orders_20 (by decide) (fun c4 => ?_) (fun c4 => ?_)
      · refine lv_aload_n hx hb dX11_orders_26 rfl (lv_at hl 0 rfl) ?_
        refine f_11_6 F w (a := 0) rfl tb_275 dX11_orders_27 ?_
        refine f_3_0 F w (a := 109) rfl tb_276 dX11_orders_30 ?_
        obtain ⟨z5, bz5, ez5⟩ := IvG.ld (k := 0) hI (show iv 109 0 = (0, 1) from rfl) (show 109 < 146 by decide)
        refine r_val ez5 ?_
        refine z_if_ne (tgt := 61) hx hb (by omega) dX11_orders_33 (by decide) (fun c6 => ?_) (fun c6 => ?_)
        · refine lv_iload_n hx hb dX11_orders_61 rfl (lv_at hl 1 rfl) ?_
          refine z_if_ne (tgt := 75) hx hb (by omega) dX11_orders_62 (by decide) (fun c7 => ?_) (fun c7 => ?_)
          · refine lv_aload_n hx hb dX11_orders_75 rfl (lv_at hl 0 rfl) ?_
            refine f_11_6 F w (a := 0) rfl tb_275 dX11_orders_76 ?_
            refine f_3_2 F w (a := 109) rfl tb_383 dX11_orders_79 ?_
            obtain ⟨z8, bz8, ez8⟩ := IvG.ld (k := 2) hI (show iv 109 2 = ((-2147483648), 2147483647) from rfl) (show 109 < 146 by decide)
            refine r_val ez8 ?_
            rw [hQ]
            exact e_i F w hr hlocks ⟨_, rfl, (by omega), hI, hF⟩ dX11_orders_82
          · refine lv_aload_n hx hb dX11_orders_65 rfl (lv_at hl 0 rfl) ?_
            refine f_11_6 F w (a := 0) rfl tb_275 dX11_orders_66 ?_
            refine f_3_1 F w (a := 109) rfl tb_384 dX11_orders_69 ?_
            obtain ⟨z9, bz9, ez9⟩ := IvG.ld (k := 1) hI (show iv 109 1 = (0, 720) from rfl) (show 109 < 146 by decide)
            refine r_val ez9 ?_
            refine lv_goto (tgt := 82) hx hb dX11_orders_72 (by decide) ?_
            rw [hQ]
            exact e_i F w hr hlocks ⟨_, rfl, (by omega), hI, hF⟩ dX11_orders_82
        · refine lv_aload_n hx hb dX11_orders_36 rfl (lv_at hl 0 rfl) ?_
          refine f_11_6 F w (a := 0) rfl tb_275 dX11_orders_37 ?_
          refine lv_aload_n hx hb dX11_orders_40 rfl (lv_at hl 0 rfl) ?_
          refine f_11_3 F w (a := 0) rfl tb_273 dX11_orders_41 ?_
          refine lv_aload_n hx hb dX11_orders_44 rfl (lv_at hl 0 rfl) ?_
          refine f_11_3 F w (a := 0) rfl tb_273 dX11_orders_45 ?_
          refine lv_aload_n hx hb dX11_orders_48 rfl (lv_at hl 0 rfl) ?_
          refine f_11_3 F w (a := 0) rfl tb_273 dX11_orders_49 ?_
          refine f_0_2 F w (a := 22) rfl tb_379 dX11_orders_52 ?_
          refine r_val (v := zI z3) (ez3) ?_
          refine k_Vr F w (As := [.int (zI z3)]) (rest := [.ref (B + 22), .ref (B + 109)]) (a := 22) (kd_lt (a := 22) (show kd 22 = (0, 0, 0) from rfl) (by decide)) (sh_0 rfl _ _) rfl (gq_stageOf (x := z3) (by omega)  hI) gv_X11_196 hv_X0_stageOf ⟨(Nat.le_of_ble_eq_true rfl), (Nat.le_of_ble_eq_true rfl)⟩ hl.1 rfl (Nat.le_of_ble_eq_true rfl) ⟨Nat.zero_le _, Nat.zero_le _⟩ dX11_orders_55 (fun r10 N11 H locs hp w => ?_)
          obtain ⟨z12, rfl, br10, hIN11, hFN11⟩ := hp
          have hGN11 := Fr.tr hF hFN11 (S := (fun b9 k9 => (b9 = 109 ∧ k9 = 0) ∨ (b9 = 109 ∧ k9 = 1) ∨ (b9 = 109 ∧ k9 = 2) ∨ (b9 = 22 ∧ k9 = 7) ∨ (b9 = 23 ∧ k9 = 0) ∨ b9 = 110 ∨ b9 = 26 ∨ b9 = 27 ∨ (114 ≤ b9 ∧ b9 ≤ 134) ∨ (44 ≤ b9 ∧ b9 ≤ 70))) (fun b k h => by (try dsimp only at h ⊢); (repeat' (refine Or.elim h ?_ ?_ <;> clear h <;> intro h)); all_goals first | (obtain ⟨rfl, rfl⟩ := h; decide) | (subst h; decide) | omega)
          have kn13 : N11.1 22 2 = zI z3 := (hFN11 22 2 (by first | omega | (dsimp only; omega))).trans (ez3)
          have kn14 : N11.1 109 0 = zI z5 := (hFN11 109 0 (by first | omega | (dsimp only; omega))).trans (ez5)
          refine k_Vv F w (As := [.ref (B + 22), .ref (B + r10)]) (rest := []) (a := 109) (kd_lt (a := 109) (show kd 109 = (3, 0, 0) from rfl) (by decide)) (sh_3 rfl _ _) rfl (q_X3_reckon (a := r10) br10.1  (hIN11).1) gv_X11_275 hv_X3_reckon ⟨(Nat.le_of_ble_eq_true rfl), (Nat.le_of_ble_eq_true rfl)⟩ hl.1 rfl (Nat.le_of_ble_eq_true rfl) ⟨Nat.zero_le _, Nat.zero_le _⟩ dX11_orders_58 (fun N16 H locs hp w => ?_)
          obtain ⟨hIN16, hFN16⟩ := hp
          have hGN16 := Fr.tr hGN11 hFN16 (S := (fun b9 k9 => (b9 = 109 ∧ k9 = 0) ∨ (b9 = 109 ∧ k9 = 1) ∨ (b9 = 109 ∧ k9 = 2) ∨ (b9 = 22 ∧ k9 = 7) ∨ (b9 = 23 ∧ k9 = 0) ∨ b9 = 110 ∨ b9 = 26 ∨ b9 = 27 ∨ (114 ≤ b9 ∧ b9 ≤ 134) ∨ (44 ≤ b9 ∧ b9 ≤ 70))) (fun b k h => by (try dsimp only at h ⊢); (repeat' (refine Or.elim h ?_ ?_ <;> clear h <;> intro h)); all_goals first | (obtain ⟨rfl, rfl⟩ := h; decide) | (subst h; decide) | omega)
          have kn18 : N16.1 22 2 = zI z3 := (hFN16 22 2 (by first | omega | (dsimp only; omega))).trans (kn13)
          have hJN16 := IvG.call hIN11 hIN16 hFN16 (fun b9 k9 h9 => by (try dsimp only at h9); omega)
          refine lv_iload_n hx hb dX11_orders_61 rfl (lv_at hl 1 rfl) ?_
          refine z_if_ne (tgt := 75) hx hb (by omega) dX11_orders_62 (by decide) (fun c19 => ?_) (fun c19 => ?_)
          · refine lv_aload_n hx hb dX11_orders_75 rfl (lv_at hl 0 rfl) ?_
            refine f_11_6 F w (a := 0) rfl tb_275 dX11_orders_76 ?_
            refine f_3_2 F w (a := 109) rfl tb_383 dX11_orders_79 ?_
            obtain ⟨z20, bz20, ez20⟩ := IvG.ld (k := 2) hJN16 (show iv 109 2 = ((-2147483648), 2147483647) from rfl) (show 109 < 146 by decide)
            refine r_val ez20 ?_
            rw [hQ]
            exact e_i F w hr hlocks ⟨_, rfl, (by omega), hJN16, hGN16⟩ dX11_orders_82
          · refine lv_aload_n hx hb dX11_orders_65 rfl (lv_at hl 0 rfl) ?_
            refine f_11_6 F w (a := 0) rfl tb_275 dX11_orders_66 ?_
            refine f_3_1 F w (a := 109) rfl tb_384 dX11_orders_69 ?_
            obtain ⟨z21, bz21, ez21⟩ := IvG.ld (k := 1) hJN16 (show iv 109 1 = (0, 720) from rfl) (show 109 < 146 by decide)
            refine r_val ez21 ?_
            refine lv_goto (tgt := 82) hx hb dX11_orders_72 (by decide) ?_
            rw [hQ]
            exact e_i F w hr hlocks ⟨_, rfl, (by omega), hJN16, hGN16⟩ dX11_orders_82
      · refine lv_bipush (v := zI (-2)) hx hb dX11_orders_23 (by decide) ?_
        rw [hQ]
        exact e_i F w hr hlocks ⟨_, rfl, (by omega), hI, hF⟩ dX11_orders_25
    · refine lv_iconst (v := zI (-1)) hx hb dX11_orders_9 rfl ?_
      rw [hQ]
      exact e_i F w hr hlocks ⟨_, rfl, (by omega), hI, hF⟩ dX11_orders_10
set_option maxRecDepth 4000 in
theorem gq_X11_sources {l : Launch} {D : va_G} {B : Nat} {cy : Nat → ClassId} {M : Mem} {Pg : Nat → Nat → Int} {mg kg : Nat} {xg : Fw} {Hg : Nat → Fw} {x : Int} (hx : (-2147483648) ≤ x ∧ x ≤ 2147483647) (hI : IvG Pg mg xg Hg kg M) : Ci l D B cy yX11_sources cX11_sources 2 (some .int) 6 163 [.ref (B + 0), .int (zI x)] M (fun r M1 => ∃ z : Int, r = zI z ∧ ((-2147483648) ≤ z ∧ z ≤ 2147483647) ∧ IvG Pg mg xg Hg kg M1 ∧ Fr (fun b9 k9 => (b9 = 22 ∧ k9 = 7) ∨ (b9 = 23 ∧ k9 = 0) ∨ b9 = 135 ∨ b9 = 136 ∨ b9 = 137 ∨ b9 = 138 ∨ b9 = 139 ∨ b9 = 140 ∨ b9 = 26 ∨ b9 = 27 ∨ (44 ≤ b9 ∧ b9 ≤ 70)) M1 M) := by
  refine s_anyQ (by decide) (Nat.le_of_ble_eq_true rfl) ?_
  intro p e s m args below meth c ls Q F hr hlocks hQ w hl
  have F : CallFix p m c cX11_sources 2 s args TB RX11 := F
  have hx := F.1
  have hb := F.2.1
  have hl : lv_has ls 2 [(0, .ref (B + 0)), (1, .int (zI x))] := hl
  have hF : Fr (fun b9 k9 => (b9 = 22 ∧ k9 = 7) ∨ (b9 = 23 ∧ k9 = 0) ∨ b9 = 135 ∨ b9 = 136 ∨ b9 = 137 ∨ b9 = 138 ∨ b9 = 139 ∨ b9 = 140 ∨ b9 = 26 ∨ b9 = 27 ∨ (44 ≤ b9 ∧ b9 ≤ 70)) M M := Fr.rf
  refine lv_iload_n hx hb dX11_sources_0 rfl (lv_at hl 1 rfl) ?_
  refine z_if_lt (tgt := 10) hx hb (by omega) dX11_sources_1 (by decide) (fun c1 => ?_) (fun c1 => ?_)
  · refine lv_iconst (v := zI (-1)) hx hb dX11_sources_10 rfl ?_
    rw [hQ]
    exact e_i F w hr hlocks ⟨_, rfl, (by omega), hI, hF⟩ dX11_sources_11
  · refine lv_iload_n hx hb dX11_sources_4 rfl (lv_at hl 1 rfl) ?_
    refine lv_bipush (v := zI 6) hx hb dX11_sources_5 (by decide) ?_
    refine z_icmp_le (tgt := 12) hx hb (by omega) (by omega) dX11_sources_7 (by decide) (fun c2 => ?_) (fun c2 => ?_)
    · refine lv_aload_n hx hb dX11_sources_12 rfl (lv_at hl 0 rfl) ?_
      refine f_11_7 F w (a := 0) rfl tb_277 dX11_sources_13 ?_
      refine lv_aload_n hx hb dX11_sources_16 rfl (lv_at hl 0 rfl) ?_
      refine f_11_3 F w (a := 0) rfl tb_273 dX11_sources_17 ?_
      refine lv_aload_n hx hb dX11_sources_20 rfl (lv_at hl 0 rfl) ?_
      refine f_11_3 F w (a := 0) rfl tb_273 dX11_sources_21 ?_
      refine lv_aload_n hx hb dX11_sources_24 rfl (lv_at hl 0 rfl) ?_
      refine f_11_3 F w (a := 0) rfl tb_273 dX11_sources_25 ?_
      refine f_0_2 F w (a := 22) rfl tb_379 dX11_sources_28 ?_
      obtain ⟨z3, bz3, ez3⟩ := IvG.ld (k := 2) hI (show iv 22 2 = (0, 8) from rfl) (show 22 < 146 by decide)
      refine r_val ez3 ?_
      refine k_Vr F w (As := [.int (zI z3)]) (rest := [.ref (B + 22), .ref (B + 135)]) (a := 22) (kd_lt (a := 22) (show kd 22 = (0, 0, 0) from rfl) (by decide)) (sh_0 rfl _ _) rfl (gq_stageOf (x := z3) (by omega)  hI) gv_X11_196 hv_X0_stageOf ⟨(Nat.le_of_ble_eq_true rfl), (Nat.le_of_ble_eq_true rfl)⟩ hl.1 rfl (Nat.le_of_ble_eq_true rfl) ⟨Nat.zero_le _, Nat.zero_le _⟩ dX11_sources_31 (fun r4 N5 H locs hp w => ?_)
      obtain ⟨z6, rfl, br4, hIN5, hFN5⟩ := hp
      have hGN5 := Fr.tr hF hFN5 (S := (fun b9 k9 => (b9 = 22 ∧ k9 = 7) ∨ (b9 = 23 ∧ k9 = 0) ∨ b9 = 135 ∨ b9 = 136 ∨ b9 = 137 ∨ b9 = 138 ∨ b9 = 139 ∨ b9 = 140 ∨ b9 = 26 ∨ b9 = 27 ∨ (44 ≤ b9 ∧ b9 ≤ 70))) (fun b k h => by (try dsimp only at h ⊢); (repeat' (refine Or.elim h ?_ ?_ <;> clear h <;> intro h)); all_goals first | (obtain ⟨rfl, rfl⟩ := h; decide) | (subst h; decide) | omega)
      have kn7 : N5.1 22 2 = zI z3 := (hFN5 22 2 (by first | omega | (dsimp only; omega))).trans (ez3)
      refine lv_iload_n hx hb dX11_sources_34 rfl (lv_at hl 1 rfl) ?_
      refine k_Vv F w (As := [.ref (B + 22), .ref (B + r4), .int (zI x)]) (rest := []) (a := 135) (kd_lt (a := 135) (show kd 135 = (6, 0, 0) from rfl) (by decide)) (sh_6 rfl _ _) rfl (q_X6_bring (a := r4) br4.1 (x := x) (by omega)  (hIN5).1) gv_X11_285 hv_X6_bring ⟨(Nat.le_of_ble_eq_true rfl), (Nat.le_of_ble_eq_true rfl)⟩ hl.1 rfl (Nat.le_of_ble_eq_true rfl) ⟨Nat.zero_le _, Nat.zero_le _⟩ dX11_sources_35 (fun N9 H locs hp w => ?_)
      obtain ⟨hIN9, hFN9⟩ := hp
      have hGN9 := Fr.tr hGN5 hFN9 (S := (fun b9 k9 => (b9 = 22 ∧ k9 = 7) ∨ (b9 = 23 ∧ k9 = 0) ∨ b9 = 135 ∨ b9 = 136 ∨ b9 = 137 ∨ b9 = 138 ∨ b9 = 139 ∨ b9 = 140 ∨ b9 = 26 ∨ b9 = 27 ∨ (44 ≤ b9 ∧ b9 ≤ 70))) (fun b k h => by (try dsimp only at h ⊢); (repeat' (refine Or.elim h ?_ ?_ <;> clear h <;> intro h)); all_goals first | (obtain ⟨rfl, rfl⟩ := h; decide) | (subst h; decide) | omega)
      have kn11 : N9.1 22 2 = zI z3 := (hFN9 22 2 (by first | omega | (dsimp only; omega))).trans (kn7)
      have hJN9 := IvG.call hIN5 hIN9 hFN9 (fun b9 k9 h9 => by (try dsimp only at h9); omega)
      refine lv_aload_n hx hb dX11_sources_38 rfl (lv_at hl 0 rfl) ?_
      refine f_11_7 F w (a := 0) rfl tb_277 dX11_sources_39 ?_
      refine f_6_1 F w (a := 135) rfl tb_391 dX11_sources_42 ?_
      refine lv_iload_n hx hb dX11_sources_45 rfl (lv_at hl 1 rfl) ?_
      refine g_iald F w (a := 136) rfl (j := (Int.toNat x)) (ix_z (by omega) (by omega)) (by omega) dX11_sources_46 ?_
      obtain ⟨z12, bz12, ez12⟩ := IvG.ld (k := (Int.toNat x)) hJN9 (show iv 136 (Int.toNat x) = ((-2147483648), 2147483647) from rfl) (show 136 < 146 by decide)
      refine r_val ez12 ?_
      rw [hQ]
      exact e_i F w hr hlocks ⟨_, rfl, (by omega), hJN9, hGN9⟩ dX11_sources_47
    · refine lv_iconst (v := zI (-1)) hx hb dX11_sources_10 rfl ?_
      rw [hQ]
      exact e_i F w hr hlocks ⟨_, rfl, (by omega), hI, hF⟩ dX11_sources_11
set_option maxRecDepth 4000 in
theorem gq_X11_source {l : Launch} {D : va_G} {B : Nat} {cy : Nat → ClassId} {M : Mem} {Pg : Nat → Nat → Int} {mg kg : Nat} {xg : Fw} {Hg : Nat → Fw} {x : Int} (hx : (-2147483648) ≤ x ∧ x ≤ 2147483647) (hI : IvG Pg mg xg Hg kg M) : Ci l D B cy yX11_source cX11_source 2 (some .int) 6 163 [.ref (B + 0), .int (zI x)] M (fun r M1 => ∃ z : Int, r = zI z ∧ ((-2147483648) ≤ z ∧ z ≤ 2147483647) ∧ IvG Pg mg xg Hg kg M1 ∧ Fr (fun b9 k9 => (b9 = 22 ∧ k9 = 7) ∨ (b9 = 23 ∧ k9 = 0) ∨ b9 = 135 ∨ b9 = 136 ∨ b9 = 137 ∨ b9 = 138 ∨ b9 = 139 ∨ b9 = 140 ∨ b9 = 26 ∨ b9 = 27 ∨ (44 ≤ b9 ∧ b9 ≤ 70)) M1 M) := by
  refine s_anyQ (by decide) (Nat.le_of_ble_eq_true rfl) ?_
  intro p e s m args below meth c ls Q F hr hlocks hQ w hl
  have F : CallFix p m c cX11_source 2 s args TB RX11 := F
  have hx := F.1
  have hb := F.2.1
  have hl : lv_has ls 2 [(0, .ref (B + 0)), (1, .int (zI x))] := hl
  have hF : Fr (fun b9 k9 => (b9 = 22 ∧ k9 = 7) ∨ (b9 = 23 ∧ k9 = 0) ∨ b9 = 135 ∨ b9 = 136 ∨ b9 = 137 ∨ b9 = 138 ∨ b9 = 139 ∨ b9 = 140 ∨ b9 = 26 ∨ b9 = 27 ∨ (44 ≤ b9 ∧ b9 ≤ 70)) M M := Fr.rf
  refine lv_iload_n hx hb dX11_source_0 rfl (lv_at hl 1 rfl) ?_
  refine z_if_lt (tgt := 10) hx hb (by omega) dX11_source_1 (by decide) (fun c1 => ?_) (fun c1 => ?_)
  · refine lv_iconst (v := zI (-1)) hx hb dX11_source_10 rfl ?_
    rw [hQ]
    exact e_i F w hr hlocks ⟨_, rfl, (by omega), hI, hF⟩ dX11_source_11
  · refine lv_iload_n hx hb dX11_source_4 rfl (lv_at hl 1 rfl) ?_
    refine lv_bipush (v := zI 6) hx hb dX11_source_5 (by decide) ?_
    refine z_icmp_le (tgt := 12) hx hb (by omega) (by omega) dX11_source_7 (by decide) (fun c2 => ?_) (fun c2 => ?_)
    · refine lv_aload_n hx hb dX11_source_12 rfl (lv_at hl 0 rfl) ?_
      refine f_11_7 F w (a := 0) rfl tb_277 dX11_source_13 ?_
      refine lv_aload_n hx hb dX11_source_16 rfl (lv_at hl 0 rfl) ?_
      refine f_11_3 F w (a := 0) rfl tb_273 dX11_source_17 ?_
      refine lv_aload_n hx hb dX11_source_20 rfl (lv_at hl 0 rfl) ?_
      refine f_11_3 F w (a := 0) rfl tb_273 dX11_source_21 ?_
      refine lv_aload_n hx hb dX11_source_24 rfl (lv_at hl 0 rfl) ?_
      refine f_11_3 F w (a := 0) rfl tb_273 dX11_source_25 ?_
      refine f_0_2 F w (a := 22) rfl tb_379 dX11_source_28 ?_
      obtain ⟨z3, bz3, ez3⟩ := IvG.ld (k := 2) hI (show iv 22 2 = (0, 8) from rfl) (show 22 < 146 by decide)
      refine r_val ez3 ?_
      refine k_Vr F w (As := [.int (zI z3)]) (rest := [.ref (B + 22), .ref (B + 135)]) (a := 22) (kd_lt (a := 22) (show kd 22 = (0, 0, 0) from rfl) (by decide)) (sh_0 rfl _ _) rfl (gq_stageOf (x := z3) (by omega)  hI) gv_X11_196 hv_X0_stageOf ⟨(Nat.le_of_ble_eq_true rfl), (Nat.le_of_ble_eq_true rfl)⟩ hl.1 rfl (Nat.le_of_ble_eq_true rfl) ⟨Nat.zero_le _, Nat.zero_le _⟩ dX11_source_31 (fun r4 N5 H locs hp w => ?_)
      obtain ⟨z6, rfl, br4, hIN5, hFN5⟩ := hp
      have hGN5 := Fr.tr hF hFN5 (S := (fun b9 k9 => (b9 = 22 ∧ k9 = 7) ∨ (b9 = 23 ∧ k9 = 0) ∨ b9 = 135 ∨ b9 = 136 ∨ b9 = 137 ∨ b9 = 138 ∨ b9 = 139 ∨ b9 = 140 ∨ b9 = 26 ∨ b9 = 27 ∨ (44 ≤ b9 ∧ b9 ≤ 70))) (fun b k h => by (try dsimp only at h ⊢); (repeat' (refine Or.elim h ?_ ?_ <;> clear h <;> intro h)); all_goals first | (obtain ⟨rfl, rfl⟩ := h; decide) | (subst h; decide) | omega)
      have kn7 : N5.1 22 2 = zI z3 := (hFN5 22 2 (by first | omega | (dsimp only; omega))).trans (ez3)
      refine lv_iload_n hx hb dX11_source_34 rfl (lv_at hl 1 rfl) ?_
      refine k_Vv F w (As := [.ref (B + 22), .ref (B + r4), .int (zI x)]) (rest := []) (a := 135) (kd_lt (a := 135) (show kd 135 = (6, 0, 0) from rfl) (by decide)) (sh_6 rfl _ _) rfl (q_X6_bring (a := r4) br4.1 (x := x) (by omega)  (hIN5).1) gv_X11_285 hv_X6_bring ⟨(Nat.le_of_ble_eq_true rfl), (Nat.le_of_ble_eq_true rfl)⟩ hl.1 rfl (Nat.le_of_ble_eq_true rfl) ⟨Nat.zero_le _, Nat.zero_le _⟩ dX11_source_35 (fun N9 H locs hp w => ?_)
      obtain ⟨hIN9, hFN9⟩ := hp
      have hGN9 := Fr.tr hGN5 hFN9 (S := (fun b9 k9 => (b9 = 22 ∧ k9 = 7) ∨ (b9 = 23 ∧ k9 = 0) ∨ b9 = 135 ∨ b9 = 136 ∨ b9 = 137 ∨ b9 = 138 ∨ b9 = 139 ∨ b9 = 140 ∨ b9 = 26 ∨ b9 = 27 ∨ (44 ≤ b9 ∧ b9 ≤ 70))) (fun b k h => by (try dsimp only at h ⊢); (repeat' (refine Or.elim h ?_ ?_ <;> clear h <;> intro h)); all_goals first | (obtain ⟨rfl, rfl⟩ := h; decide) | (subst h; decide) | omega)
      have kn11 : N9.1 22 2 = zI z3 := (hFN9 22 2 (by first | omega | (dsimp only; omega))).trans (kn7)
      have hJN9 := IvG.call hIN5 hIN9 hFN9 (fun b9 k9 h9 => by (try dsimp only at h9); omega)
      refine lv_aload_n hx hb dX11_source_38 rfl (lv_at hl 0 rfl) ?_
      refine f_11_7 F w (a := 0) rfl tb_277 dX11_source_39 ?_
      refine f_6_2 F w (a := 135) rfl tb_392 dX11_source_42 ?_
      refine lv_iload_n hx hb dX11_source_45 rfl (lv_at hl 1 rfl) ?_
      refine g_iald F w (a := 137) rfl (j := (Int.toNat x)) (ix_z (by omega) (by omega)) (by omega) dX11_source_46 ?_
      obtain ⟨z12, bz12, ez12⟩ := IvG.ld (k := (Int.toNat x)) hJN9 (show iv 137 (Int.toNat x) = ((-2147483648), 2147483647) from rfl) (show 137 < 146 by decide)
      refine r_val ez12 ?_
      rw [hQ]
      exact e_i F w hr hlocks ⟨_, rfl, (by omega), hJN9, hGN9⟩ dX11_source_47
    · refine lv_iconst (v := zI (-1)) hx hb dX11_source_10 rfl ?_
      rw [hQ]
      exact e_i F w hr hlocks ⟨_, rfl, (by omega), hI, hF⟩ dX11_source_11
set_option maxRecDepth 4000 in
theorem gq_X11_count {l : Launch} {D : va_G} {B : Nat} {cy : Nat → ClassId} {M : Mem} {Pg : Nat → Nat → Int} {mg kg : Nat} {xg : Fw} {Hg : Nat → Fw} {x : Int} (hx : (-2147483648) ≤ x ∧ x ≤ 2147483647) (hI : IvG Pg mg xg Hg kg M) : Ci l D B cy yX11_count cX11_count 2 (some .int) 6 155 [.ref (B + 0), .int (zI x)] M (fun r M1 => ∃ z : Int, r = zI z ∧ ((-1) ≤ z ∧ z ≤ 4095) ∧ IvG Pg mg xg Hg kg M1 ∧ Fr (fun b9 k9 => (b9 = 22 ∧ k9 = 7) ∨ (b9 = 23 ∧ k9 = 0) ∨ b9 = 26 ∨ b9 = 27 ∨ (44 ≤ b9 ∧ b9 ≤ 70)) M1 M) := by
  refine s_anyQ (by decide) (Nat.le_of_ble_eq_true rfl) ?_
  intro p e s m args below meth c ls Q F hr hlocks hQ w hl
  have F : CallFix p m c cX11_count 2 s args TB RX11 := F
  have hx := F.1
  have hb := F.2.1
  have hl : lv_has ls 2 [(0, .ref (B + 0)), (1, .int (zI x))] := hl
  have hF : Fr (fun b9 k9 => (b9 = 22 ∧ k9 = 7) ∨ (b9 = 23 ∧ k9 = 0) ∨ b9 = 26 ∨ b9 = 27 ∨ (44 ≤ b9 ∧ b9 ≤ 70)) M M := Fr.rf
  refine lv_iload_n hx hb dX11_count_0 rfl (lv_at hl 1 rfl) ?_
  rcases (show x = 0 ∨ x = 1 ∨ x = 2 ∨ x = 3 ∨ (x ≠ 0 ∧ x ≠ 1 ∧ x ≠ 2 ∧ x ≠ 3) by omega) with c1 | c1 | c1 | c1 | c1
  · refine r_val (v := zI 0) (congrArg zI c1) ?_
    refine lv_tableIn (tgt := 32) hx hb dX11_count_1 (by decide) (by decide) (off := 31) rfl (by decide) ?_
    refine lv_aload_n hx hb dX11_count_32 rfl (lv_at hl 0 rfl) ?_
    refine f_11_3 F w (a := 0) rfl tb_273 dX11_count_33 ?_
    refine f_0_2 F w (a := 22) rfl tb_379 dX11_count_36 ?_
    obtain ⟨z2, bz2, ez2⟩ := IvG.ld (k := 2) hI (show iv 22 2 = (0, 8) from rfl) (show 22 < 146 by decide)
    refine r_val ez2 ?_
    rw [hQ]
    exact e_i F w hr hlocks ⟨_, rfl, (by omega), hI, hF⟩ dX11_count_39
  · refine r_val (v := zI 1) (congrArg zI c1) ?_
    refine lv_tableIn (tgt := 40) hx hb dX11_count_1 (by decide) (by decide) (off := 39) rfl (by decide) ?_
    refine lv_aload_n hx hb dX11_count_40 rfl (lv_at hl 0 rfl) ?_
    refine f_11_5 F w (a := 0) rfl tb_279 dX11_count_41 ?_
    refine f_2_2 F w (a := 71) rfl tb_338 dX11_count_44 ?_
    obtain ⟨z3, bz3, ez3⟩ := IvG.ld (k := 2) hI (show iv 71 2 = (0, 12) from rfl) (show 71 < 146 by decide)
    refine r_val ez3 ?_
    rw [hQ]
    exact e_i F w hr hlocks ⟨_, rfl, (by omega), hI, hF⟩ dX11_count_47
  · refine r_val (v := zI 2) (congrArg zI c1) ?_
    refine lv_tableIn (tgt := 48) hx hb dX11_count_1 (by decide) (by decide) (off := 47) rfl (by decide) ?_
    refine lv_aload_n hx hb dX11_count_48 rfl (lv_at hl 0 rfl) ?_
    refine f_11_0 F w (a := 0) rfl tb_292 dX11_count_49 ?_
    refine f_8_1 F w (a := 1) rfl tb_293 dX11_count_52 ?_
    obtain ⟨z4, bz4, ez4⟩ := IvG.ld (k := 1) hI (show iv 1 1 = (0, 300) from rfl) (show 1 < 146 by decide)
    refine r_val ez4 ?_
    rw [hQ]
    exact e_i F w hr hlocks ⟨_, rfl, (by omega), hI, hF⟩ dX11_count_55
  · refine r_val (v := zI 3) (congrArg zI c1) ?_
    refine lv_tableIn (tgt := 56) hx hb dX11_count_1 (by decide) (by decide) (off := 55) rfl (by decide) ?_
    refine lv_aload_n hx hb dX11_count_56 rfl (lv_at hl 0 rfl) ?_
    refine f_11_3 F w (a := 0) rfl tb_273 dX11_count_57 ?_
    refine lv_aload_n hx hb dX11_count_60 rfl (lv_at hl 0 rfl) ?_
    refine f_11_3 F w (a := 0) rfl tb_273 dX11_count_61 ?_
    refine f_0_2 F w (a := 22) rfl tb_379 dX11_count_64 ?_
    obtain ⟨z5, bz5, ez5⟩ := IvG.ld (k := 2) hI (show iv 22 2 = (0, 8) from rfl) (show 22 < 146 by decide)
    refine r_val ez5 ?_
    refine k_Vr F w (As := [.int (zI z5)]) (rest := []) (a := 22) (kd_lt (a := 22) (show kd 22 = (0, 0, 0) from rfl) (by decide)) (sh_0 rfl _ _) rfl (gq_stageOf (x := z5) (by omega)  hI) gv_X11_196 hv_X0_stageOf ⟨(Nat.le_of_ble_eq_true rfl), (Nat.le_of_ble_eq_true rfl)⟩ hl.1 rfl (Nat.le_of_ble_eq_true rfl) ⟨Nat.zero_le _, Nat.zero_le _⟩ dX11_count_67 (fun r6 N7 H locs hp w => ?_)
    obtain ⟨z8, rfl, br6, hIN7, hFN7⟩ := hp
    have hGN7 := Fr.tr hF hFN7 (S := (fun b9 k9 => (b9 = 22 ∧ k9 = 7) ∨ (b9 = 23 ∧ k9 = 0) ∨ b9 = 26 ∨ b9 = 27 ∨ (44 ≤ b9 ∧ b9 ≤ 70))) (fun b k h => by (try dsimp only at h ⊢); (repeat' (refine Or.elim h ?_ ?_ <;> clear h <;> intro h)); all_goals first | (obtain ⟨rfl, rfl⟩ := h; decide) | (subst h; decide) | omega)
    have kn9 : N7.1 22 2 = zI z5 := (hFN7 22 2 (by first | omega | (dsimp only; omega))).trans (ez5)
    refine lv_pop hx hb dX11_count_70 rfl ?_
    refine lv_aload_n hx hb dX11_count_71 rfl (lv_at hl 0 rfl) ?_
    refine f_11_3 F w (a := 0) rfl tb_273 dX11_count_72 ?_
    refine k_Vi F w (As := []) (rest := []) (a := 22) (kd_lt (a := 22) (show kd 22 = (0, 0, 0) from rfl) (by decide)) (sh_0 rfl _ _) rfl (q_X0_idleRules   (hIN7).1) gv_X11_295 hv_X0_idleRules ⟨(Nat.le_of_ble_eq_true rfl), (Nat.le_of_ble_eq_true rfl)⟩ hl.1 rfl (Nat.le_of_ble_eq_true rfl) ⟨Nat.zero_le _, Nat.zero_le _⟩ dX11_count_75 (fun r10 N11 H locs hp w => ?_)
    obtain ⟨z12, rfl, bz12, hMN11⟩ := hp
    rw [hMN11] at w
    rw [hQ]
    exact e_i F w hr hlocks ⟨_, rfl, (by omega), hIN7, hGN7⟩ dX11_count_78
  · refine lv_tableOut (tgt := 79) hx hb dX11_count_1 (by rw [zI_toInt (by omega)]; omega) (by decide) ?_
    refine lv_iconst (v := zI (-1)) hx hb dX11_count_79 rfl ?_
    rw [hQ]
    exact e_i F w hr hlocks ⟨_, rfl, (by omega), hI, hF⟩ dX11_count_80
