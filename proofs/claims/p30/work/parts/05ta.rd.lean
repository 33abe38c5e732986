theorem tk_w0 {T : Nat → Nat} {N b lo hi : Nat} (hb : b ≤ N) (h : tk T N b lo hi = 0) (hh : hi < 29 := by decide) : tok T N b = 1 := by
  rcases tk_y (T := T) (lo := lo) hb hh with h1 | h1
  · exact h1.1
  · omega
/-- whether the test wants a kind: as the row says it -/
theorem rdT5 {M : Mem} {T : Nat → Nat} {N : Nat} {y : Nat × Nat × (Nat → Int)} {v : Int} (h : YS (st M 153 5 (zI v)) T N y) (hv : 0 ≤ v ∧ v < 5) (hr : y.1 = 1 → -2 ≤ y.2.2 5 ∧ y.2.2 5 ≤ 29) : y.1 = 0 ∨ y.2.2 5 < 5 := by
  rcases h.1.1 with h0 | h0
  · exact Or.inl h0
  · have h1 := h.2.2.2.2.2 h0 5 (by decide)
    have h2 : zI v = zI (y.2.2 5) := st_at.symm.trans h1
    have h3 := hr h0
    have h4 := (zI_eq (by constructor <;> omega) (by constructor <;> omega)).mp h2
    exact Or.inr (by omega)
theorem rdT_of {M : Mem} {T : Nat → Nat} {N : Nat} {x : Nat × Nat × (Nat → Int)} {v : Int} (h : YS (st M 153 5 (zI v)) T N (rdC T N 22 28 5 (rdO T N 21 6 x))) (hv : 5 ≤ v ∧ v ≤ 29) : rdT T N x = rdC T N 11 14 7 (rdC T N 22 28 5 (rdO T N 21 6 x)) := by
  rcases h.1.1 with h0 | h0
  · rw [rdC_0 (k := 7) h0]
    exact rdT_n (Or.inl h0)
  · have h1 := h.2.2.2.2.2 h0 5 (by decide)
    have h2 : zI v = zI ((rdC T N 22 28 5 (rdO T N 21 6 x)).2.2 5) := st_at.symm.trans h1
    have h3 := rdC_v h0
    have h4 := (zI_eq (by constructor <;> omega) (by constructor <;> omega)).mp h2
    exact rdT_y h0 (by omega)
theorem rdX12_readsTest_0 : decode cX12_readsTest 0 = .ok (.aload_n 0, 1) := dq0 kk_42 (by decide +kernel)
theorem rdX12_readsTest_1 : decode cX12_readsTest 1 = .ok (.invokevirtual 221, 3) := dqV kk_182 (by decide +kernel)
theorem rdX12_readsTest_4 : decode cX12_readsTest 4 = .ok (.aload_n 0, 1) := dq0 kk_42 (by decide +kernel)
theorem rdX12_readsTest_5 : decode cX12_readsTest 5 = .ok (.bipush 21, 2) := dqS kk_16 (by decide +kernel)
theorem rdX12_readsTest_7 : decode cX12_readsTest 7 = .ok (.invokevirtual 224, 3) := dqV kk_182 (by decide +kernel)
theorem rtk_X12_isWord : Cond.code yX12_isWord cX12_isWord 2 (some .boolean) ∈ TB := tbm (tc5 (List.mem_of_getElem? (i := 217) rfl)) rfl
theorem rgc_X12_isWord : GoodIn TB (cw yX12_isWord cX12_isWord 2 (some .boolean)) := goodIn_c2 rtk_X12_isWord
theorem rtb_143 : Cond.methodLink "ToneLinesModel" 224 yX12_isWord ∈ TB := tbm (tc5 (List.mem_of_getElem? (i := 214) rfl)) rfl
theorem rtb_144 : Cond.instanceMethod yX12_isWord ∈ TB := tbm (tc5 (List.mem_of_getElem? (i := 216) rfl)) rfl
theorem rtb_145 : Cond.selects "ToneLinesModel" yX12_isWord yX12_isWord ∈ TB := tbp (List.mem_of_getElem? (i := 46) rfl) rfl
theorem rgv_X12_224 : GoodIn TB (wsV RX12 224 RX12 yX12_isWord (cw yX12_isWord cX12_isWord 2 (some .boolean))) := goodIn_4 rtb_143 rtb_144 rtb_145 rtb_119 rgc_X12_isWord
theorem rhv_X12_isWord : yX12_isWord.cls = RX12 ∧ yX12_isWord.cls ≠ "java/lang/invoke/MethodHandle" ∧ yX12_isWord.cls ≠ "java/lang/invoke/VarHandle" ∧ (parseMethodDescriptor yX12_isWord.desc).map (fun d => d.parameters.length) = some 1 := by decide +kernel
theorem rdX12_readsTest_10 : decode cX12_readsTest 10 = .ok (.ifCond .eq 15, 3) := dqT kk_153 (by decide +kernel)
theorem rdX12_readsTest_13 : decode cX12_readsTest 13 = .ok (.aload_n 0, 1) := dq0 kk_42 (by decide +kernel)
theorem rdX12_readsTest_14 : decode cX12_readsTest 14 = .ok (.getfield 33, 3) := dqV kk_180 (by decide +kernel)
theorem rtb_146 : Cond.fieldLink "ToneLinesModel" 33 "ToneLinesModel" "own" "[I" ∈ TB := tbm (tc5 (List.mem_of_getElem? (i := 73) rfl)) rfl
theorem rdX12_readsTest_17 : decode cX12_readsTest 17 = .ok (.bipush 6, 2) := dqS kk_16 (by decide +kernel)
theorem rdX12_readsTest_19 : decode cX12_readsTest 19 = .ok (.iconst 1, 1) := dq0 kk_4 (by decide +kernel)
theorem rdX12_readsTest_20 : decode cX12_readsTest 20 = .ok (.iastore, 1) := dq0 kk_79 (by decide +kernel)
theorem rdX12_readsTest_21 : decode cX12_readsTest 21 = .ok (.aload_n 0, 1) := dq0 kk_42 (by decide +kernel)
theorem rdX12_readsTest_22 : decode cX12_readsTest 22 = .ok (.invokevirtual 221, 3) := dqV kk_182 (by decide +kernel)
theorem rdX12_readsTest_25 : decode cX12_readsTest 25 = .ok (.aload_n 0, 1) := dq0 kk_42 (by decide +kernel)
theorem rdX12_readsTest_26 : decode cX12_readsTest 26 = .ok (.getfield 33, 3) := dqV kk_180 (by decide +kernel)
theorem rdX12_readsTest_29 : decode cX12_readsTest 29 = .ok (.iconst 5, 1) := dq0 kk_8 (by decide +kernel)
theorem rdX12_readsTest_30 : decode cX12_readsTest 30 = .ok (.aload_n 0, 1) := dq0 kk_42 (by decide +kernel)
theorem rdX12_readsTest_31 : decode cX12_readsTest 31 = .ok (.bipush 22, 2) := dqS kk_16 (by decide +kernel)
theorem rdX12_readsTest_33 : decode cX12_readsTest 33 = .ok (.bipush 28, 2) := dqS kk_16 (by decide +kernel)
theorem rdX12_readsTest_35 : decode cX12_readsTest 35 = .ok (.invokevirtual 227, 3) := dqV kk_182 (by decide +kernel)
theorem rtk_X12_needs : Cond.code yX12_needs cX12_needs 4 (some .int) ∈ TB := tbm (tc5 (List.mem_of_getElem? (i := 221) rfl)) rfl
theorem rgc_X12_needs : GoodIn TB (cw yX12_needs cX12_needs 4 (some .int)) := goodIn_c2 rtk_X12_needs
theorem rtb_147 : Cond.methodLink "ToneLinesModel" 227 yX12_needs ∈ TB := tbm (tc5 (List.mem_of_getElem? (i := 218) rfl)) rfl
theorem rtb_148 : Cond.instanceMethod yX12_needs ∈ TB := tbm (tc5 (List.mem_of_getElem? (i := 220) rfl)) rfl
theorem rtb_149 : Cond.selects "ToneLinesModel" yX12_needs yX12_needs ∈ TB := tbp (List.mem_of_getElem? (i := 47) rfl) rfl
theorem rgv_X12_227 : GoodIn TB (wsV RX12 227 RX12 yX12_needs (cw yX12_needs cX12_needs 4 (some .int))) := goodIn_4 rtb_147 rtb_148 rtb_149 rtb_119 rgc_X12_needs
theorem rhv_X12_needs : yX12_needs.cls = RX12 ∧ yX12_needs.cls ≠ "java/lang/invoke/MethodHandle" ∧ yX12_needs.cls ≠ "java/lang/invoke/VarHandle" ∧ (parseMethodDescriptor yX12_needs.desc).map (fun d => d.parameters.length) = some 2 := by decide +kernel
theorem rdX12_readsTest_38 : decode cX12_readsTest 38 = .ok (.iastore, 1) := dq0 kk_79 (by decide +kernel)
theorem rdX12_readsTest_39 : decode cX12_readsTest 39 = .ok (.aload_n 0, 1) := dq0 kk_42 (by decide +kernel)
theorem rdX12_readsTest_40 : decode cX12_readsTest 40 = .ok (.getfield 33, 3) := dqV kk_180 (by decide +kernel)
theorem rdX12_readsTest_43 : decode cX12_readsTest 43 = .ok (.iconst 5, 1) := dq0 kk_8 (by decide +kernel)
theorem rdX12_readsTest_44 : decode cX12_readsTest 44 = .ok (.iaload, 1) := dq0 kk_46 (by decide +kernel)
theorem rdX12_readsTest_45 : decode cX12_readsTest 45 = .ok (.iconst 5, 1) := dq0 kk_8 (by decide +kernel)
theorem rdX12_readsTest_46 : decode cX12_readsTest 46 = .ok (.if_icmp .lt 18, 3) := dqT kk_161 (by decide +kernel)
theorem rdX12_readsTest_64 : decode cX12_readsTest 64 = .ok (.return_, 1) := dq0 kk_177 (by decide +kernel)
theorem rdX12_readsTest_49 : decode cX12_readsTest 49 = .ok (.aload_n 0, 1) := dq0 kk_42 (by decide +kernel)
theorem rdX12_readsTest_50 : decode cX12_readsTest 50 = .ok (.getfield 33, 3) := dqV kk_180 (by decide +kernel)
theorem rdX12_readsTest_53 : decode cX12_readsTest 53 = .ok (.bipush 7, 2) := dqS kk_16 (by decide +kernel)
theorem rdX12_readsTest_55 : decode cX12_readsTest 55 = .ok (.aload_n 0, 1) := dq0 kk_42 (by decide +kernel)
theorem rdX12_readsTest_56 : decode cX12_readsTest 56 = .ok (.bipush 11, 2) := dqS kk_16 (by decide +kernel)
theorem rdX12_readsTest_58 : decode cX12_readsTest 58 = .ok (.bipush 14, 2) := dqS kk_16 (by decide +kernel)
theorem rdX12_readsTest_60 : decode cX12_readsTest 60 = .ok (.invokevirtual 227, 3) := dqV kk_182 (by decide +kernel)
theorem rdX12_readsTest_63 : decode cX12_readsTest 63 = .ok (.iastore, 1) := dq0 kk_79 (by decide +kernel)
set_option maxRecDepth 4000 in
theorem t_readsTest {l : Launch} {D : va_G} {B : Nat} {cy : Nat → ClassId} {M : Mem} {T : Nat → Nat} {tn : Nat} (hT : okT T tn) {x : Nat × Nat × (Nat → Int)} (hY : YS M T tn x) (hx1 : x.1 = 1) (htk : tok T tn x.2.1 = 1 ∨ tok T tn x.2.1 = 2 ∨ tok T tn x.2.1 = 3) : Cv l D B cy yX12_readsTest cX12_readsTest 1 4 89 [.ref (B + 146)] M (fun M1 => YS M1 T tn (rdT T tn (1, en T tn x.2.1, x.2.2)) ∧ FrY M1 M) := by
  refine s_any (by decide) (Nat.le_of_ble_eq_true rfl) ?_
  intro p e s m below meth c ls F hr hlocks w hl
  have F : CallFix p m c cX12_readsTest 1 s _ TB RX12 := F
  have hx := F.1
  have hb := F.2.1
  have hl : lv_has ls 1 [(0, .ref (B + 146))] := hl
  have hN := hT.1
  refine lv_aload_n hx hb rdX12_readsTest_0 rfl (lv_at hl 0 rfl) ?_
  refine k_Vv F w (As := []) (rest := []) (a := 146) (kd_lt (a := 146) (show kd 146 = (12, 0, 0) from rfl) (by decide)) (sh_12 rfl _ _) rfl (t_goesOn hT hY.2.1 hY.2.2.1 (E := en T tn x.2.1) (wa := tok T tn x.2.1) (en_le hY.2.2.2.1.1).2.1 hY.2.2.2.1.2.2.1 hY.2.2.2.1.2.2.2.1 (tok_le T tn _) (tok_w hY.2.2.2.1.1 (htk))) rgv_X12_221 rhv_X12_goesOn ⟨(Nat.le_of_ble_eq_true rfl), (Nat.le_of_ble_eq_true rfl)⟩ hl.1 rfl (Nat.le_of_ble_eq_true rfl) ⟨Nat.zero_le _, Nat.zero_le _⟩ rdX12_readsTest_1 (fun Ma2 H locs hp w => ?_)
  rcases hp with ⟨hRn1, hGn1⟩
  have hYn1 := YS.go hY hx1 hRn1 hGn1
  have hFn1 : FrY Ma2 M := FrY.tr FrY.rf (FrY.w (FrW.g hGn1))
  refine lv_aload_n hx hb rdX12_readsTest_4 rfl (lv_at hl 0 rfl) ?_
  refine lv_bipush (v := zI 21) hx hb rdX12_readsTest_5 (by decide) ?_
  refine k_Vi F w (As := [.int (zI 21)]) (rest := []) (a := 146) (kd_lt (a := 146) (show kd 146 = (12, 0, 0) from rfl) (by decide)) (sh_12 rfl _ _) rfl (t_isWord hT (x := (1, en T tn x.2.1, x.2.2)) hYn1 (lo := 21) (by decide)) rgv_X12_224 rhv_X12_isWord ⟨(Nat.le_of_ble_eq_true rfl), (Nat.le_of_ble_eq_true rfl)⟩ hl.1 rfl (Nat.le_of_ble_eq_true rfl) ⟨Nat.zero_le _, Nat.zero_le _⟩ rdX12_readsTest_7 (fun r Ma4 H locs hp w => ?_)
  rcases hp with ⟨⟨hb3, rfl⟩ | ⟨hb3, rfl⟩, hMe⟩
  · rw [hMe] at w
    refine z_if_eq (tgt := 25) hx hb (by omega) rdX12_readsTest_10 (by decide) (fun c5 => False.elim (by omega)) (fun c5 => ?_)
    refine lv_aload_n hx hb rdX12_readsTest_13 rfl (lv_at hl 0 rfl) ?_
    refine f_12_17 F w (a := 146) rfl rtb_146 rdX12_readsTest_14 ?_
    refine lv_bipush (v := zI 6) hx hb rdX12_readsTest_17 (by decide) ?_
    refine lv_iconst (v := zI 1) hx hb rdX12_readsTest_19 rfl ?_
    refine g_iast F w (a := 153) rfl (j := 6) ⟨by decide, by decide⟩ (by omega) rdX12_readsTest_20 (fun H locs w => ?_)
    have Yq6 : YS (st Ma2 153 6 (zI 1)) T tn (1, (en T tn x.2.1), updI x.2.2 6 1) := YS.p hYn1
    have Fq6 : FrY (st Ma2 153 6 (zI 1)) M := FrY.o hFn1
    refine lv_aload_n hx hb rdX12_readsTest_21 rfl (lv_at hl 0 rfl) ?_
    refine k_Vv F w (As := []) (rest := []) (a := 146) (kd_lt (a := 146) (show kd 146 = (12, 0, 0) from rfl) (by decide)) (sh_12 rfl _ _) rfl (t_goesOn hT Yq6.2.1 Yq6.2.2.1 (E := en T tn (en T tn x.2.1)) (wa := tok T tn (en T tn x.2.1)) (en_le Yq6.2.2.2.1.1).2.1 Yq6.2.2.2.1.2.2.1 Yq6.2.2.2.1.2.2.2.1 (tok_le T tn _) (tok_w Yq6.2.2.2.1.1 (Or.inl (tk_w0 (T := T) (N := tn) Yq6.2.2.2.1.1 hb3)))) rgv_X12_221 rhv_X12_goesOn ⟨(Nat.le_of_ble_eq_true rfl), (Nat.le_of_ble_eq_true rfl)⟩ hl.1 rfl (Nat.le_of_ble_eq_true rfl) ⟨Nat.zero_le _, Nat.zero_le _⟩ rdX12_readsTest_22 (fun Ma8 H locs hp w => ?_)
    rcases hp with ⟨hRn7, hGn7⟩
    have hYn7 := YS.go Yq6 rfl hRn7 hGn7
    have hFn7 : FrY Ma8 M := FrY.tr Fq6 (FrY.w (FrW.g hGn7))
    have eq9 : (rdO T tn 21 6 (1, en T tn x.2.1, x.2.2)) = (1, en T tn (en T tn x.2.1), (updI x.2.2 6 1)) := rdO_y rfl hb3
    have Yq9 : YS Ma8 T tn (rdO T tn 21 6 (1, en T tn x.2.1, x.2.2)) := YS.e hYn7 eq9
    refine lv_aload_n hx hb rdX12_readsTest_25 rfl (lv_at hl 0 rfl) ?_
    refine f_12_17 F w (a := 146) rfl rtb_146 rdX12_readsTest_26 ?_
    refine lv_iconst (v := zI 5) hx hb rdX12_readsTest_29 rfl ?_
    refine lv_aload_n hx hb rdX12_readsTest_30 rfl (lv_at hl 0 rfl) ?_
    refine lv_bipush (v := zI 22) hx hb rdX12_readsTest_31 (by decide) ?_
    refine lv_bipush (v := zI 28) hx hb rdX12_readsTest_33 (by decide) ?_
    refine k_Vi F w (As := [.int (zI 22), .int (zI 28)]) (rest := [.int (zI 5), .ref (B + 153)]) (a := 146) (kd_lt (a := 146) (show kd 146 = (12, 0, 0) from rfl) (by decide)) (sh_12 rfl _ _) rfl (t_needs hT (x := (rdO T tn 21 6 (1, en T tn x.2.1, x.2.2))) Yq9 (lo := 22) (hi := 28) (by decide) (by decide)) rgv_X12_227 rhv_X12_needs ⟨(Nat.le_of_ble_eq_true rfl), (Nat.le_of_ble_eq_true rfl)⟩ hl.1 rfl (Nat.le_of_ble_eq_true rfl) ⟨Nat.zero_le _, Nat.zero_le _⟩ rdX12_readsTest_35 (fun r Ma11 H locs hp w => ?_)
    rcases hp with ⟨vn10, rfl, hFn10, -, hBn10, -, hSn10, hWn10⟩
    have hFn10 : FrY Ma11 M := FrY.tr hFn7 (FrY.w hFn10)
    refine g_iast F w (a := 153) rfl (j := 5) ⟨by decide, by decide⟩ (by omega) rdX12_readsTest_38 (fun H locs w => ?_)
    have Yq12 : YS (st Ma11 153 5 (zI vn10)) T tn (rdC T tn 22 28 5 (rdO T tn 21 6 (1, en T tn x.2.1, x.2.2))) := hSn10 5
    have Fq12 : FrY (st Ma11 153 5 (zI vn10)) M := FrY.o hFn10
    refine lv_aload_n hx hb rdX12_readsTest_39 rfl (lv_at hl 0 rfl) ?_
    refine f_12_17 F w (a := 146) rfl rtb_146 rdX12_readsTest_40 ?_
    refine lv_iconst (v := zI 5) hx hb rdX12_readsTest_43 rfl ?_
    refine g_iald F w (a := 153) rfl (j := 5) ⟨by decide, by decide⟩ (by omega) rdX12_readsTest_44 ?_
    refine r_val (v := (zI vn10)) (st_at) ?_
    refine lv_iconst (v := zI 5) hx hb rdX12_readsTest_45 rfl ?_
    refine z_icmp_lt (tgt := 64) hx hb (by omega) (by omega) rdX12_readsTest_46 (by decide) (fun c13 => ?_) (fun c13 => ?_)
    · exact e_v F w hr hlocks ⟨YS.e Yq12 (rdT_n (rdT5 Yq12 (by omega) (fun g9 => by have h9 := rdC_v g9; omega))), Fq12⟩ rdX12_readsTest_64
    · refine lv_aload_n hx hb rdX12_readsTest_49 rfl (lv_at hl 0 rfl) ?_
      refine f_12_17 F w (a := 146) rfl rtb_146 rdX12_readsTest_50 ?_
      refine lv_bipush (v := zI 7) hx hb rdX12_readsTest_53 (by decide) ?_
      refine lv_aload_n hx hb rdX12_readsTest_55 rfl (lv_at hl 0 rfl) ?_
      refine lv_bipush (v := zI 11) hx hb rdX12_readsTest_56 (by decide) ?_
      refine lv_bipush (v := zI 14) hx hb rdX12_readsTest_58 (by decide) ?_
      refine k_Vi F w (As := [.int (zI 11), .int (zI 14)]) (rest := [.int (zI 7), .ref (B + 153)]) (a := 146) (kd_lt (a := 146) (show kd 146 = (12, 0, 0) from rfl) (by decide)) (sh_12 rfl _ _) rfl (t_needs hT (x := (rdC T tn 22 28 5 (rdO T tn 21 6 (1, en T tn x.2.1, x.2.2)))) Yq12 (lo := 11) (hi := 14) (by decide) (by decide)) rgv_X12_227 rhv_X12_needs ⟨(Nat.le_of_ble_eq_true rfl), (Nat.le_of_ble_eq_true rfl)⟩ hl.1 rfl (Nat.le_of_ble_eq_true rfl) ⟨Nat.zero_le _, Nat.zero_le _⟩ rdX12_readsTest_60 (fun r Ma15 H locs hp w => ?_)
      rcases hp with ⟨vn14, rfl, hFn14, -, hBn14, -, hSn14, hWn14⟩
      have hFn14 : FrY Ma15 M := FrY.tr Fq12 (FrY.w hFn14)
      refine g_iast F w (a := 153) rfl (j := 7) ⟨by decide, by decide⟩ (by omega) rdX12_readsTest_63 (fun H locs w => ?_)
      have Yq16 : YS (st Ma15 153 7 (zI vn14)) T tn (rdC T tn 11 14 7 (rdC T tn 22 28 5 (rdO T tn 21 6 (1, en T tn x.2.1, x.2.2)))) := hSn14 7
      have Fq16 : FrY (st Ma15 153 7 (zI vn14)) M := FrY.o hFn14
      exact e_v F w hr hlocks ⟨YS.e Yq16 (rdT_of Yq12 (by omega)), Fq16⟩ rdX12_readsTest_64
  · rw [hMe] at w
    refine z_if_eq (tgt := 25) hx hb (by omega) rdX12_readsTest_10 (by decide) (fun c17 => ?_) (fun c17 => False.elim (by omega))
    have eq18 : (rdO T tn 21 6 (1, en T tn x.2.1, x.2.2)) = (1, en T tn x.2.1, x.2.2) := rdO_n hb3
    have Yq18 : YS Ma2 T tn (rdO T tn 21 6 (1, en T tn x.2.1, x.2.2)) := YS.e hYn1 eq18
    refine lv_aload_n hx hb rdX12_readsTest_25 rfl (lv_at hl 0 rfl) ?_
    refine f_12_17 F w (a := 146) rfl rtb_146 rdX12_readsTest_26 ?_
    refine lv_iconst (v := zI 5) hx hb rdX12_readsTest_29 rfl ?_
    refine lv_aload_n hx hb rdX12_readsTest_30 rfl (lv_at hl 0 rfl) ?_
    refine lv_bipush (v := zI 22) hx hb rdX12_readsTest_31 (by decide) ?_
    refine lv_bipush (v := zI 28) hx hb rdX12_readsTest_33 (by decide) ?_
    refine k_Vi F w (As := [.int (zI 22), .int (zI 28)]) (rest := [.int (zI 5), .ref (B + 153)]) (a := 146) (kd_lt (a := 146) (show kd 146 = (12, 0, 0) from rfl) (by decide)) (sh_12 rfl _ _) rfl (t_needs hT (x := (rdO T tn 21 6 (1, en T tn x.2.1, x.2.2))) Yq18 (lo := 22) (hi := 28) (by decide) (by decide)) rgv_X12_227 rhv_X12_needs ⟨(Nat.le_of_ble_eq_true rfl), (Nat.le_of_ble_eq_true rfl)⟩ hl.1 rfl (Nat.le_of_ble_eq_true rfl) ⟨Nat.zero_le _, Nat.zero_le _⟩ rdX12_readsTest_35 (fun r Ma20 H locs hp w => ?_)
    rcases hp with ⟨vn19, rfl, hFn19, -, hBn19, -, hSn19, hWn19⟩
    have hFn19 : FrY Ma20 M := FrY.tr hFn1 (FrY.w hFn19)
    refine g_iast F w (a := 153) rfl (j := 5) ⟨by decide, by decide⟩ (by omega) rdX12_readsTest_38 (fun H locs w => ?_)
    have Yq21 : YS (st Ma20 153 5 (zI vn19)) T tn (rdC T tn 22 28 5 (rdO T tn 21 6 (1, en T tn x.2.1, x.2.2))) := hSn19 5
    have Fq21 : FrY (st Ma20 153 5 (zI vn19)) M := FrY.o hFn19
    refine lv_aload_n hx hb rdX12_readsTest_39 rfl (lv_at hl 0 rfl) ?_
    refine f_12_17 F w (a := 146) rfl rtb_146 rdX12_readsTest_40 ?_
    refine lv_iconst (v := zI 5) hx hb rdX12_readsTest_43 rfl ?_
    refine g_iald F w (a := 153) rfl (j := 5) ⟨by decide, by decide⟩ (by omega) rdX12_readsTest_44 ?_
    refine r_val (v := (zI vn19)) (st_at) ?_
    refine lv_iconst (v := zI 5) hx hb rdX12_readsTest_45 rfl ?_
    refine z_icmp_lt (tgt := 64) hx hb (by omega) (by omega) rdX12_readsTest_46 (by decide) (fun c22 => ?_) (fun c22 => ?_)
    · exact e_v F w hr hlocks ⟨YS.e Yq21 (rdT_n (rdT5 Yq21 (by omega) (fun g9 => by have h9 := rdC_v g9; omega))), Fq21⟩ rdX12_readsTest_64
    · refine lv_aload_n hx hb rdX12_readsTest_49 rfl (lv_at hl 0 rfl) ?_
      refine f_12_17 F w (a := 146) rfl rtb_146 rdX12_readsTest_50 ?_
      refine lv_bipush (v := zI 7) hx hb rdX12_readsTest_53 (by decide) ?_
      refine lv_aload_n hx hb rdX12_readsTest_55 rfl (lv_at hl 0 rfl) ?_
      refine lv_bipush (v := zI 11) hx hb rdX12_readsTest_56 (by decide) ?_
      refine lv_bipush (v := zI 14) hx hb rdX12_readsTest_58 (by decide) ?_
      refine k_Vi F w (As := [.int (zI 11), .int (zI 14)]) (rest := [.int (zI 7), .ref (B + 153)]) (a := 146) (kd_lt (a := 146) (show kd 146 = (12, 0, 0) from rfl) (by decide)) (sh_12 rfl _ _) rfl (t_needs hT (x := (rdC T tn 22 28 5 (rdO T tn 21 6 (1, en T tn x.2.1, x.2.2)))) Yq21 (lo := 11) (hi := 14) (by decide) (by decide)) rgv_X12_227 rhv_X12_needs ⟨(Nat.le_of_ble_eq_true rfl), (Nat.le_of_ble_eq_true rfl)⟩ hl.1 rfl (Nat.le_of_ble_eq_true rfl) ⟨Nat.zero_le _, Nat.zero_le _⟩ rdX12_readsTest_60 (fun r Ma24 H locs hp w => ?_)
      rcases hp with ⟨vn23, rfl, hFn23, -, hBn23, -, hSn23, hWn23⟩
      have hFn23 : FrY Ma24 M := FrY.tr Fq21 (FrY.w hFn23)
      refine g_iast F w (a := 153) rfl (j := 7) ⟨by decide, by decide⟩ (by omega) rdX12_readsTest_63 (fun H locs w => ?_)
      have Yq25 : YS (st Ma24 153 7 (zI vn23)) T tn (rdC T tn 11 14 7 (rdC T tn 22 28 5 (rdO T tn 21 6 (1, en T tn x.2.1, x.2.2)))) := hSn23 7
      have Fq25 : FrY (st Ma24 153 7 (zI vn23)) M := FrY.o hFn23
      exact e_v F w hr hlocks ⟨YS.e Yq25 (rdT_of Yq21 (by omega)), Fq25⟩ rdX12_readsTest_64
