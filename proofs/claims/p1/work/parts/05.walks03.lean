set_option maxRecDepth 8000 in
theorem la_13_39 {p : Program} {l : Launch} {e : Env} {s : State} {m : MethodId} {below : List Frame} {meth : Method} {c : Code} {D : va_G} {B b : Nat} {cy : Nat → ClassId} {H : Heap} {locs : List Loc} {ls : Array Slot} {xs : Nat → Int32} {Q : State → Prop} (F : CallFix p m c code 4 s #[Value.ref b] TB RL) (hX : va_X b 6 xs s s.heap) (hbl : b < s.heap.size) (hbA : ¬ B ≤ b) (w : Wd D B cy s s.heap M0 H locs) (hl : lv_has ls 4 [(3, .int 0), (2, .ref (B + 146)), (1, .ref (B + 0)), (0, .ref b)]) (h0 : ¬ (xs 1) < 0) (h1 : 0 < (xs 1)) (kk : ∀ (M1 : Mem) (H1 : Heap) (locs1 : List Loc), Wd D B cy s s.heap M1 H1 locs1 → W p l e room_1 s m #[Value.ref b] below meth c H1 locs1 159 13107 Q (F0 m 1065 ls [])) : W p l e room_1 s m #[Value.ref b] below meth c H locs 159 13107 Q (F0 m 607 ls []) := by
  have hx := F.1
  have hb := F.2.1
  refine lv_aload_n hx hb dL_law_607 rfl (lv_at hl 2 rfl) ?_
  refine lv_aload_n hx hb dL_law_608 rfl (lv_at hl 3 rfl) ?_
  refine lv_iload_n hx hb dL_law_609 rfl (lv_at hl 0 rfl) ?_
  refine lv_iconst (v := 1) hx hb dL_law_610 (by decide) ?_
  refine lv_iadd hx hb dL_law_611 ?_
  refine r_val (v := 1) (by decide) ?_
  refine va_sld hx hb hX hbl hbA w.2.2.1 (vpi (by decide) (by decide)) dL_law_612 ?_
  refine r_val (v := xs 1) (congrArg xs (show (1 : Int32).toNatClampNeg = 1 by decide)) ?_
  refine x_Vi F w (As := [.int (xs 1)]) (rest := []) (a := 0) (by decide) (sh_11 rfl _ _) rfl (c_X11_derive_216 h0 (rfl) h1) gv_L_74 hv_X11_derive ⟨Nat.le_of_ble_eq_true rfl, Nat.le_of_ble_eq_true rfl⟩ hl.1 rfl (Nat.le_of_ble_eq_true rfl) ⟨Nat.le_of_ble_eq_true rfl, Nat.le_of_ble_eq_true rfl⟩ dL_law_613 (fun H locs w => ?_)
  refine lv_aload_n hx hb dL_law_616 rfl (lv_at hl 1 rfl) ?_
  refine lv_aload_n hx hb dL_law_617 rfl (lv_at hl 3 rfl) ?_
  refine lv_iload_n hx hb dL_law_618 rfl (lv_at hl 0 rfl) ?_
  refine lv_iconst (v := 1) hx hb dL_law_619 (by decide) ?_
  refine lv_iadd hx hb dL_law_620 ?_
  refine r_val (v := 1) (by decide) ?_
  refine va_sld hx hb hX hbl hbA w.2.2.1 (vpi (by decide) (by decide)) dL_law_621 ?_
  refine r_val (v := xs 1) (congrArg xs (show (1 : Int32).toNatClampNeg = 1 by decide)) ?_
  refine x_Vi F w (As := [.int (xs 1)]) (rest := [.int (-1)]) (a := 146) (by decide) (sh_12 rfl _ _) rfl (c_X12_derive_217 (rfl) h0 h1) gv_L_77 hv_X12_derive ⟨Nat.le_of_ble_eq_true rfl, Nat.le_of_ble_eq_true rfl⟩ hl.1 rfl (Nat.le_of_ble_eq_true rfl) ⟨Nat.le_of_ble_eq_true rfl, Nat.le_of_ble_eq_true rfl⟩ dL_law_622 (fun H locs w => ?_)
  refine lv_icmp_eq (tgt := 1065) hx hb dL_law_625 (by decide) (fun _ => ?_) (fun c1 => absurd c1 (by decide))
  exact kk _ _ _ w
set_option maxRecDepth 8000 in
theorem lc_13 {p : Program} {l : Launch} {e : Env} {s : State} {m : MethodId} {below : List Frame} {meth : Method} {c : Code} {D : va_G} {B b : Nat} {cy : Nat → ClassId} {H : Heap} {locs : List Loc} {ls : Array Slot} {xs : Nat → Int32} {Q : State → Prop} (F : CallFix p m c code 4 s #[Value.ref b] TB RL) (hX : va_X b 6 xs s s.heap) (hbl : b < s.heap.size) (hbA : ¬ B ≤ b) (w : Wd D B cy s s.heap M0 H locs) (hl : lv_has ls 4 [(3, .int 0), (2, .ref (B + 146)), (1, .ref (B + 0)), (0, .ref b)]) (kk : ∀ (M1 : Mem) (H1 : Heap) (locs1 : List Loc), Wd D B cy s s.heap M1 H1 locs1 → W p l e room_1 s m #[Value.ref b] below meth c H1 locs1 159 13107 Q (F0 m 1065 ls [])) : W p l e room_1 s m #[Value.ref b] below meth c H locs 159 13107 Q (F0 m 607 ls []) := by
  rcases (show (xs 1).toInt < 0 ∨ (xs 1).toInt = 0 ∨ 0 < (xs 1).toInt by omega) with h1 | h1 | h1
  · skip
    exact la_13_37 F hX hbl hbA w hl (by rw [Int32.lt_iff_toInt_lt, show (0 : Int32).toInt = 0 from by decide]; omega) kk
  · have x1 : xs 1 = 0 := Int32.toInt_inj.mp (h1.trans (by decide))
    exact la_13_38 F hX hbl hbA w hl x1 kk
  · skip
    exact la_13_39 F hX hbl hbA w hl (by rw [Int32.lt_iff_toInt_lt, show (0 : Int32).toInt = 0 from by decide]; omega) (by rw [Int32.lt_iff_toInt_lt, show (0 : Int32).toInt = 0 from by decide]; omega) kk
theorem dL_law_630 : decode cL_law 630 = .ok (.aload_n 1, 1) := by decide +kernel
theorem dL_law_631 : decode cL_law 631 = .ok (.invokevirtual 78, 3) := by decide +kernel
theorem dX11_undo_0 : decode cX11_undo 0 = .ok (.aload_n 0, 1) := by decide +kernel
theorem dX11_undo_1 : decode cX11_undo 1 = .ok (.getfield 47, 3) := by decide +kernel
theorem dX11_undo_4 : decode cX11_undo 4 = .ok (.getfield 94, 3) := by decide +kernel
theorem tb_374 : Cond.fieldLink "ToneLines" 94 "ToneLines$History" "acts" "I" ∈ TB := tbm (tc1 (List.mem_of_getElem? (i := 213) rfl)) rfl
theorem dX11_undo_7 : decode cX11_undo 7 = .ok (.ifCond .gt 5, 3) := by decide +kernel
theorem dX11_undo_10 : decode cX11_undo 10 = .ok (.iconst (-1), 1) := by decide +kernel
theorem dX11_undo_11 : decode cX11_undo 11 = .ok (.ireturn, 1) := by decide +kernel
set_option maxRecDepth 4000 in
theorem c_X11_undo_218 {l : Launch} {D : va_G} {B : Nat} {cy : Nat → ClassId} {M : Mem} (h0 : M.1 71 2 = 0) : Ci l D B cy yX11_undo cX11_undo 1 (some .int) 0 0 [.ref (B + 0)] M (fun r M1 => r = (-1) ∧ M1 = M) := by
  refine s_any (by decide) (Nat.le_of_ble_eq_true rfl) ?_
  intro p e s m below meth c ls F hr hlocks w hl
  have F : CallFix p m c cX11_undo 1 s _ TB RX11 := F
  have hx := F.1
  have hb := F.2.1
  have hl : lv_has ls 1 [(0, .ref (B + 0))] := hl
  refine lv_aload_n hx hb dX11_undo_0 rfl (lv_at hl 0 rfl) ?_
  refine f_11_5 F w (a := 0) rfl tb_86 dX11_undo_1 ?_
  refine f_2_2 F w (a := 71) rfl tb_374 dX11_undo_4 ?_
  refine r_val (v := 0) (h0) ?_
  refine lv_if_gt (tgt := 12) hx hb dX11_undo_7 (by decide) (fun c1 => absurd c1 (by decide)) (fun _ => ?_)
  refine lv_iconst (v := (-1)) hx hb dX11_undo_10 (by decide) ?_
  exact e_i F w hr hlocks ⟨rfl, rfl⟩ dX11_undo_11
theorem tk_X11_undo : Cond.code yX11_undo cX11_undo 1 (some .int) ∈ TB := tbm (tc4 (List.mem_of_getElem? (i := 116) rfl)) rfl
theorem gc_X11_undo : GoodIn TB (cw yX11_undo cX11_undo 1 (some .int)) := goodIn_c2 tk_X11_undo
theorem tb_375 : Cond.methodLink "ToneLinesLaw" 78 yX11_undo ∈ TB := tbm (tc4 (List.mem_of_getElem? (i := 113) rfl)) rfl
theorem tb_376 : Cond.instanceMethod yX11_undo ∈ TB := tbm (tc4 (List.mem_of_getElem? (i := 114) rfl)) rfl
theorem tb_377 : Cond.selects "ToneLines" yX11_undo yX11_undo ∈ TB := tbm (tc4 (List.mem_of_getElem? (i := 115) rfl)) rfl
theorem gv_L_78 : GoodIn TB (wsV RL 78 RX11 yX11_undo (cw yX11_undo cX11_undo 1 (some .int))) := goodIn_4 tb_375 tb_376 tb_377 tb_145 gc_X11_undo
theorem hv_X11_undo : yX11_undo.cls = RX11 ∧ yX11_undo.cls ≠ "java/lang/invoke/MethodHandle" ∧ yX11_undo.cls ≠ "java/lang/invoke/VarHandle" ∧ (parseMethodDescriptor yX11_undo.desc).map (fun d => d.parameters.length) = some 0 := by decide +kernel
theorem dL_law_634 : decode cL_law 634 = .ok (.aload_n 2, 1) := by decide +kernel
theorem dL_law_635 : decode cL_law 635 = .ok (.invokevirtual 81, 3) := by decide +kernel
theorem dX12_undo_0 : decode cX12_undo 0 = .ok (.aload_n 0, 1) := by decide +kernel
theorem dX12_undo_1 : decode cX12_undo 1 = .ok (.getfield 201, 3) := by decide +kernel
theorem dX12_undo_4 : decode cX12_undo 4 = .ok (.ifCond .ne 5, 3) := by decide +kernel
theorem dX12_undo_7 : decode cX12_undo 7 = .ok (.iconst (-1), 1) := by decide +kernel
theorem dX12_undo_8 : decode cX12_undo 8 = .ok (.ireturn, 1) := by decide +kernel
set_option maxRecDepth 4000 in
theorem c_X12_undo_219 {l : Launch} {D : va_G} {B : Nat} {cy : Nat → ClassId} {M : Mem} (h0 : M.1 146 20 = 0) : Ci l D B cy yX12_undo cX12_undo 2 (some .int) 0 0 [.ref (B + 146)] M (fun r M1 => r = (-1) ∧ M1 = M) := by
  refine s_any (by decide) (Nat.le_of_ble_eq_true rfl) ?_
  intro p e s m below meth c ls F hr hlocks w hl
  have F : CallFix p m c cX12_undo 2 s _ TB RX12 := F
  have hx := F.1
  have hb := F.2.1
  have hl : lv_has ls 2 [(0, .ref (B + 146))] := hl
  refine lv_aload_n hx hb dX12_undo_0 rfl (lv_at hl 0 rfl) ?_
  refine f_12_20 F w (a := 146) rfl tb_283 dX12_undo_1 ?_
  refine r_val (v := 0) (h0) ?_
  refine lv_if_ne (tgt := 9) hx hb dX12_undo_4 (by decide) (fun c1 => absurd c1 (by decide)) (fun _ => ?_)
  refine lv_iconst (v := (-1)) hx hb dX12_undo_7 (by decide) ?_
  exact e_i F w hr hlocks ⟨rfl, rfl⟩ dX12_undo_8
theorem tk_X12_undo : Cond.code yX12_undo cX12_undo 2 (some .int) ∈ TB := tbm (tc6 (List.mem_of_getElem? (i := 145) rfl)) rfl
theorem gc_X12_undo : GoodIn TB (cw yX12_undo cX12_undo 2 (some .int)) := goodIn_c2 tk_X12_undo
theorem tb_378 : Cond.methodLink "ToneLinesLaw" 81 yX12_undo ∈ TB := tbm (tc6 (List.mem_of_getElem? (i := 142) rfl)) rfl
theorem tb_379 : Cond.instanceMethod yX12_undo ∈ TB := tbm (tc6 (List.mem_of_getElem? (i := 143) rfl)) rfl
theorem tb_380 : Cond.selects "ToneLinesModel" yX12_undo yX12_undo ∈ TB := tbm (tc6 (List.mem_of_getElem? (i := 144) rfl)) rfl
theorem gv_L_81 : GoodIn TB (wsV RL 81 RX12 yX12_undo (cw yX12_undo cX12_undo 2 (some .int))) := goodIn_4 tb_378 tb_379 tb_380 tb_150 gc_X12_undo
theorem hv_X12_undo : yX12_undo.cls = RX12 ∧ yX12_undo.cls ≠ "java/lang/invoke/MethodHandle" ∧ yX12_undo.cls ≠ "java/lang/invoke/VarHandle" ∧ (parseMethodDescriptor yX12_undo.desc).map (fun d => d.parameters.length) = some 0 := by decide +kernel
theorem dL_law_638 : decode cL_law 638 = .ok (.if_icmp .eq 427, 3) := by decide +kernel
set_option maxRecDepth 8000 in
theorem la_14_40 {p : Program} {l : Launch} {e : Env} {s : State} {m : MethodId} {below : List Frame} {meth : Method} {c : Code} {D : va_G} {B b : Nat} {cy : Nat → ClassId} {H : Heap} {locs : List Loc} {ls : Array Slot} {xs : Nat → Int32} {Q : State → Prop} (F : CallFix p m c code 4 s #[Value.ref b] TB RL) (hX : va_X b 6 xs s s.heap) (hbl : b < s.heap.size) (hbA : ¬ B ≤ b) (w : Wd D B cy s s.heap M0 H locs) (hl : lv_has ls 4 [(3, .int 0), (2, .ref (B + 146)), (1, .ref (B + 0)), (0, .ref b)]) (kk : ∀ (M1 : Mem) (H1 : Heap) (locs1 : List Loc), Wd D B cy s s.heap M1 H1 locs1 → W p l e room_1 s m #[Value.ref b] below meth c H1 locs1 159 13107 Q (F0 m 1065 ls [])) : W p l e room_1 s m #[Value.ref b] below meth c H locs 159 13107 Q (F0 m 630 ls []) := by
  have hx := F.1
  have hb := F.2.1
  refine lv_aload_n hx hb dL_law_630 rfl (lv_at hl 2 rfl) ?_
  refine x_Vi F w (As := []) (rest := []) (a := 0) (by decide) (sh_11 rfl _ _) rfl (c_X11_undo_218 (rfl)) gv_L_78 hv_X11_undo ⟨Nat.le_of_ble_eq_true rfl, Nat.le_of_ble_eq_true rfl⟩ hl.1 rfl (Nat.le_of_ble_eq_true rfl) ⟨Nat.le_of_ble_eq_true rfl, Nat.le_of_ble_eq_true rfl⟩ dL_law_631 (fun H locs w => ?_)
  refine lv_aload_n hx hb dL_law_634 rfl (lv_at hl 1 rfl) ?_
  refine x_Vi F w (As := []) (rest := [.int (-1)]) (a := 146) (by decide) (sh_12 rfl _ _) rfl (c_X12_undo_219 (rfl)) gv_L_81 hv_X12_undo ⟨Nat.le_of_ble_eq_true rfl, Nat.le_of_ble_eq_true rfl⟩ hl.1 rfl (Nat.le_of_ble_eq_true rfl) ⟨Nat.le_of_ble_eq_true rfl, Nat.le_of_ble_eq_true rfl⟩ dL_law_635 (fun H locs w => ?_)
  refine lv_icmp_eq (tgt := 1065) hx hb dL_law_638 (by decide) (fun _ => ?_) (fun c1 => absurd c1 (by decide))
  exact kk _ _ _ w
set_option maxRecDepth 8000 in
theorem lc_14 {p : Program} {l : Launch} {e : Env} {s : State} {m : MethodId} {below : List Frame} {meth : Method} {c : Code} {D : va_G} {B b : Nat} {cy : Nat → ClassId} {H : Heap} {locs : List Loc} {ls : Array Slot} {xs : Nat → Int32} {Q : State → Prop} (F : CallFix p m c code 4 s #[Value.ref b] TB RL) (hX : va_X b 6 xs s s.heap) (hbl : b < s.heap.size) (hbA : ¬ B ≤ b) (w : Wd D B cy s s.heap M0 H locs) (hl : lv_has ls 4 [(3, .int 0), (2, .ref (B + 146)), (1, .ref (B + 0)), (0, .ref b)]) (kk : ∀ (M1 : Mem) (H1 : Heap) (locs1 : List Loc), Wd D B cy s s.heap M1 H1 locs1 → W p l e room_1 s m #[Value.ref b] below meth c H1 locs1 159 13107 Q (F0 m 1065 ls [])) : W p l e room_1 s m #[Value.ref b] below meth c H locs 159 13107 Q (F0 m 630 ls []) := by
  exact la_14_40 F hX hbl hbA w hl  kk
theorem dL_law_643 : decode cL_law 643 = .ok (.aload_n 1, 1) := by decide +kernel
theorem dL_law_644 : decode cL_law 644 = .ok (.aload_n 0, 1) := by decide +kernel
theorem dL_law_645 : decode cL_law 645 = .ok (.iload_n 3, 1) := by decide +kernel
theorem dL_law_646 : decode cL_law 646 = .ok (.iconst 1, 1) := by decide +kernel
theorem dL_law_647 : decode cL_law 647 = .ok (.iadd, 1) := by decide +kernel
theorem dL_law_648 : decode cL_law 648 = .ok (.iaload, 1) := by decide +kernel
theorem dL_law_649 : decode cL_law 649 = .ok (.aload_n 0, 1) := by decide +kernel
theorem dL_law_650 : decode cL_law 650 = .ok (.iload_n 3, 1) := by decide +kernel
theorem dL_law_651 : decode cL_law 651 = .ok (.iconst 2, 1) := by decide +kernel
theorem dL_law_652 : decode cL_law 652 = .ok (.iadd, 1) := by decide +kernel
theorem dL_law_653 : decode cL_law 653 = .ok (.iaload, 1) := by decide +kernel
theorem dL_law_654 : decode cL_law 654 = .ok (.invokevirtual 82, 3) := by decide +kernel
theorem dX11_has_0 : decode cX11_has 0 = .ok (.aload_n 0, 1) := by decide +kernel
theorem dX11_has_1 : decode cX11_has 1 = .ok (.getfield 35, 3) := by decide +kernel
theorem dX11_has_4 : decode cX11_has 4 = .ok (.iload_n 1, 1) := by decide +kernel
theorem dX11_has_5 : decode cX11_has 5 = .ok (.invokevirtual 193, 3) := by decide +kernel
theorem dX11_has_8 : decode cX11_has 8 = .ok (.ifCond .ne 5, 3) := by decide +kernel
theorem dX11_has_11 : decode cX11_has 11 = .ok (.iconst (-1), 1) := by decide +kernel
theorem dX11_has_12 : decode cX11_has 12 = .ok (.ireturn, 1) := by decide +kernel
set_option maxRecDepth 4000 in
theorem c_X11_has_220 {l : Launch} {D : va_G} {B : Nat} {cy : Nat → ClassId} {M : Mem} {p1 : Int32} {p2 : Int32} (h0 : p1 < 0) : Ci l D B cy yX11_has cX11_has 4 (some .int) 1 21 [.ref (B + 0), .int p1, .int p2] M (fun r M1 => r = (-1) ∧ M1 = M) := by
  refine s_any (by decide) (Nat.le_of_ble_eq_true rfl) ?_
  intro p e s m below meth c ls F hr hlocks w hl
  have F : CallFix p m c cX11_has 4 s _ TB RX11 := F
  have hx := F.1
  have hb := F.2.1
  have hl : lv_has ls 4 [(0, .ref (B + 0)), (1, .int p1), (2, .int p2)] := hl
  refine lv_aload_n hx hb dX11_has_0 rfl (lv_at hl 0 rfl) ?_
  refine f_11_3 F w (a := 0) rfl tb_73 dX11_has_1 ?_
  refine lv_iload_n hx hb dX11_has_4 rfl (lv_at hl 1 rfl) ?_
  refine x_Vi F w (As := [.int p1]) (rest := []) (a := 22) (by decide) (sh_0 rfl _ _) rfl (c_X0_covers_203 h0) gv_X11_193 hv_X0_covers ⟨Nat.le_of_ble_eq_true rfl, Nat.le_of_ble_eq_true rfl⟩ hl.1 rfl (Nat.le_of_ble_eq_true rfl) ⟨Nat.zero_le _, Nat.zero_le _⟩ dX11_has_5 (fun H locs w => ?_)
  refine lv_if_ne (tgt := 13) hx hb dX11_has_8 (by decide) (fun c1 => absurd c1 (by decide)) (fun _ => ?_)
  refine lv_iconst (v := (-1)) hx hb dX11_has_11 (by decide) ?_
  exact e_i F w hr hlocks ⟨rfl, rfl⟩ dX11_has_12
theorem tk_X11_has : Cond.code yX11_has cX11_has 4 (some .int) ∈ TB := tbm (tc4 (List.mem_of_getElem? (i := 124) rfl)) rfl
theorem gc_X11_has : GoodIn TB (cw yX11_has cX11_has 4 (some .int)) := goodIn_c2 tk_X11_has
theorem tb_381 : Cond.methodLink "ToneLinesLaw" 82 yX11_has ∈ TB := tbm (tc4 (List.mem_of_getElem? (i := 121) rfl)) rfl
theorem tb_382 : Cond.instanceMethod yX11_has ∈ TB := tbm (tc4 (List.mem_of_getElem? (i := 122) rfl)) rfl
theorem tb_383 : Cond.selects "ToneLines" yX11_has yX11_has ∈ TB := tbm (tc4 (List.mem_of_getElem? (i := 123) rfl)) rfl
theorem gv_L_82 : GoodIn TB (wsV RL 82 RX11 yX11_has (cw yX11_has cX11_has 4 (some .int))) := goodIn_4 tb_381 tb_382 tb_383 tb_145 gc_X11_has
theorem hv_X11_has : yX11_has.cls = RX11 ∧ yX11_has.cls ≠ "java/lang/invoke/MethodHandle" ∧ yX11_has.cls ≠ "java/lang/invoke/VarHandle" ∧ (parseMethodDescriptor yX11_has.desc).map (fun d => d.parameters.length) = some 2 := by decide +kernel
theorem dL_law_657 : decode cL_law 657 = .ok (.aload_n 2, 1) := by decide +kernel
theorem dL_law_658 : decode cL_law 658 = .ok (.aload_n 0, 1) := by decide +kernel
theorem dL_law_659 : decode cL_law 659 = .ok (.iload_n 3, 1) := by decide +kernel
theorem dL_law_660 : decode cL_law 660 = .ok (.iconst 1, 1) := by decide +kernel
theorem dL_law_661 : decode cL_law 661 = .ok (.iadd, 1) := by decide +kernel
theorem dL_law_662 : decode cL_law 662 = .ok (.iaload, 1) := by decide +kernel
theorem dL_law_663 : decode cL_law 663 = .ok (.aload_n 0, 1) := by decide +kernel
theorem dL_law_664 : decode cL_law 664 = .ok (.iload_n 3, 1) := by decide +kernel
theorem dL_law_665 : decode cL_law 665 = .ok (.iconst 2, 1) := by decide +kernel
theorem dL_law_666 : decode cL_law 666 = .ok (.iadd, 1) := by decide +kernel
theorem dL_law_667 : decode cL_law 667 = .ok (.iaload, 1) := by decide +kernel
theorem dL_law_668 : decode cL_law 668 = .ok (.invokevirtual 85, 3) := by decide +kernel
theorem dX12_has_0 : decode cX12_has 0 = .ok (.aload_n 0, 1) := by decide +kernel
theorem dX12_has_1 : decode cX12_has 1 = .ok (.iload_n 1, 1) := by decide +kernel
theorem dX12_has_2 : decode cX12_has 2 = .ok (.invokevirtual 261, 3) := by decide +kernel
theorem dX12_lays_0 : decode cX12_lays 0 = .ok (.iload_n 1, 1) := by decide +kernel
theorem dX12_lays_1 : decode cX12_lays 1 = .ok (.iconst 0, 1) := by decide +kernel
theorem dX12_lays_2 : decode cX12_lays 2 = .ok (.aload_n 0, 1) := by decide +kernel
theorem dX12_lays_3 : decode cX12_lays 3 = .ok (.getfield 239, 3) := by decide +kernel
theorem dX12_lays_6 : decode cX12_lays 6 = .ok (.invokestatic 55, 3) := by decide +kernel
theorem dX12_lays_9 : decode cX12_lays 9 = .ok (.ifCond .ne 5, 3) := by decide +kernel
theorem dX12_lays_12 : decode cX12_lays 12 = .ok (.iconst 0, 1) := by decide +kernel
theorem dX12_lays_13 : decode cX12_lays 13 = .ok (.ireturn, 1) := by decide +kernel
set_option maxRecDepth 4000 in
theorem c_X12_lays_221 {l : Launch} {D : va_G} {B : Nat} {cy : Nat → ClassId} {M : Mem} {p1 : Int32} (h0 : M.1 146 5 = 0) (h1 : p1 < 0) : Ci l D B cy yX12_lays cX12_lays 2 (some .boolean) 1 22 [.ref (B + 146), .int p1] M (fun r M1 => r = 0 ∧ M1 = M) := by
  refine s_any (by decide) (Nat.le_of_ble_eq_true rfl) ?_
  intro p e s m below meth c ls F hr hlocks w hl
  have F : CallFix p m c cX12_lays 2 s _ TB RX12 := F
  have hx := F.1
  have hb := F.2.1
  have hl : lv_has ls 2 [(0, .ref (B + 146)), (1, .int p1)] := hl
  refine lv_iload_n hx hb dX12_lays_0 rfl (lv_at hl 1 rfl) ?_
  refine lv_iconst (v := 0) hx hb dX12_lays_1 (by decide) ?_
  refine lv_aload_n hx hb dX12_lays_2 rfl (lv_at hl 0 rfl) ?_
  refine f_12_5 F w (a := 146) rfl tb_227 dX12_lays_3 ?_
  refine r_val (v := 0) (h0) ?_
  refine x_Si F w (As := [.int p1, .int 0, .int 0]) (rest := []) (c_X12_in_66 h1) gs_X12_55 hs_X12_in ⟨Nat.le_of_ble_eq_true rfl, Nat.le_of_ble_eq_true rfl⟩ hl.1 rfl (Nat.le_of_ble_eq_true rfl) ⟨Nat.zero_le _, Nat.zero_le _⟩ dX12_lays_6 (fun H locs w => ?_)
  refine lv_if_ne (tgt := 14) hx hb dX12_lays_9 (by decide) (fun c1 => absurd c1 (by decide)) (fun _ => ?_)
  refine lv_iconst (v := 0) hx hb dX12_lays_12 (by decide) ?_
  exact e_z F w hr hlocks (by decide) ⟨rfl, rfl⟩ dX12_lays_13
theorem tk_X12_lays : Cond.code yX12_lays cX12_lays 2 (some .boolean) ∈ TB := tbm (tc6 (List.mem_of_getElem? (i := 153) rfl)) rfl
theorem gc_X12_lays : GoodIn TB (cw yX12_lays cX12_lays 2 (some .boolean)) := goodIn_c2 tk_X12_lays
theorem tb_384 : Cond.methodLink "ToneLinesModel" 261 yX12_lays ∈ TB := tbm (tc6 (List.mem_of_getElem? (i := 150) rfl)) rfl
theorem tb_385 : Cond.instanceMethod yX12_lays ∈ TB := tbm (tc6 (List.mem_of_getElem? (i := 152) rfl)) rfl
theorem tb_386 : Cond.selects "ToneLinesModel" yX12_lays yX12_lays ∈ TB := tbp (List.mem_of_getElem? (i := 72) rfl) rfl
theorem gv_X12_261 : GoodIn TB (wsV RX12 261 RX12 yX12_lays (cw yX12_lays cX12_lays 2 (some .boolean))) := goodIn_4 tb_384 tb_385 tb_386 tb_150 gc_X12_lays
theorem hv_X12_lays : yX12_lays.cls = RX12 ∧ yX12_lays.cls ≠ "java/lang/invoke/MethodHandle" ∧ yX12_lays.cls ≠ "java/lang/invoke/VarHandle" ∧ (parseMethodDescriptor yX12_lays.desc).map (fun d => d.parameters.length) = some 1 := by decide +kernel
theorem dX12_has_5 : decode cX12_has 5 = .ok (.ifCond .ne 5, 3) := by decide +kernel
theorem dX12_has_8 : decode cX12_has 8 = .ok (.iconst (-1), 1) := by decide +kernel
theorem dX12_has_9 : decode cX12_has 9 = .ok (.ireturn, 1) := by decide +kernel
set_option maxRecDepth 4000 in
theorem c_X12_has_222 {l : Launch} {D : va_G} {B : Nat} {cy : Nat → ClassId} {M : Mem} {p1 : Int32} {p2 : Int32} (h0 : M.1 146 5 = 0) (h1 : p1 < 0) : Ci l D B cy yX12_has cX12_has 3 (some .int) 2 43 [.ref (B + 146), .int p1, .int p2] M (fun r M1 => r = (-1) ∧ M1 = M) := by
  refine s_any (by decide) (Nat.le_of_ble_eq_true rfl) ?_
  intro p e s m below meth c ls F hr hlocks w hl
  have F : CallFix p m c cX12_has 3 s _ TB RX12 := F
  have hx := F.1
  have hb := F.2.1
  have hl : lv_has ls 3 [(0, .ref (B + 146)), (1, .int p1), (2, .int p2)] := hl
  refine lv_aload_n hx hb dX12_has_0 rfl (lv_at hl 0 rfl) ?_
  refine lv_iload_n hx hb dX12_has_1 rfl (lv_at hl 1 rfl) ?_
  refine x_Vi F w (As := [.int p1]) (rest := []) (a := 146) (by decide) (sh_12 rfl _ _) rfl (c_X12_lays_221 (h0) h1) gv_X12_261 hv_X12_lays ⟨Nat.le_of_ble_eq_true rfl, Nat.le_of_ble_eq_true rfl⟩ hl.1 rfl (Nat.le_of_ble_eq_true rfl) ⟨Nat.zero_le _, Nat.zero_le _⟩ dX12_has_2 (fun H locs w => ?_)
  refine lv_if_ne (tgt := 10) hx hb dX12_has_5 (by decide) (fun c1 => absurd c1 (by decide)) (fun _ => ?_)
  refine lv_iconst (v := (-1)) hx hb dX12_has_8 (by decide) ?_
  exact e_i F w hr hlocks ⟨rfl, rfl⟩ dX12_has_9
theorem tk_X12_has : Cond.code yX12_has cX12_has 3 (some .int) ∈ TB := tbm (tc6 (List.mem_of_getElem? (i := 149) rfl)) rfl
theorem gc_X12_has : GoodIn TB (cw yX12_has cX12_has 3 (some .int)) := goodIn_c2 tk_X12_has
theorem tb_387 : Cond.methodLink "ToneLinesLaw" 85 yX12_has ∈ TB := tbm (tc6 (List.mem_of_getElem? (i := 146) rfl)) rfl
theorem tb_388 : Cond.instanceMethod yX12_has ∈ TB := tbm (tc6 (List.mem_of_getElem? (i := 147) rfl)) rfl
theorem tb_389 : Cond.selects "ToneLinesModel" yX12_has yX12_has ∈ TB := tbm (tc6 (List.mem_of_getElem? (i := 148) rfl)) rfl
theorem gv_L_85 : GoodIn TB (wsV RL 85 RX12 yX12_has (cw yX12_has cX12_has 3 (some .int))) := goodIn_4 tb_387 tb_388 tb_389 tb_150 gc_X12_has
theorem hv_X12_has : yX12_has.cls = RX12 ∧ yX12_has.cls ≠ "java/lang/invoke/MethodHandle" ∧ yX12_has.cls ≠ "java/lang/invoke/VarHandle" ∧ (parseMethodDescriptor yX12_has.desc).map (fun d => d.parameters.length) = some 2 := by decide +kernel
theorem dL_law_671 : decode cL_law 671 = .ok (.if_icmp .eq 394, 3) := by decide +kernel
set_option maxRecDepth 8000 in
theorem la_15_41 {p : Program} {l : Launch} {e : Env} {s : State} {m : MethodId} {below : List Frame} {meth : Method} {c : Code} {D : va_G} {B b : Nat} {cy : Nat → ClassId} {H : Heap} {locs : List Loc} {ls : Array Slot} {xs : Nat → Int32} {Q : State → Prop} (F : CallFix p m c code 4 s #[Value.ref b] TB RL) (hX : va_X b 6 xs s s.heap) (hbl : b < s.heap.size) (hbA : ¬ B ≤ b) (w : Wd D B cy s s.heap M0 H locs) (hl : lv_has ls 4 [(3, .int 0), (2, .ref (B + 146)), (1, .ref (B + 0)), (0, .ref b)]) (h0 : (xs 1) < 0) (kk : ∀ (M1 : Mem) (H1 : Heap) (locs1 : List Loc), Wd D B cy s s.heap M1 H1 locs1 → W p l e room_1 s m #[Value.ref b] below meth c H1 locs1 159 13107 Q (F0 m 1065 ls [])) : W p l e room_1 s m #[Value.ref b] below meth c H locs 159 13107 Q (F0 m 643 ls []) := by
  have hx := F.1
  have hb := F.2.1
  refine lv_aload_n hx hb dL_law_643 rfl (lv_at hl 2 rfl) ?_
  refine lv_aload_n hx hb dL_law_644 rfl (lv_at hl 3 rfl) ?_
  refine lv_iload_n hx hb dL_law_645 rfl (lv_at hl 0 rfl) ?_
  refine lv_iconst (v := 1) hx hb dL_law_646 (by decide) ?_
  refine lv_iadd hx hb dL_law_647 ?_
  refine r_val (v := 1) (by decide) ?_
  refine va_sld hx hb hX hbl hbA w.2.2.1 (vpi (by decide) (by decide)) dL_law_648 ?_
  refine r_val (v := xs 1) (congrArg xs (show (1 : Int32).toNatClampNeg = 1 by decide)) ?_
  refine lv_aload_n hx hb dL_law_649 rfl (lv_at hl 3 rfl) ?_
  refine lv_iload_n hx hb dL_law_650 rfl (lv_at hl 0 rfl) ?_
  refine lv_iconst (v := 2) hx hb dL_law_651 (by decide) ?_
  refine lv_iadd hx hb dL_law_652 ?_
  refine r_val (v := 2) (by decide) ?_
  refine va_sld hx hb hX hbl hbA w.2.2.1 (vpi (by decide) (by decide)) dL_law_653 ?_
  refine r_val (v := xs 2) (congrArg xs (show (2 : Int32).toNatClampNeg = 2 by decide)) ?_
  refine x_Vi F w (As := [.int (xs 1), .int (xs 2)]) (rest := []) (a := 0) (by decide) (sh_11 rfl _ _) rfl (c_X11_has_220 h0) gv_L_82 hv_X11_has ⟨Nat.le_of_ble_eq_true rfl, Nat.le_of_ble_eq_true rfl⟩ hl.1 rfl (Nat.le_of_ble_eq_true rfl) ⟨Nat.le_of_ble_eq_true rfl, Nat.le_of_ble_eq_true rfl⟩ dL_law_654 (fun H locs w => ?_)
  refine lv_aload_n hx hb dL_law_657 rfl (lv_at hl 1 rfl) ?_
  refine lv_aload_n hx hb dL_law_658 rfl (lv_at hl 3 rfl) ?_
  refine lv_iload_n hx hb dL_law_659 rfl (lv_at hl 0 rfl) ?_
  refine lv_iconst (v := 1) hx hb dL_law_660 (by decide) ?_
  refine lv_iadd hx hb dL_law_661 ?_
  refine r_val (v := 1) (by decide) ?_
  refine va_sld hx hb hX hbl hbA w.2.2.1 (vpi (by decide) (by decide)) dL_law_662 ?_
  refine r_val (v := xs 1) (congrArg xs (show (1 : Int32).toNatClampNeg = 1 by decide)) ?_
  refine lv_aload_n hx hb dL_law_663 rfl (lv_at hl 3 rfl) ?_
  refine lv_iload_n hx hb dL_law_664 rfl (lv_at hl 0 rfl) ?_
  refine lv_iconst (v := 2) hx hb dL_law_665 (by decide) ?_
  refine lv_iadd hx hb dL_law_666 ?_
  refine r_val (v := 2) (by decide) ?_
  refine va_sld hx hb hX hbl hbA w.2.2.1 (vpi (by decide) (by decide)) dL_law_667 ?_
  refine r_val (v := xs 2) (congrArg xs (show (2 : Int32).toNatClampNeg = 2 by decide)) ?_
  refine x_Vi F w (As := [.int (xs 1), .int (xs 2)]) (rest := [.int (-1)]) (a := 146) (by decide) (sh_12 rfl _ _) rfl (c_X12_has_222 (rfl) h0) gv_L_85 hv_X12_has ⟨Nat.le_of_ble_eq_true rfl, Nat.le_of_ble_eq_true rfl⟩ hl.1 rfl (Nat.le_of_ble_eq_true rfl) ⟨Nat.le_of_ble_eq_true rfl, Nat.le_of_ble_eq_true rfl⟩ dL_law_668 (fun H locs w => ?_)
  refine lv_icmp_eq (tgt := 1065) hx hb dL_law_671 (by decide) (fun _ => ?_) (fun c1 => absurd c1 (by decide))
  exact kk _ _ _ w
theorem dX11_has_13 : decode cX11_has 13 = .ok (.aload_n 0, 1) := by decide +kernel
theorem dX11_has_14 : decode cX11_has 14 = .ok (.getfield 35, 3) := by decide +kernel
theorem dX11_has_17 : decode cX11_has 17 = .ok (.iload_n 1, 1) := by decide +kernel
theorem dX11_has_18 : decode cX11_has 18 = .ok (.invokevirtual 196, 3) := by decide +kernel
theorem dX11_has_21 : decode cX11_has 21 = .ok (.astore_n 3, 1) := by decide +kernel
theorem dX11_has_22 : decode cX11_has 22 = .ok (.iload_n 2, 1) := by decide +kernel
theorem dX11_has_23 : decode cX11_has 23 = .ok (.tableswitch 100 0 8 #[49, 54, 59, 64, 69, 74, 85, 90, 95], 49) := by decide +kernel
theorem dX11_has_123 : decode cX11_has 123 = .ok (.iconst (-1), 1) := by decide +kernel
theorem dX11_has_124 : decode cX11_has 124 = .ok (.ireturn, 1) := by decide +kernel
set_option maxRecDepth 4000 in
theorem c_X11_has_223 {l : Launch} {D : va_G} {B : Nat} {cy : Nat → ClassId} {M : Mem} {p2 : Int32} (h0 : M.1 22 2 = 0) (h1 : M.1 22 7 = 0) (h2 : p2.toInt < 0 ∨ 8 < p2.toInt) : Ci l D B cy yX11_has cX11_has 4 (some .int) 2 43 [.ref (B + 0), .int 0, .int p2] M (fun r M1 => r = (-1) ∧ M1 = M) := by
  refine s_any (by decide) (Nat.le_of_ble_eq_true rfl) ?_
  intro p e s m below meth c ls F hr hlocks w hl
  have F : CallFix p m c cX11_has 4 s _ TB RX11 := F
  have hx := F.1
  have hb := F.2.1
  have hl : lv_has ls 4 [(0, .ref (B + 0)), (1, .int 0), (2, .int p2)] := hl
  refine lv_aload_n hx hb dX11_has_0 rfl (lv_at hl 0 rfl) ?_
  refine f_11_3 F w (a := 0) rfl tb_73 dX11_has_1 ?_
  refine lv_iload_n hx hb dX11_has_4 rfl (lv_at hl 1 rfl) ?_
  refine x_Vi F w (As := [.int 0]) (rest := []) (a := 22) (by decide) (sh_0 rfl _ _) rfl (c_X0_covers_206 (h0)) gv_X11_193 hv_X0_covers ⟨Nat.le_of_ble_eq_true rfl, Nat.le_of_ble_eq_true rfl⟩ hl.1 rfl (Nat.le_of_ble_eq_true rfl) ⟨Nat.zero_le _, Nat.zero_le _⟩ dX11_has_5 (fun H locs w => ?_)
  refine lv_if_ne (tgt := 13) hx hb dX11_has_8 (by decide) (fun _ => ?_) (fun c1 => absurd c1 (by decide))
  refine lv_aload_n hx hb dX11_has_13 rfl (lv_at hl 0 rfl) ?_
  refine f_11_3 F w (a := 0) rfl tb_73 dX11_has_14 ?_
  refine lv_iload_n hx hb dX11_has_17 rfl (lv_at hl 1 rfl) ?_
  refine x_Vr F w (As := [.int 0]) (rest := []) (a := 22) (by decide) (sh_0 rfl _ _) rfl (c_X0_stageOf_207 (h0) (h1)) gv_X11_196 hv_X0_stageOf ⟨Nat.le_of_ble_eq_true rfl, Nat.le_of_ble_eq_true rfl⟩ hl.1 rfl (Nat.le_of_ble_eq_true rfl) ⟨Nat.zero_le _, Nat.zero_le _⟩ dX11_has_18 (fun H locs w => ?_)
  refine lv_astore_n (lv' := [(3, .ref (B + 44)), (0, .ref (B + 0)), (1, .int 0), (2, .int p2)]) hx hb dX11_has_21 rfl hl (by decide) rfl (fun ls hl => ?_)
  refine lv_iload_n hx hb dX11_has_22 rfl (lv_at hl 3 rfl) ?_
  refine lv_tableOut (tgt := 123) hx hb dX11_has_23 h2 (by decide) ?_
  refine lv_iconst (v := (-1)) hx hb dX11_has_123 (by decide) ?_
  exact e_i F w hr hlocks ⟨rfl, rfl⟩ dX11_has_124
theorem dX12_lays_14 : decode cX12_lays 14 = .ok (.aload_n 0, 1) := by decide +kernel
theorem dX12_lays_15 : decode cX12_lays 15 = .ok (.iload_n 1, 1) := by decide +kernel
theorem dX12_lays_16 : decode cX12_lays 16 = .ok (.invokevirtual 255, 3) := by decide +kernel
theorem dX12_lays_19 : decode cX12_lays 19 = .ok (.pop, 1) := by decide +kernel
theorem dX12_lays_20 : decode cX12_lays 20 = .ok (.iconst 1, 1) := by decide +kernel
theorem dX12_lays_21 : decode cX12_lays 21 = .ok (.ireturn, 1) := by decide +kernel
set_option maxRecDepth 4000 in
theorem c_X12_lays_224 {l : Launch} {D : va_G} {B : Nat} {cy : Nat → ClassId} {M : Mem} (h0 : M.1 146 5 = 0) (h1 : M.1 147 0 = 0) (h2 : M.1 148 0 = 0) (h3 : M.1 147 1 = 0) (h4 : M.1 148 1 = 0) (h5 : M.1 147 2 = 0) (h6 : M.1 148 2 = 0) (h7 : M.1 147 3 = 0) (h8 : M.1 148 3 = 0) (h9 : M.1 147 4 = 0) (h10 : M.1 148 4 = 0) (h11 : M.1 147 5 = 0) (h12 : M.1 148 5 = 0) (h13 : M.1 147 6 = 0) (h14 : M.1 148 6 = 0) (h15 : M.1 147 7 = 0) (h16 : M.1 148 7 = 0) (h17 : M.1 147 8 = 0) (h18 : M.1 148 8 = 0) (h19 : M.1 147 9 = 0) (h20 : M.1 148 9 = 0) (h21 : M.1 147 10 = 0) (h22 : M.1 148 10 = 0) (h23 : M.1 147 11 = 0) (h24 : M.1 148 11 = 0) (h25 : M.1 147 12 = 0) (h26 : M.1 148 12 = 0) (h27 : M.1 147 13 = 0) (h28 : M.1 148 13 = 0) (h29 : M.1 147 14 = 0) (h30 : M.1 148 14 = 0) (h31 : M.1 147 15 = 0) (h32 : M.1 148 15 = 0) (h33 : M.1 147 16 = 0) (h34 : M.1 148 16 = 0) (h35 : M.1 147 17 = 0) (h36 : M.1 148 17 = 0) (h37 : M.1 147 18 = 0) (h38 : M.1 148 18 = 0) (h39 : M.1 147 19 = 0) (h40 : M.1 148 19 = 0) (h41 : M.1 147 20 = 0) (h42 : M.1 148 20 = 0) (h43 : M.1 147 21 = 0) (h44 : M.1 148 21 = 0) (h45 : M.1 147 22 = 0) (h46 : M.1 148 22 = 0) (h47 : M.1 147 23 = 0) (h48 : M.1 148 23 = 0) (h49 : M.1 147 24 = 0) (h50 : M.1 148 24 = 0) (h51 : M.1 147 25 = 0) (h52 : M.1 148 25 = 0) (h53 : M.1 147 26 = 0) (h54 : M.1 148 26 = 0) (h55 : M.1 147 27 = 0) (h56 : M.1 148 27 = 0) : Ci l D B cy yX12_lays cX12_lays 2 (some .boolean) 2 45 [.ref (B + 146), .int 0] M (fun r M1 => r = 1 ∧ M1 = M) := by
  refine s_any (by decide) (Nat.le_of_ble_eq_true rfl) ?_
  intro p e s m below meth c ls F hr hlocks w hl
  have F : CallFix p m c cX12_lays 2 s _ TB RX12 := F
  have hx := F.1
  have hb := F.2.1
  have hl : lv_has ls 2 [(0, .ref (B + 146)), (1, .int 0)] := hl
  refine lv_iload_n hx hb dX12_lays_0 rfl (lv_at hl 1 rfl) ?_
  refine lv_iconst (v := 0) hx hb dX12_lays_1 (by decide) ?_
  refine lv_aload_n hx hb dX12_lays_2 rfl (lv_at hl 0 rfl) ?_
  refine f_12_5 F w (a := 146) rfl tb_227 dX12_lays_3 ?_
  refine r_val (v := 0) (h0) ?_
  refine x_Si F w (As := [.int 0, .int 0, .int 0]) (rest := []) (c_X12_in_69) gs_X12_55 hs_X12_in ⟨Nat.le_of_ble_eq_true rfl, Nat.le_of_ble_eq_true rfl⟩ hl.1 rfl (Nat.le_of_ble_eq_true rfl) ⟨Nat.zero_le _, Nat.zero_le _⟩ dX12_lays_6 (fun H locs w => ?_)
  refine lv_if_ne (tgt := 14) hx hb dX12_lays_9 (by decide) (fun _ => ?_) (fun c1 => absurd c1 (by decide))
  refine lv_aload_n hx hb dX12_lays_14 rfl (lv_at hl 0 rfl) ?_
  refine lv_iload_n hx hb dX12_lays_15 rfl (lv_at hl 1 rfl) ?_
  refine x_Vi F w (As := [.int 0]) (rest := []) (a := 146) (by decide) (sh_12 rfl _ _) rfl (c_X12_derives_212 (h1) (h2) (h3) (h4) (h5) (h6) (h7) (h8) (h9) (h10) (h11) (h12) (h13) (h14) (h15) (h16) (h17) (h18) (h19) (h20) (h21) (h22) (h23) (h24) (h25) (h26) (h27) (h28) (h29) (h30) (h31) (h32) (h33) (h34) (h35) (h36) (h37) (h38) (h39) (h40) (h41) (h42) (h43) (h44) (h45) (h46) (h47) (h48) (h49) (h50) (h51) (h52) (h53) (h54) (h55) (h56)) gv_X12_255 hv_X12_derives ⟨Nat.le_of_ble_eq_true rfl, Nat.le_of_ble_eq_true rfl⟩ hl.1 rfl (Nat.le_of_ble_eq_true rfl) ⟨Nat.zero_le _, Nat.zero_le _⟩ dX12_lays_16 (fun H locs w => ?_)
  refine lv_pop hx hb dX12_lays_19 rfl ?_
  refine lv_iconst (v := 1) hx hb dX12_lays_20 (by decide) ?_
  exact e_z F w hr hlocks (by decide) ⟨rfl, rfl⟩ dX12_lays_21
theorem dX12_has_10 : decode cX12_has 10 = .ok (.iload_n 2, 1) := by decide +kernel
theorem dX12_has_11 : decode cX12_has 11 = .ok (.tableswitch 107 0 8 #[49, 56, 64, 69, 74, 79, 92, 97, 102], 49) := by decide +kernel
theorem dX12_has_118 : decode cX12_has 118 = .ok (.iconst (-1), 1) := by decide +kernel
theorem dX12_has_119 : decode cX12_has 119 = .ok (.ireturn, 1) := by decide +kernel
set_option maxRecDepth 4000 in
theorem c_X12_has_225 {l : Launch} {D : va_G} {B : Nat} {cy : Nat → ClassId} {M : Mem} {p2 : Int32} (h0 : M.1 146 5 = 0) (h1 : M.1 147 0 = 0) (h2 : M.1 148 0 = 0) (h3 : M.1 147 1 = 0) (h4 : M.1 148 1 = 0) (h5 : M.1 147 2 = 0) (h6 : M.1 148 2 = 0) (h7 : M.1 147 3 = 0) (h8 : M.1 148 3 = 0) (h9 : M.1 147 4 = 0) (h10 : M.1 148 4 = 0) (h11 : M.1 147 5 = 0) (h12 : M.1 148 5 = 0) (h13 : M.1 147 6 = 0) (h14 : M.1 148 6 = 0) (h15 : M.1 147 7 = 0) (h16 : M.1 148 7 = 0) (h17 : M.1 147 8 = 0) (h18 : M.1 148 8 = 0) (h19 : M.1 147 9 = 0) (h20 : M.1 148 9 = 0) (h21 : M.1 147 10 = 0) (h22 : M.1 148 10 = 0) (h23 : M.1 147 11 = 0) (h24 : M.1 148 11 = 0) (h25 : M.1 147 12 = 0) (h26 : M.1 148 12 = 0) (h27 : M.1 147 13 = 0) (h28 : M.1 148 13 = 0) (h29 : M.1 147 14 = 0) (h30 : M.1 148 14 = 0) (h31 : M.1 147 15 = 0) (h32 : M.1 148 15 = 0) (h33 : M.1 147 16 = 0) (h34 : M.1 148 16 = 0) (h35 : M.1 147 17 = 0) (h36 : M.1 148 17 = 0) (h37 : M.1 147 18 = 0) (h38 : M.1 148 18 = 0) (h39 : M.1 147 19 = 0) (h40 : M.1 148 19 = 0) (h41 : M.1 147 20 = 0) (h42 : M.1 148 20 = 0) (h43 : M.1 147 21 = 0) (h44 : M.1 148 21 = 0) (h45 : M.1 147 22 = 0) (h46 : M.1 148 22 = 0) (h47 : M.1 147 23 = 0) (h48 : M.1 148 23 = 0) (h49 : M.1 147 24 = 0) (h50 : M.1 148 24 = 0) (h51 : M.1 147 25 = 0) (h52 : M.1 148 25 = 0) (h53 : M.1 147 26 = 0) (h54 : M.1 148 26 = 0) (h55 : M.1 147 27 = 0) (h56 : M.1 148 27 = 0) (h57 : p2.toInt < 0 ∨ 8 < p2.toInt) : Ci l D B cy yX12_has cX12_has 3 (some .int) 3 66 [.ref (B + 146), .int 0, .int p2] M (fun r M1 => r = (-1) ∧ M1 = M) := by
  refine s_any (by decide) (Nat.le_of_ble_eq_true rfl) ?_
  intro p e s m below meth c ls F hr hlocks w hl
  have F : CallFix p m c cX12_has 3 s _ TB RX12 := F
  have hx := F.1
  have hb := F.2.1
  have hl : lv_has ls 3 [(0, .ref (B + 146)), (1, .int 0), (2, .int p2)] := hl
  refine lv_aload_n hx hb dX12_has_0 rfl (lv_at hl 0 rfl) ?_
  refine lv_iload_n hx hb dX12_has_1 rfl (lv_at hl 1 rfl) ?_
  refine x_Vi F w (As := [.int 0]) (rest := []) (a := 146) (by decide) (sh_12 rfl _ _) rfl (c_X12_lays_224 (h0) (h1) (h2) (h3) (h4) (h5) (h6) (h7) (h8) (h9) (h10) (h11) (h12) (h13) (h14) (h15) (h16) (h17) (h18) (h19) (h20) (h21) (h22) (h23) (h24) (h25) (h26) (h27) (h28) (h29) (h30) (h31) (h32) (h33) (h34) (h35) (h36) (h37) (h38) (h39) (h40) (h41) (h42) (h43) (h44) (h45) (h46) (h47) (h48) (h49) (h50) (h51) (h52) (h53) (h54) (h55) (h56)) gv_X12_261 hv_X12_lays ⟨Nat.le_of_ble_eq_true rfl, Nat.le_of_ble_eq_true rfl⟩ hl.1 rfl (Nat.le_of_ble_eq_true rfl) ⟨Nat.zero_le _, Nat.zero_le _⟩ dX12_has_2 (fun H locs w => ?_)
  refine lv_if_ne (tgt := 10) hx hb dX12_has_5 (by decide) (fun _ => ?_) (fun c1 => absurd c1 (by decide))
  refine lv_iload_n hx hb dX12_has_10 rfl (lv_at hl 2 rfl) ?_
  refine lv_tableOut (tgt := 118) hx hb dX12_has_11 h57 (by decide) ?_
  refine lv_iconst (v := (-1)) hx hb dX12_has_118 (by decide) ?_
  exact e_i F w hr hlocks ⟨rfl, rfl⟩ dX12_has_119
set_option maxRecDepth 8000 in
theorem la_15_42 {p : Program} {l : Launch} {e : Env} {s : State} {m : MethodId} {below : List Frame} {meth : Method} {c : Code} {D : va_G} {B b : Nat} {cy : Nat → ClassId} {H : Heap} {locs : List Loc} {ls : Array Slot} {xs : Nat → Int32} {Q : State → Prop} (F : CallFix p m c code 4 s #[Value.ref b] TB RL) (hX : va_X b 6 xs s s.heap) (hbl : b < s.heap.size) (hbA : ¬ B ≤ b) (w : Wd D B cy s s.heap M0 H locs) (hl : lv_has ls 4 [(3, .int 0), (2, .ref (B + 146)), (1, .ref (B + 0)), (0, .ref b)]) (x1 : xs 1 = 0) (h0 : (xs 2).toInt < 0 ∨ 8 < (xs 2).toInt) (kk : ∀ (M1 : Mem) (H1 : Heap) (locs1 : List Loc), Wd D B cy s s.heap M1 H1 locs1 → W p l e room_1 s m #[Value.ref b] below meth c H1 locs1 159 13107 Q (F0 m 1065 ls [])) : W p l e room_1 s m #[Value.ref b] below meth c H locs 159 13107 Q (F0 m 643 ls []) := by
  have hx := F.1
  have hb := F.2.1
  refine lv_aload_n hx hb dL_law_643 rfl (lv_at hl 2 rfl) ?_
  refine lv_aload_n hx hb dL_law_644 rfl (lv_at hl 3 rfl) ?_
  refine lv_iload_n hx hb dL_law_645 rfl (lv_at hl 0 rfl) ?_
  refine lv_iconst (v := 1) hx hb dL_law_646 (by decide) ?_
  refine lv_iadd hx hb dL_law_647 ?_
  refine r_val (v := 1) (by decide) ?_
  refine va_sld hx hb hX hbl hbA w.2.2.1 (vpi (by decide) (by decide)) dL_law_648 ?_
  refine r_val (v := 0) ((congrArg xs (show (1 : Int32).toNatClampNeg = 1 by decide)).trans x1) ?_
  refine lv_aload_n hx hb dL_law_649 rfl (lv_at hl 3 rfl) ?_
  refine lv_iload_n hx hb dL_law_650 rfl (lv_at hl 0 rfl) ?_
  refine lv_iconst (v := 2) hx hb dL_law_651 (by decide) ?_
  refine lv_iadd hx hb dL_law_652 ?_
  refine r_val (v := 2) (by decide) ?_
  refine va_sld hx hb hX hbl hbA w.2.2.1 (vpi (by decide) (by decide)) dL_law_653 ?_
  refine r_val (v := xs 2) (congrArg xs (show (2 : Int32).toNatClampNeg = 2 by decide)) ?_
  refine x_Vi F w (As := [.int 0, .int (xs 2)]) (rest := []) (a := 0) (by decide) (sh_11 rfl _ _) rfl (c_X11_has_223 (rfl) (rfl) h0) gv_L_82 hv_X11_has ⟨Nat.le_of_ble_eq_true rfl, Nat.le_of_ble_eq_true rfl⟩ hl.1 rfl (Nat.le_of_ble_eq_true rfl) ⟨Nat.le_of_ble_eq_true rfl, Nat.le_of_ble_eq_true rfl⟩ dL_law_654 (fun H locs w => ?_)
  refine lv_aload_n hx hb dL_law_657 rfl (lv_at hl 1 rfl) ?_
  refine lv_aload_n hx hb dL_law_658 rfl (lv_at hl 3 rfl) ?_
  refine lv_iload_n hx hb dL_law_659 rfl (lv_at hl 0 rfl) ?_
  refine lv_iconst (v := 1) hx hb dL_law_660 (by decide) ?_
  refine lv_iadd hx hb dL_law_661 ?_
  refine r_val (v := 1) (by decide) ?_
  refine va_sld hx hb hX hbl hbA w.2.2.1 (vpi (by decide) (by decide)) dL_law_662 ?_
  refine r_val (v := 0) ((congrArg xs (show (1 : Int32).toNatClampNeg = 1 by decide)).trans x1) ?_
  refine lv_aload_n hx hb dL_law_663 rfl (lv_at hl 3 rfl) ?_
  refine lv_iload_n hx hb dL_law_664 rfl (lv_at hl 0 rfl) ?_
  refine lv_iconst (v := 2) hx hb dL_law_665 (by decide) ?_
  refine lv_iadd hx hb dL_law_666 ?_
  refine r_val (v := 2) (by decide) ?_
  refine va_sld hx hb hX hbl hbA w.2.2.1 (vpi (by decide) (by decide)) dL_law_667 ?_
  refine r_val (v := xs 2) (congrArg xs (show (2 : Int32).toNatClampNeg = 2 by decide)) ?_
  refine x_Vi F w (As := [.int 0, .int (xs 2)]) (rest := [.int (-1)]) (a := 146) (by decide) (sh_12 rfl _ _) rfl (c_X12_has_225 (rfl) (rfl) (rfl) (rfl) (rfl) (rfl) (rfl) (rfl) (rfl) (rfl) (rfl) (rfl) (rfl) (rfl) (rfl) (rfl) (rfl) (rfl) (rfl) (rfl) (rfl) (rfl) (rfl) (rfl) (rfl) (rfl) (rfl) (rfl) (rfl) (rfl) (rfl) (rfl) (rfl) (rfl) (rfl) (rfl) (rfl) (rfl) (rfl) (rfl) (rfl) (rfl) (rfl) (rfl) (rfl) (rfl) (rfl) (rfl) (rfl) (rfl) (rfl) (rfl) (rfl) (rfl) (rfl) (rfl) (rfl) h0) gv_L_85 hv_X12_has ⟨Nat.le_of_ble_eq_true rfl, Nat.le_of_ble_eq_true rfl⟩ hl.1 rfl (Nat.le_of_ble_eq_true rfl) ⟨Nat.le_of_ble_eq_true rfl, Nat.le_of_ble_eq_true rfl⟩ dL_law_668 (fun H locs w => ?_)
  refine lv_icmp_eq (tgt := 1065) hx hb dL_law_671 (by decide) (fun _ => ?_) (fun c1 => absurd c1 (by decide))
  exact kk _ _ _ w
theorem dX11_has_72 : decode cX11_has 72 = .ok (.aload_n 3, 1) := by decide +kernel
theorem dX11_has_73 : decode cX11_has 73 = .ok (.getfield 100, 3) := by decide +kernel
theorem dX11_has_76 : decode cX11_has 76 = .ok (.ireturn, 1) := by decide +kernel
set_option maxRecDepth 4000 in
theorem c_X11_has_226 {l : Launch} {D : va_G} {B : Nat} {cy : Nat → ClassId} {M : Mem} (h0 : M.1 22 2 = 0) (h1 : M.1 22 7 = 0) (h2 : M.1 44 0 = 0) : Ci l D B cy yX11_has cX11_has 4 (some .int) 2 43 [.ref (B + 0), .int 0, .int 0] M (fun r M1 => r = 0 ∧ M1 = M) := by
  refine s_any (by decide) (Nat.le_of_ble_eq_true rfl) ?_
  intro p e s m below meth c ls F hr hlocks w hl
  have F : CallFix p m c cX11_has 4 s _ TB RX11 := F
  have hx := F.1
  have hb := F.2.1
  have hl : lv_has ls 4 [(0, .ref (B + 0)), (1, .int 0), (2, .int 0)] := hl
  refine lv_aload_n hx hb dX11_has_0 rfl (lv_at hl 0 rfl) ?_
  refine f_11_3 F w (a := 0) rfl tb_73 dX11_has_1 ?_
  refine lv_iload_n hx hb dX11_has_4 rfl (lv_at hl 1 rfl) ?_
  refine x_Vi F w (As := [.int 0]) (rest := []) (a := 22) (by decide) (sh_0 rfl _ _) rfl (c_X0_covers_206 (h0)) gv_X11_193 hv_X0_covers ⟨Nat.le_of_ble_eq_true rfl, Nat.le_of_ble_eq_true rfl⟩ hl.1 rfl (Nat.le_of_ble_eq_true rfl) ⟨Nat.zero_le _, Nat.zero_le _⟩ dX11_has_5 (fun H locs w => ?_)
  refine lv_if_ne (tgt := 13) hx hb dX11_has_8 (by decide) (fun _ => ?_) (fun c1 => absurd c1 (by decide))
  refine lv_aload_n hx hb dX11_has_13 rfl (lv_at hl 0 rfl) ?_
  refine f_11_3 F w (a := 0) rfl tb_73 dX11_has_14 ?_
  refine lv_iload_n hx hb dX11_has_17 rfl (lv_at hl 1 rfl) ?_
  refine x_Vr F w (As := [.int 0]) (rest := []) (a := 22) (by decide) (sh_0 rfl _ _) rfl (c_X0_stageOf_207 (h0) (h1)) gv_X11_196 hv_X0_stageOf ⟨Nat.le_of_ble_eq_true rfl, Nat.le_of_ble_eq_true rfl⟩ hl.1 rfl (Nat.le_of_ble_eq_true rfl) ⟨Nat.zero_le _, Nat.zero_le _⟩ dX11_has_18 (fun H locs w => ?_)
  refine lv_astore_n (lv' := [(3, .ref (B + 44)), (0, .ref (B + 0)), (1, .int 0), (2, .int 0)]) hx hb dX11_has_21 rfl hl (by decide) rfl (fun ls hl => ?_)
  refine lv_iload_n hx hb dX11_has_22 rfl (lv_at hl 3 rfl) ?_
  refine lv_tableIn (tgt := 72) hx hb dX11_has_23 (by decide) (by decide) (off := 49) rfl (by decide) ?_
  refine lv_aload_n hx hb dX11_has_72 rfl (lv_at hl 0 rfl) ?_
  refine f_9_0 F w (a := 44) rfl tb_260 dX11_has_73 ?_
  refine r_val (v := 0) (h2) ?_
  exact e_i F w hr hlocks ⟨rfl, rfl⟩ dX11_has_76
theorem dX12_has_60 : decode cX12_has 60 = .ok (.aload_n 0, 1) := by decide +kernel
theorem dX12_has_61 : decode cX12_has 61 = .ok (.getfield 17, 3) := by decide +kernel
theorem dX12_has_64 : decode cX12_has 64 = .ok (.iconst 0, 1) := by decide +kernel
theorem dX12_has_65 : decode cX12_has 65 = .ok (.iaload, 1) := by decide +kernel
theorem dX12_has_66 : decode cX12_has 66 = .ok (.ireturn, 1) := by decide +kernel
set_option maxRecDepth 4000 in
theorem c_X12_has_227 {l : Launch} {D : va_G} {B : Nat} {cy : Nat → ClassId} {M : Mem} (h0 : M.1 146 5 = 0) (h1 : M.1 147 0 = 0) (h2 : M.1 148 0 = 0) (h3 : M.1 147 1 = 0) (h4 : M.1 148 1 = 0) (h5 : M.1 147 2 = 0) (h6 : M.1 148 2 = 0) (h7 : M.1 147 3 = 0) (h8 : M.1 148 3 = 0) (h9 : M.1 147 4 = 0) (h10 : M.1 148 4 = 0) (h11 : M.1 147 5 = 0) (h12 : M.1 148 5 = 0) (h13 : M.1 147 6 = 0) (h14 : M.1 148 6 = 0) (h15 : M.1 147 7 = 0) (h16 : M.1 148 7 = 0) (h17 : M.1 147 8 = 0) (h18 : M.1 148 8 = 0) (h19 : M.1 147 9 = 0) (h20 : M.1 148 9 = 0) (h21 : M.1 147 10 = 0) (h22 : M.1 148 10 = 0) (h23 : M.1 147 11 = 0) (h24 : M.1 148 11 = 0) (h25 : M.1 147 12 = 0) (h26 : M.1 148 12 = 0) (h27 : M.1 147 13 = 0) (h28 : M.1 148 13 = 0) (h29 : M.1 147 14 = 0) (h30 : M.1 148 14 = 0) (h31 : M.1 147 15 = 0) (h32 : M.1 148 15 = 0) (h33 : M.1 147 16 = 0) (h34 : M.1 148 16 = 0) (h35 : M.1 147 17 = 0) (h36 : M.1 148 17 = 0) (h37 : M.1 147 18 = 0) (h38 : M.1 148 18 = 0) (h39 : M.1 147 19 = 0) (h40 : M.1 148 19 = 0) (h41 : M.1 147 20 = 0) (h42 : M.1 148 20 = 0) (h43 : M.1 147 21 = 0) (h44 : M.1 148 21 = 0) (h45 : M.1 147 22 = 0) (h46 : M.1 148 22 = 0) (h47 : M.1 147 23 = 0) (h48 : M.1 148 23 = 0) (h49 : M.1 147 24 = 0) (h50 : M.1 148 24 = 0) (h51 : M.1 147 25 = 0) (h52 : M.1 148 25 = 0) (h53 : M.1 147 26 = 0) (h54 : M.1 148 26 = 0) (h55 : M.1 147 27 = 0) (h56 : M.1 148 27 = 0) : Ci l D B cy yX12_has cX12_has 3 (some .int) 3 66 [.ref (B + 146), .int 0, .int 0] M (fun r M1 => r = 0 ∧ M1 = M) := by
  refine s_any (by decide) (Nat.le_of_ble_eq_true rfl) ?_
  intro p e s m below meth c ls F hr hlocks w hl
  have F : CallFix p m c cX12_has 3 s _ TB RX12 := F
  have hx := F.1
  have hb := F.2.1
  have hl : lv_has ls 3 [(0, .ref (B + 146)), (1, .int 0), (2, .int 0)] := hl
  refine lv_aload_n hx hb dX12_has_0 rfl (lv_at hl 0 rfl) ?_
  refine lv_iload_n hx hb dX12_has_1 rfl (lv_at hl 1 rfl) ?_
  refine x_Vi F w (As := [.int 0]) (rest := []) (a := 146) (by decide) (sh_12 rfl _ _) rfl (c_X12_lays_224 (h0) (h1) (h2) (h3) (h4) (h5) (h6) (h7) (h8) (h9) (h10) (h11) (h12) (h13) (h14) (h15) (h16) (h17) (h18) (h19) (h20) (h21) (h22) (h23) (h24) (h25) (h26) (h27) (h28) (h29) (h30) (h31) (h32) (h33) (h34) (h35) (h36) (h37) (h38) (h39) (h40) (h41) (h42) (h43) (h44) (h45) (h46) (h47) (h48) (h49) (h50) (h51) (h52) (h53) (h54) (h55) (h56)) gv_X12_261 hv_X12_lays ⟨Nat.le_of_ble_eq_true rfl, Nat.le_of_ble_eq_true rfl⟩ hl.1 rfl (Nat.le_of_ble_eq_true rfl) ⟨Nat.zero_le _, Nat.zero_le _⟩ dX12_has_2 (fun H locs w => ?_)
  refine lv_if_ne (tgt := 10) hx hb dX12_has_5 (by decide) (fun _ => ?_) (fun c1 => absurd c1 (by decide))
  refine lv_iload_n hx hb dX12_has_10 rfl (lv_at hl 2 rfl) ?_
  refine lv_tableIn (tgt := 60) hx hb dX12_has_11 (by decide) (by decide) (off := 49) rfl (by decide) ?_
  refine lv_aload_n hx hb dX12_has_60 rfl (lv_at hl 0 rfl) ?_
  refine f_12_2 F w (a := 146) rfl tb_127 dX12_has_61 ?_
  refine lv_iconst (v := 0) hx hb dX12_has_64 (by decide) ?_
  refine g_iald F w (a := 148) rfl (j := 0) ⟨by decide, by decide⟩ (by decide) dX12_has_65 ?_
  refine r_val (v := 0) (h2) ?_
  exact e_i F w hr hlocks ⟨rfl, rfl⟩ dX12_has_66
set_option maxRecDepth 8000 in
theorem la_15_43 {p : Program} {l : Launch} {e : Env} {s : State} {m : MethodId} {below : List Frame} {meth : Method} {c : Code} {D : va_G} {B b : Nat} {cy : Nat → ClassId} {H : Heap} {locs : List Loc} {ls : Array Slot} {xs : Nat → Int32} {Q : State → Prop} (F : CallFix p m c code 4 s #[Value.ref b] TB RL) (hX : va_X b 6 xs s s.heap) (hbl : b < s.heap.size) (hbA : ¬ B ≤ b) (w : Wd D B cy s s.heap M0 H locs) (hl : lv_has ls 4 [(3, .int 0), (2, .ref (B + 146)), (1, .ref (B + 0)), (0, .ref b)]) (x1 : xs 1 = 0) (x2 : xs 2 = 0) (kk : ∀ (M1 : Mem) (H1 : Heap) (locs1 : List Loc), Wd D B cy s s.heap M1 H1 locs1 → W p l e room_1 s m #[Value.ref b] below meth c H1 locs1 159 13107 Q (F0 m 1065 ls [])) : W p l e room_1 s m #[Value.ref b] below meth c H locs 159 13107 Q (F0 m 643 ls []) := by
  have hx := F.1
  have hb := F.2.1
  refine lv_aload_n hx hb dL_law_643 rfl (lv_at hl 2 rfl) ?_
  refine lv_aload_n hx hb dL_law_644 rfl (lv_at hl 3 rfl) ?_
  refine lv_iload_n hx hb dL_law_645 rfl (lv_at hl 0 rfl) ?_
  refine lv_iconst (v := 1) hx hb dL_law_646 (by decide) ?_
  refine lv_iadd hx hb dL_law_647 ?_
  refine r_val (v := 1) (by decide) ?_
  refine va_sld hx hb hX hbl hbA w.2.2.1 (vpi (by decide) (by decide)) dL_law_648 ?_
  refine r_val (v := 0) ((congrArg xs (show (1 : Int32).toNatClampNeg = 1 by decide)).trans x1) ?_
  refine lv_aload_n hx hb dL_law_649 rfl (lv_at hl 3 rfl) ?_
  refine lv_iload_n hx hb dL_law_650 rfl (lv_at hl 0 rfl) ?_
  refine lv_iconst (v := 2) hx hb dL_law_651 (by decide) ?_
  refine lv_iadd hx hb dL_law_652 ?_
  refine r_val (v := 2) (by decide) ?_
  refine va_sld hx hb hX hbl hbA w.2.2.1 (vpi (by decide) (by decide)) dL_law_653 ?_
  refine r_val (v := 0) ((congrArg xs (show (2 : Int32).toNatClampNeg = 2 by decide)).trans x2) ?_
  refine x_Vi F w (As := [.int 0, .int 0]) (rest := []) (a := 0) (by decide) (sh_11 rfl _ _) rfl (c_X11_has_226 (rfl) (rfl) (rfl)) gv_L_82 hv_X11_has ⟨Nat.le_of_ble_eq_true rfl, Nat.le_of_ble_eq_true rfl⟩ hl.1 rfl (Nat.le_of_ble_eq_true rfl) ⟨Nat.le_of_ble_eq_true rfl, Nat.le_of_ble_eq_true rfl⟩ dL_law_654 (fun H locs w => ?_)
  refine lv_aload_n hx hb dL_law_657 rfl (lv_at hl 1 rfl) ?_
  refine lv_aload_n hx hb dL_law_658 rfl (lv_at hl 3 rfl) ?_
  refine lv_iload_n hx hb dL_law_659 rfl (lv_at hl 0 rfl) ?_
  refine lv_iconst (v := 1) hx hb dL_law_660 (by decide) ?_
  refine lv_iadd hx hb dL_law_661 ?_
  refine r_val (v := 1) (by decide) ?_
  refine va_sld hx hb hX hbl hbA w.2.2.1 (vpi (by decide) (by decide)) dL_law_662 ?_
  refine r_val (v := 0) ((congrArg xs (show (1 : Int32).toNatClampNeg = 1 by decide)).trans x1) ?_
  refine lv_aload_n hx hb dL_law_663 rfl (lv_at hl 3 rfl) ?_
  refine lv_iload_n hx hb dL_law_664 rfl (lv_at hl 0 rfl) ?_
  refine lv_iconst (v := 2) hx hb dL_law_665 (by decide) ?_
  refine lv_iadd hx hb dL_law_666 ?_
  refine r_val (v := 2) (by decide) ?_
  refine va_sld hx hb hX hbl hbA w.2.2.1 (vpi (by decide) (by decide)) dL_law_667 ?_
  refine r_val (v := 0) ((congrArg xs (show (2 : Int32).toNatClampNeg = 2 by decide)).trans x2) ?_
  refine x_Vi F w (As := [.int 0, .int 0]) (rest := [.int 0]) (a := 146) (by decide) (sh_12 rfl _ _) rfl (c_X12_has_227 (rfl) (rfl) (rfl) (rfl) (rfl) (rfl) (rfl) (rfl) (rfl) (rfl) (rfl) (rfl) (rfl) (rfl) (rfl) (rfl) (rfl) (rfl) (rfl) (rfl) (rfl) (rfl) (rfl) (rfl) (rfl) (rfl) (rfl) (rfl) (rfl) (rfl) (rfl) (rfl) (rfl) (rfl) (rfl) (rfl) (rfl) (rfl) (rfl) (rfl) (rfl) (rfl) (rfl) (rfl) (rfl) (rfl) (rfl) (rfl) (rfl) (rfl) (rfl) (rfl) (rfl) (rfl) (rfl) (rfl) (rfl)) gv_L_85 hv_X12_has ⟨Nat.le_of_ble_eq_true rfl, Nat.le_of_ble_eq_true rfl⟩ hl.1 rfl (Nat.le_of_ble_eq_true rfl) ⟨Nat.le_of_ble_eq_true rfl, Nat.le_of_ble_eq_true rfl⟩ dL_law_668 (fun H locs w => ?_)
  refine lv_icmp_eq (tgt := 1065) hx hb dL_law_671 (by decide) (fun _ => ?_) (fun c1 => absurd c1 (by decide))
  exact kk _ _ _ w
theorem dX11_has_77 : decode cX11_has 77 = .ok (.aload_n 3, 1) := by decide +kernel
theorem dX11_has_78 : decode cX11_has 78 = .ok (.getfield 150, 3) := by decide +kernel
theorem dX11_has_81 : decode cX11_has 81 = .ok (.ireturn, 1) := by decide +kernel
set_option maxRecDepth 4000 in
theorem c_X11_has_228 {l : Launch} {D : va_G} {B : Nat} {cy : Nat → ClassId} {M : Mem} (h0 : M.1 22 2 = 0) (h1 : M.1 22 7 = 0) (h2 : M.1 44 1 = 0) : Ci l D B cy yX11_has cX11_has 4 (some .int) 2 43 [.ref (B + 0), .int 0, .int 1] M (fun r M1 => r = 0 ∧ M1 = M) := by
  refine s_any (by decide) (Nat.le_of_ble_eq_true rfl) ?_
  intro p e s m below meth c ls F hr hlocks w hl
  have F : CallFix p m c cX11_has 4 s _ TB RX11 := F
  have hx := F.1
  have hb := F.2.1
  have hl : lv_has ls 4 [(0, .ref (B + 0)), (1, .int 0), (2, .int 1)] := hl
  refine lv_aload_n hx hb dX11_has_0 rfl (lv_at hl 0 rfl) ?_
  refine f_11_3 F w (a := 0) rfl tb_73 dX11_has_1 ?_
  refine lv_iload_n hx hb dX11_has_4 rfl (lv_at hl 1 rfl) ?_
  refine x_Vi F w (As := [.int 0]) (rest := []) (a := 22) (by decide) (sh_0 rfl _ _) rfl (c_X0_covers_206 (h0)) gv_X11_193 hv_X0_covers ⟨Nat.le_of_ble_eq_true rfl, Nat.le_of_ble_eq_true rfl⟩ hl.1 rfl (Nat.le_of_ble_eq_true rfl) ⟨Nat.zero_le _, Nat.zero_le _⟩ dX11_has_5 (fun H locs w => ?_)
  refine lv_if_ne (tgt := 13) hx hb dX11_has_8 (by decide) (fun _ => ?_) (fun c1 => absurd c1 (by decide))
  refine lv_aload_n hx hb dX11_has_13 rfl (lv_at hl 0 rfl) ?_
  refine f_11_3 F w (a := 0) rfl tb_73 dX11_has_14 ?_
  refine lv_iload_n hx hb dX11_has_17 rfl (lv_at hl 1 rfl) ?_
  refine x_Vr F w (As := [.int 0]) (rest := []) (a := 22) (by decide) (sh_0 rfl _ _) rfl (c_X0_stageOf_207 (h0) (h1)) gv_X11_196 hv_X0_stageOf ⟨Nat.le_of_ble_eq_true rfl, Nat.le_of_ble_eq_true rfl⟩ hl.1 rfl (Nat.le_of_ble_eq_true rfl) ⟨Nat.zero_le _, Nat.zero_le _⟩ dX11_has_18 (fun H locs w => ?_)
  refine lv_astore_n (lv' := [(3, .ref (B + 44)), (0, .ref (B + 0)), (1, .int 0), (2, .int 1)]) hx hb dX11_has_21 rfl hl (by decide) rfl (fun ls hl => ?_)
  refine lv_iload_n hx hb dX11_has_22 rfl (lv_at hl 3 rfl) ?_
  refine lv_tableIn (tgt := 77) hx hb dX11_has_23 (by decide) (by decide) (off := 54) rfl (by decide) ?_
  refine lv_aload_n hx hb dX11_has_77 rfl (lv_at hl 0 rfl) ?_
  refine f_9_1 F w (a := 44) rfl tb_302 dX11_has_78 ?_
  refine r_val (v := 0) (h2) ?_
  exact e_i F w hr hlocks ⟨rfl, rfl⟩ dX11_has_81
theorem dX12_has_67 : decode cX12_has 67 = .ok (.aload_n 0, 1) := by decide +kernel
theorem dX12_has_68 : decode cX12_has 68 = .ok (.getfield 17, 3) := by decide +kernel
theorem dX12_has_71 : decode cX12_has 71 = .ok (.bipush 25, 2) := by decide +kernel
theorem dX12_has_73 : decode cX12_has 73 = .ok (.iaload, 1) := by decide +kernel
theorem dX12_has_74 : decode cX12_has 74 = .ok (.ireturn, 1) := by decide +kernel
set_option maxRecDepth 4000 in
theorem c_X12_has_229 {l : Launch} {D : va_G} {B : Nat} {cy : Nat → ClassId} {M : Mem} (h0 : M.1 146 5 = 0) (h1 : M.1 147 0 = 0) (h2 : M.1 148 0 = 0) (h3 : M.1 147 1 = 0) (h4 : M.1 148 1 = 0) (h5 : M.1 147 2 = 0) (h6 : M.1 148 2 = 0) (h7 : M.1 147 3 = 0) (h8 : M.1 148 3 = 0) (h9 : M.1 147 4 = 0) (h10 : M.1 148 4 = 0) (h11 : M.1 147 5 = 0) (h12 : M.1 148 5 = 0) (h13 : M.1 147 6 = 0) (h14 : M.1 148 6 = 0) (h15 : M.1 147 7 = 0) (h16 : M.1 148 7 = 0) (h17 : M.1 147 8 = 0) (h18 : M.1 148 8 = 0) (h19 : M.1 147 9 = 0) (h20 : M.1 148 9 = 0) (h21 : M.1 147 10 = 0) (h22 : M.1 148 10 = 0) (h23 : M.1 147 11 = 0) (h24 : M.1 148 11 = 0) (h25 : M.1 147 12 = 0) (h26 : M.1 148 12 = 0) (h27 : M.1 147 13 = 0) (h28 : M.1 148 13 = 0) (h29 : M.1 147 14 = 0) (h30 : M.1 148 14 = 0) (h31 : M.1 147 15 = 0) (h32 : M.1 148 15 = 0) (h33 : M.1 147 16 = 0) (h34 : M.1 148 16 = 0) (h35 : M.1 147 17 = 0) (h36 : M.1 148 17 = 0) (h37 : M.1 147 18 = 0) (h38 : M.1 148 18 = 0) (h39 : M.1 147 19 = 0) (h40 : M.1 148 19 = 0) (h41 : M.1 147 20 = 0) (h42 : M.1 148 20 = 0) (h43 : M.1 147 21 = 0) (h44 : M.1 148 21 = 0) (h45 : M.1 147 22 = 0) (h46 : M.1 148 22 = 0) (h47 : M.1 147 23 = 0) (h48 : M.1 148 23 = 0) (h49 : M.1 147 24 = 0) (h50 : M.1 148 24 = 0) (h51 : M.1 147 25 = 0) (h52 : M.1 148 25 = 0) (h53 : M.1 147 26 = 0) (h54 : M.1 148 26 = 0) (h55 : M.1 147 27 = 0) (h56 : M.1 148 27 = 0) : Ci l D B cy yX12_has cX12_has 3 (some .int) 3 66 [.ref (B + 146), .int 0, .int 1] M (fun r M1 => r = 0 ∧ M1 = M) := by
  refine s_any (by decide) (Nat.le_of_ble_eq_true rfl) ?_
  intro p e s m below meth c ls F hr hlocks w hl
  have F : CallFix p m c cX12_has 3 s _ TB RX12 := F
  have hx := F.1
  have hb := F.2.1
  have hl : lv_has ls 3 [(0, .ref (B + 146)), (1, .int 0), (2, .int 1)] := hl
  refine lv_aload_n hx hb dX12_has_0 rfl (lv_at hl 0 rfl) ?_
  refine lv_iload_n hx hb dX12_has_1 rfl (lv_at hl 1 rfl) ?_
  refine x_Vi F w (As := [.int 0]) (rest := []) (a := 146) (by decide) (sh_12 rfl _ _) rfl (c_X12_lays_224 (h0) (h1) (h2) (h3) (h4) (h5) (h6) (h7) (h8) (h9) (h10) (h11) (h12) (h13) (h14) (h15) (h16) (h17) (h18) (h19) (h20) (h21) (h22) (h23) (h24) (h25) (h26) (h27) (h28) (h29) (h30) (h31) (h32) (h33) (h34) (h35) (h36) (h37) (h38) (h39) (h40) (h41) (h42) (h43) (h44) (h45) (h46) (h47) (h48) (h49) (h50) (h51) (h52) (h53) (h54) (h55) (h56)) gv_X12_261 hv_X12_lays ⟨Nat.le_of_ble_eq_true rfl, Nat.le_of_ble_eq_true rfl⟩ hl.1 rfl (Nat.le_of_ble_eq_true rfl) ⟨Nat.zero_le _, Nat.zero_le _⟩ dX12_has_2 (fun H locs w => ?_)
  refine lv_if_ne (tgt := 10) hx hb dX12_has_5 (by decide) (fun _ => ?_) (fun c1 => absurd c1 (by decide))
  refine lv_iload_n hx hb dX12_has_10 rfl (lv_at hl 2 rfl) ?_
  refine lv_tableIn (tgt := 67) hx hb dX12_has_11 (by decide) (by decide) (off := 56) rfl (by decide) ?_
  refine lv_aload_n hx hb dX12_has_67 rfl (lv_at hl 0 rfl) ?_
  refine f_12_2 F w (a := 146) rfl tb_127 dX12_has_68 ?_
  refine lv_bipush (v := 25) hx hb dX12_has_71 (by decide) ?_
  refine g_iald F w (a := 148) rfl (j := 25) ⟨by decide, by decide⟩ (by decide) dX12_has_73 ?_
  refine r_val (v := 0) (h52) ?_
  exact e_i F w hr hlocks ⟨rfl, rfl⟩ dX12_has_74
set_option maxRecDepth 8000 in
theorem la_15_44 {p : Program} {l : Launch} {e : Env} {s : State} {m : MethodId} {below : List Frame} {meth : Method} {c : Code} {D : va_G} {B b : Nat} {cy : Nat → ClassId} {H : Heap} {locs : List Loc} {ls : Array Slot} {xs : Nat → Int32} {Q : State → Prop} (F : CallFix p m c code 4 s #[Value.ref b] TB RL) (hX : va_X b 6 xs s s.heap) (hbl : b < s.heap.size) (hbA : ¬ B ≤ b) (w : Wd D B cy s s.heap M0 H locs) (hl : lv_has ls 4 [(3, .int 0), (2, .ref (B + 146)), (1, .ref (B + 0)), (0, .ref b)]) (x1 : xs 1 = 0) (x2 : xs 2 = 1) (kk : ∀ (M1 : Mem) (H1 : Heap) (locs1 : List Loc), Wd D B cy s s.heap M1 H1 locs1 → W p l e room_1 s m #[Value.ref b] below meth c H1 locs1 159 13107 Q (F0 m 1065 ls [])) : W p l e room_1 s m #[Value.ref b] below meth c H locs 159 13107 Q (F0 m 643 ls []) := by
  have hx := F.1
  have hb := F.2.1
  refine lv_aload_n hx hb dL_law_643 rfl (lv_at hl 2 rfl) ?_
  refine lv_aload_n hx hb dL_law_644 rfl (lv_at hl 3 rfl) ?_
  refine lv_iload_n hx hb dL_law_645 rfl (lv_at hl 0 rfl) ?_
  refine lv_iconst (v := 1) hx hb dL_law_646 (by decide) ?_
  refine lv_iadd hx hb dL_law_647 ?_
  refine r_val (v := 1) (by decide) ?_
  refine va_sld hx hb hX hbl hbA w.2.2.1 (vpi (by decide) (by decide)) dL_law_648 ?_
  refine r_val (v := 0) ((congrArg xs (show (1 : Int32).toNatClampNeg = 1 by decide)).trans x1) ?_
  refine lv_aload_n hx hb dL_law_649 rfl (lv_at hl 3 rfl) ?_
  refine lv_iload_n hx hb dL_law_650 rfl (lv_at hl 0 rfl) ?_
  refine lv_iconst (v := 2) hx hb dL_law_651 (by decide) ?_
  refine lv_iadd hx hb dL_law_652 ?_
  refine r_val (v := 2) (by decide) ?_
  refine va_sld hx hb hX hbl hbA w.2.2.1 (vpi (by decide) (by decide)) dL_law_653 ?_
  refine r_val (v := 1) ((congrArg xs (show (2 : Int32).toNatClampNeg = 2 by decide)).trans x2) ?_
  refine x_Vi F w (As := [.int 0, .int 1]) (rest := []) (a := 0) (by decide) (sh_11 rfl _ _) rfl (c_X11_has_228 (rfl) (rfl) (rfl)) gv_L_82 hv_X11_has ⟨Nat.le_of_ble_eq_true rfl, Nat.le_of_ble_eq_true rfl⟩ hl.1 rfl (Nat.le_of_ble_eq_true rfl) ⟨Nat.le_of_ble_eq_true rfl, Nat.le_of_ble_eq_true rfl⟩ dL_law_654 (fun H locs w => ?_)
  refine lv_aload_n hx hb dL_law_657 rfl (lv_at hl 1 rfl) ?_
  refine lv_aload_n hx hb dL_law_658 rfl (lv_at hl 3 rfl) ?_
  refine lv_iload_n hx hb dL_law_659 rfl (lv_at hl 0 rfl) ?_
  refine lv_iconst (v := 1) hx hb dL_law_660 (by decide) ?_
  refine lv_iadd hx hb dL_law_661 ?_
  refine r_val (v := 1) (by decide) ?_
  refine va_sld hx hb hX hbl hbA w.2.2.1 (vpi (by decide) (by decide)) dL_law_662 ?_
  refine r_val (v := 0) ((congrArg xs (show (1 : Int32).toNatClampNeg = 1 by decide)).trans x1) ?_
  refine lv_aload_n hx hb dL_law_663 rfl (lv_at hl 3 rfl) ?_
  refine lv_iload_n hx hb dL_law_664 rfl (lv_at hl 0 rfl) ?_
  refine lv_iconst (v := 2) hx hb dL_law_665 (by decide) ?_
  refine lv_iadd hx hb dL_law_666 ?_
  refine r_val (v := 2) (by decide) ?_
  refine va_sld hx hb hX hbl hbA w.2.2.1 (vpi (by decide) (by decide)) dL_law_667 ?_
  refine r_val (v := 1) ((congrArg xs (show (2 : Int32).toNatClampNeg = 2 by decide)).trans x2) ?_
  refine x_Vi F w (As := [.int 0, .int 1]) (rest := [.int 0]) (a := 146) (by decide) (sh_12 rfl _ _) rfl (c_X12_has_229 (rfl) (rfl) (rfl) (rfl) (rfl) (rfl) (rfl) (rfl) (rfl) (rfl) (rfl) (rfl) (rfl) (rfl) (rfl) (rfl) (rfl) (rfl) (rfl) (rfl) (rfl) (rfl) (rfl) (rfl) (rfl) (rfl) (rfl) (rfl) (rfl) (rfl) (rfl) (rfl) (rfl) (rfl) (rfl) (rfl) (rfl) (rfl) (rfl) (rfl) (rfl) (rfl) (rfl) (rfl) (rfl) (rfl) (rfl) (rfl) (rfl) (rfl) (rfl) (rfl) (rfl) (rfl) (rfl) (rfl) (rfl)) gv_L_85 hv_X12_has ⟨Nat.le_of_ble_eq_true rfl, Nat.le_of_ble_eq_true rfl⟩ hl.1 rfl (Nat.le_of_ble_eq_true rfl) ⟨Nat.le_of_ble_eq_true rfl, Nat.le_of_ble_eq_true rfl⟩ dL_law_668 (fun H locs w => ?_)
  refine lv_icmp_eq (tgt := 1065) hx hb dL_law_671 (by decide) (fun _ => ?_) (fun c1 => absurd c1 (by decide))
  exact kk _ _ _ w
theorem dX11_has_82 : decode cX11_has 82 = .ok (.aload_n 3, 1) := by decide +kernel
theorem dX11_has_83 : decode cX11_has 83 = .ok (.invokevirtual 207, 3) := by decide +kernel
theorem dX9_lineCount_0 : decode cX9_lineCount 0 = .ok (.iconst 0, 1) := by decide +kernel
theorem dX9_lineCount_1 : decode cX9_lineCount 1 = .ok (.istore_n 1, 1) := by decide +kernel
theorem dX9_lineCount_2 : decode cX9_lineCount 2 = .ok (.iconst 0, 1) := by decide +kernel
theorem dX9_lineCount_3 : decode cX9_lineCount 3 = .ok (.istore_n 2, 1) := by decide +kernel
theorem dX9_lineCount_4 : decode cX9_lineCount 4 = .ok (.iload_n 2, 1) := by decide +kernel
theorem dX9_lineCount_5 : decode cX9_lineCount 5 = .ok (.aload_n 0, 1) := by decide +kernel
theorem dX9_lineCount_6 : decode cX9_lineCount 6 = .ok (.getfield 9, 3) := by decide +kernel
theorem dX9_lineCount_9 : decode cX9_lineCount 9 = .ok (.if_icmp .ge 21, 3) := by decide +kernel
theorem dX9_lineCount_30 : decode cX9_lineCount 30 = .ok (.iload_n 1, 1) := by decide +kernel
theorem dX9_lineCount_31 : decode cX9_lineCount 31 = .ok (.ireturn, 1) := by decide +kernel
set_option maxRecDepth 4000 in
theorem c_X9_lineCount_230 {l : Launch} {D : va_G} {B : Nat} {cy : Nat → ClassId} {M : Mem} (h0 : M.1 44 0 = 0) : Ci l D B cy yX9_lineCount cX9_lineCount 3 (some .int) 0 0 [.ref (B + 44)] M (fun r M1 => r = 0 ∧ M1 = M) := by
  refine s_any (by decide) (Nat.le_of_ble_eq_true rfl) ?_
  intro p e s m below meth c ls F hr hlocks w hl
  have F : CallFix p m c cX9_lineCount 3 s _ TB RX9 := F
  have hx := F.1
  have hb := F.2.1
  have hl : lv_has ls 3 [(0, .ref (B + 44))] := hl
  refine lv_iconst (v := 0) hx hb dX9_lineCount_0 (by decide) ?_
  refine lv_istore_n (lv' := [(1, .int 0), (0, .ref (B + 44))]) hx hb dX9_lineCount_1 rfl hl (by decide) rfl (fun ls hl => ?_)
  refine lv_iconst (v := 0) hx hb dX9_lineCount_2 (by decide) ?_
  refine lv_istore_n (lv' := [(2, .int 0), (1, .int 0), (0, .ref (B + 44))]) hx hb dX9_lineCount_3 rfl hl (by decide) rfl (fun ls hl => ?_)
  refine lv_iload_n hx hb dX9_lineCount_4 rfl (lv_at hl 0 rfl) ?_
  refine lv_aload_n hx hb dX9_lineCount_5 rfl (lv_at hl 2 rfl) ?_
  refine f_9_0 F w (a := 44) rfl tb_63 dX9_lineCount_6 ?_
  refine r_val (v := 0) (h0) ?_
  refine lv_icmp_ge (tgt := 30) hx hb dX9_lineCount_9 (by decide) (fun _ => ?_) (fun c1 => absurd c1 (by decide))
  refine lv_iload_n hx hb dX9_lineCount_30 rfl (lv_at hl 1 rfl) ?_
  exact e_i F w hr hlocks ⟨rfl, rfl⟩ dX9_lineCount_31
theorem tk_X9_lineCount : Cond.code yX9_lineCount cX9_lineCount 3 (some .int) ∈ TB := tbm (tc4 (List.mem_of_getElem? (i := 128) rfl)) rfl
theorem gc_X9_lineCount : GoodIn TB (cw yX9_lineCount cX9_lineCount 3 (some .int)) := goodIn_c2 tk_X9_lineCount
theorem tb_390 : Cond.methodLink "ToneLines" 207 yX9_lineCount ∈ TB := tbm (tc4 (List.mem_of_getElem? (i := 125) rfl)) rfl
theorem tb_391 : Cond.instanceMethod yX9_lineCount ∈ TB := tbm (tc4 (List.mem_of_getElem? (i := 126) rfl)) rfl
theorem tb_392 : Cond.selects "ToneLines$Word" yX9_lineCount yX9_lineCount ∈ TB := tbm (tc4 (List.mem_of_getElem? (i := 127) rfl)) rfl
theorem gv_X11_207 : GoodIn TB (wsV RX11 207 RX9 yX9_lineCount (cw yX9_lineCount cX9_lineCount 3 (some .int))) := goodIn_4 tb_390 tb_391 tb_392 tb_61 gc_X9_lineCount
theorem hv_X9_lineCount : yX9_lineCount.cls = RX9 ∧ yX9_lineCount.cls ≠ "java/lang/invoke/MethodHandle" ∧ yX9_lineCount.cls ≠ "java/lang/invoke/VarHandle" ∧ (parseMethodDescriptor yX9_lineCount.desc).map (fun d => d.parameters.length) = some 0 := by decide +kernel
theorem dX11_has_86 : decode cX11_has 86 = .ok (.ireturn, 1) := by decide +kernel
set_option maxRecDepth 4000 in
theorem c_X11_has_231 {l : Launch} {D : va_G} {B : Nat} {cy : Nat → ClassId} {M : Mem} (h0 : M.1 22 2 = 0) (h1 : M.1 22 7 = 0) (h2 : M.1 44 0 = 0) : Ci l D B cy yX11_has cX11_has 4 (some .int) 2 43 [.ref (B + 0), .int 0, .int 2] M (fun r M1 => r = 0 ∧ M1 = M) := by
  refine s_any (by decide) (Nat.le_of_ble_eq_true rfl) ?_
  intro p e s m below meth c ls F hr hlocks w hl
  have F : CallFix p m c cX11_has 4 s _ TB RX11 := F
  have hx := F.1
  have hb := F.2.1
  have hl : lv_has ls 4 [(0, .ref (B + 0)), (1, .int 0), (2, .int 2)] := hl
  refine lv_aload_n hx hb dX11_has_0 rfl (lv_at hl 0 rfl) ?_
  refine f_11_3 F w (a := 0) rfl tb_73 dX11_has_1 ?_
  refine lv_iload_n hx hb dX11_has_4 rfl (lv_at hl 1 rfl) ?_
  refine x_Vi F w (As := [.int 0]) (rest := []) (a := 22) (by decide) (sh_0 rfl _ _) rfl (c_X0_covers_206 (h0)) gv_X11_193 hv_X0_covers ⟨Nat.le_of_ble_eq_true rfl, Nat.le_of_ble_eq_true rfl⟩ hl.1 rfl (Nat.le_of_ble_eq_true rfl) ⟨Nat.zero_le _, Nat.zero_le _⟩ dX11_has_5 (fun H locs w => ?_)
  refine lv_if_ne (tgt := 13) hx hb dX11_has_8 (by decide) (fun _ => ?_) (fun c1 => absurd c1 (by decide))
  refine lv_aload_n hx hb dX11_has_13 rfl (lv_at hl 0 rfl) ?_
  refine f_11_3 F w (a := 0) rfl tb_73 dX11_has_14 ?_
  refine lv_iload_n hx hb dX11_has_17 rfl (lv_at hl 1 rfl) ?_
  refine x_Vr F w (As := [.int 0]) (rest := []) (a := 22) (by decide) (sh_0 rfl _ _) rfl (c_X0_stageOf_207 (h0) (h1)) gv_X11_196 hv_X0_stageOf ⟨Nat.le_of_ble_eq_true rfl, Nat.le_of_ble_eq_true rfl⟩ hl.1 rfl (Nat.le_of_ble_eq_true rfl) ⟨Nat.zero_le _, Nat.zero_le _⟩ dX11_has_18 (fun H locs w => ?_)
  refine lv_astore_n (lv' := [(3, .ref (B + 44)), (0, .ref (B + 0)), (1, .int 0), (2, .int 2)]) hx hb dX11_has_21 rfl hl (by decide) rfl (fun ls hl => ?_)
  refine lv_iload_n hx hb dX11_has_22 rfl (lv_at hl 3 rfl) ?_
  refine lv_tableIn (tgt := 82) hx hb dX11_has_23 (by decide) (by decide) (off := 59) rfl (by decide) ?_
  refine lv_aload_n hx hb dX11_has_82 rfl (lv_at hl 0 rfl) ?_
  refine x_Vi F w (As := []) (rest := []) (a := 44) (by decide) (sh_9 rfl _ _) rfl (c_X9_lineCount_230 (h2)) gv_X11_207 hv_X9_lineCount ⟨Nat.le_of_ble_eq_true rfl, Nat.le_of_ble_eq_true rfl⟩ hl.1 rfl (Nat.le_of_ble_eq_true rfl) ⟨Nat.zero_le _, Nat.zero_le _⟩ dX11_has_83 (fun H locs w => ?_)
  exact e_i F w hr hlocks ⟨rfl, rfl⟩ dX11_has_86
theorem dX12_has_75 : decode cX12_has 75 = .ok (.aload_n 0, 1) := by decide +kernel
theorem dX12_has_76 : decode cX12_has 76 = .ok (.invokevirtual 264, 3) := by decide +kernel
theorem dX12_lines_0 : decode cX12_lines 0 = .ok (.iconst 0, 1) := by decide +kernel
theorem dX12_lines_1 : decode cX12_lines 1 = .ok (.istore_n 1, 1) := by decide +kernel
theorem dX12_lines_2 : decode cX12_lines 2 = .ok (.iconst 0, 1) := by decide +kernel
theorem dX12_lines_3 : decode cX12_lines 3 = .ok (.istore_n 2, 1) := by decide +kernel
theorem dX12_lines_4 : decode cX12_lines 4 = .ok (.iload_n 2, 1) := by decide +kernel
theorem dX12_lines_5 : decode cX12_lines 5 = .ok (.aload_n 0, 1) := by decide +kernel
theorem dX12_lines_6 : decode cX12_lines 6 = .ok (.getfield 17, 3) := by decide +kernel
theorem dX12_lines_9 : decode cX12_lines 9 = .ok (.iconst 0, 1) := by decide +kernel
theorem dX12_lines_10 : decode cX12_lines 10 = .ok (.iaload, 1) := by decide +kernel
theorem dX12_lines_11 : decode cX12_lines 11 = .ok (.if_icmp .ge 24, 3) := by decide +kernel
theorem dX12_lines_35 : decode cX12_lines 35 = .ok (.iload_n 1, 1) := by decide +kernel
theorem dX12_lines_36 : decode cX12_lines 36 = .ok (.ireturn, 1) := by decide +kernel
set_option maxRecDepth 4000 in
theorem c_X12_lines_232 {l : Launch} {D : va_G} {B : Nat} {cy : Nat → ClassId} {M : Mem} (h0 : M.1 148 0 = 0) : Ci l D B cy yX12_lines cX12_lines 3 (some .int) 0 0 [.ref (B + 146)] M (fun r M1 => r = 0 ∧ M1 = M) := by
  refine s_any (by decide) (Nat.le_of_ble_eq_true rfl) ?_
  intro p e s m below meth c ls F hr hlocks w hl
  have F : CallFix p m c cX12_lines 3 s _ TB RX12 := F
  have hx := F.1
  have hb := F.2.1
  have hl : lv_has ls 3 [(0, .ref (B + 146))] := hl
  refine lv_iconst (v := 0) hx hb dX12_lines_0 (by decide) ?_
  refine lv_istore_n (lv' := [(1, .int 0), (0, .ref (B + 146))]) hx hb dX12_lines_1 rfl hl (by decide) rfl (fun ls hl => ?_)
  refine lv_iconst (v := 0) hx hb dX12_lines_2 (by decide) ?_
  refine lv_istore_n (lv' := [(2, .int 0), (1, .int 0), (0, .ref (B + 146))]) hx hb dX12_lines_3 rfl hl (by decide) rfl (fun ls hl => ?_)
  refine lv_iload_n hx hb dX12_lines_4 rfl (lv_at hl 0 rfl) ?_
  refine lv_aload_n hx hb dX12_lines_5 rfl (lv_at hl 2 rfl) ?_
  refine f_12_2 F w (a := 146) rfl tb_127 dX12_lines_6 ?_
  refine lv_iconst (v := 0) hx hb dX12_lines_9 (by decide) ?_
  refine g_iald F w (a := 148) rfl (j := 0) ⟨by decide, by decide⟩ (by decide) dX12_lines_10 ?_
  refine r_val (v := 0) (h0) ?_
  refine lv_icmp_ge (tgt := 35) hx hb dX12_lines_11 (by decide) (fun _ => ?_) (fun c1 => absurd c1 (by decide))
  refine lv_iload_n hx hb dX12_lines_35 rfl (lv_at hl 1 rfl) ?_
  exact e_i F w hr hlocks ⟨rfl, rfl⟩ dX12_lines_36
theorem tk_X12_lines : Cond.code yX12_lines cX12_lines 3 (some .int) ∈ TB := tbm (tc6 (List.mem_of_getElem? (i := 157) rfl)) rfl
theorem gc_X12_lines : GoodIn TB (cw yX12_lines cX12_lines 3 (some .int)) := goodIn_c2 tk_X12_lines
theorem tb_393 : Cond.methodLink "ToneLinesModel" 264 yX12_lines ∈ TB := tbm (tc6 (List.mem_of_getElem? (i := 154) rfl)) rfl
theorem tb_394 : Cond.instanceMethod yX12_lines ∈ TB := tbm (tc6 (List.mem_of_getElem? (i := 156) rfl)) rfl
theorem tb_395 : Cond.selects "ToneLinesModel" yX12_lines yX12_lines ∈ TB := tbp (List.mem_of_getElem? (i := 73) rfl) rfl
theorem gv_X12_264 : GoodIn TB (wsV RX12 264 RX12 yX12_lines (cw yX12_lines cX12_lines 3 (some .int))) := goodIn_4 tb_393 tb_394 tb_395 tb_150 gc_X12_lines
theorem hv_X12_lines : yX12_lines.cls = RX12 ∧ yX12_lines.cls ≠ "java/lang/invoke/MethodHandle" ∧ yX12_lines.cls ≠ "java/lang/invoke/VarHandle" ∧ (parseMethodDescriptor yX12_lines.desc).map (fun d => d.parameters.length) = some 0 := by decide +kernel
theorem dX12_has_79 : decode cX12_has 79 = .ok (.ireturn, 1) := by decide +kernel
set_option maxRecDepth 4000 in
theorem c_X12_has_233 {l : Launch} {D : va_G} {B : Nat} {cy : Nat → ClassId} {M : Mem} (h0 : M.1 146 5 = 0) (h1 : M.1 147 0 = 0) (h2 : M.1 148 0 = 0) (h3 : M.1 147 1 = 0) (h4 : M.1 148 1 = 0) (h5 : M.1 147 2 = 0) (h6 : M.1 148 2 = 0) (h7 : M.1 147 3 = 0) (h8 : M.1 148 3 = 0) (h9 : M.1 147 4 = 0) (h10 : M.1 148 4 = 0) (h11 : M.1 147 5 = 0) (h12 : M.1 148 5 = 0) (h13 : M.1 147 6 = 0) (h14 : M.1 148 6 = 0) (h15 : M.1 147 7 = 0) (h16 : M.1 148 7 = 0) (h17 : M.1 147 8 = 0) (h18 : M.1 148 8 = 0) (h19 : M.1 147 9 = 0) (h20 : M.1 148 9 = 0) (h21 : M.1 147 10 = 0) (h22 : M.1 148 10 = 0) (h23 : M.1 147 11 = 0) (h24 : M.1 148 11 = 0) (h25 : M.1 147 12 = 0) (h26 : M.1 148 12 = 0) (h27 : M.1 147 13 = 0) (h28 : M.1 148 13 = 0) (h29 : M.1 147 14 = 0) (h30 : M.1 148 14 = 0) (h31 : M.1 147 15 = 0) (h32 : M.1 148 15 = 0) (h33 : M.1 147 16 = 0) (h34 : M.1 148 16 = 0) (h35 : M.1 147 17 = 0) (h36 : M.1 148 17 = 0) (h37 : M.1 147 18 = 0) (h38 : M.1 148 18 = 0) (h39 : M.1 147 19 = 0) (h40 : M.1 148 19 = 0) (h41 : M.1 147 20 = 0) (h42 : M.1 148 20 = 0) (h43 : M.1 147 21 = 0) (h44 : M.1 148 21 = 0) (h45 : M.1 147 22 = 0) (h46 : M.1 148 22 = 0) (h47 : M.1 147 23 = 0) (h48 : M.1 148 23 = 0) (h49 : M.1 147 24 = 0) (h50 : M.1 148 24 = 0) (h51 : M.1 147 25 = 0) (h52 : M.1 148 25 = 0) (h53 : M.1 147 26 = 0) (h54 : M.1 148 26 = 0) (h55 : M.1 147 27 = 0) (h56 : M.1 148 27 = 0) : Ci l D B cy yX12_has cX12_has 3 (some .int) 3 66 [.ref (B + 146), .int 0, .int 2] M (fun r M1 => r = 0 ∧ M1 = M) := by
  refine s_any (by decide) (Nat.le_of_ble_eq_true rfl) ?_
  intro p e s m below meth c ls F hr hlocks w hl
  have F : CallFix p m c cX12_has 3 s _ TB RX12 := F
  have hx := F.1
  have hb := F.2.1
  have hl : lv_has ls 3 [(0, .ref (B + 146)), (1, .int 0), (2, .int 2)] := hl
  refine lv_aload_n hx hb dX12_has_0 rfl (lv_at hl 0 rfl) ?_
  refine lv_iload_n hx hb dX12_has_1 rfl (lv_at hl 1 rfl) ?_
  refine x_Vi F w (As := [.int 0]) (rest := []) (a := 146) (by decide) (sh_12 rfl _ _) rfl (c_X12_lays_224 (h0) (h1) (h2) (h3) (h4) (h5) (h6) (h7) (h8) (h9) (h10) (h11) (h12) (h13) (h14) (h15) (h16) (h17) (h18) (h19) (h20) (h21) (h22) (h23) (h24) (h25) (h26) (h27) (h28) (h29) (h30) (h31) (h32) (h33) (h34) (h35) (h36) (h37) (h38) (h39) (h40) (h41) (h42) (h43) (h44) (h45) (h46) (h47) (h48) (h49) (h50) (h51) (h52) (h53) (h54) (h55) (h56)) gv_X12_261 hv_X12_lays ⟨Nat.le_of_ble_eq_true rfl, Nat.le_of_ble_eq_true rfl⟩ hl.1 rfl (Nat.le_of_ble_eq_true rfl) ⟨Nat.zero_le _, Nat.zero_le _⟩ dX12_has_2 (fun H locs w => ?_)
  refine lv_if_ne (tgt := 10) hx hb dX12_has_5 (by decide) (fun _ => ?_) (fun c1 => absurd c1 (by decide))
  refine lv_iload_n hx hb dX12_has_10 rfl (lv_at hl 2 rfl) ?_
  refine lv_tableIn (tgt := 75) hx hb dX12_has_11 (by decide) (by decide) (off := 64) rfl (by decide) ?_
  refine lv_aload_n hx hb dX12_has_75 rfl (lv_at hl 0 rfl) ?_
  refine x_Vi F w (As := []) (rest := []) (a := 146) (by decide) (sh_12 rfl _ _) rfl (c_X12_lines_232 (h2)) gv_X12_264 hv_X12_lines ⟨Nat.le_of_ble_eq_true rfl, Nat.le_of_ble_eq_true rfl⟩ hl.1 rfl (Nat.le_of_ble_eq_true rfl) ⟨Nat.zero_le _, Nat.zero_le _⟩ dX12_has_76 (fun H locs w => ?_)
  exact e_i F w hr hlocks ⟨rfl, rfl⟩ dX12_has_79
set_option maxRecDepth 8000 in
theorem la_15_45 {p : Program} {l : Launch} {e : Env} {s : State} {m : MethodId} {below : List Frame} {meth : Method} {c : Code} {D : va_G} {B b : Nat} {cy : Nat → ClassId} {H : Heap} {locs : List Loc} {ls : Array Slot} {xs : Nat → Int32} {Q : State → Prop} (F : CallFix p m c code 4 s #[Value.ref b] TB RL) (hX : va_X b 6 xs s s.heap) (hbl : b < s.heap.size) (hbA : ¬ B ≤ b) (w : Wd D B cy s s.heap M0 H locs) (hl : lv_has ls 4 [(3, .int 0), (2, .ref (B + 146)), (1, .ref (B + 0)), (0, .ref b)]) (x1 : xs 1 = 0) (x2 : xs 2 = 2) (kk : ∀ (M1 : Mem) (H1 : Heap) (locs1 : List Loc), Wd D B cy s s.heap M1 H1 locs1 → W p l e room_1 s m #[Value.ref b] below meth c H1 locs1 159 13107 Q (F0 m 1065 ls [])) : W p l e room_1 s m #[Value.ref b] below meth c H locs 159 13107 Q (F0 m 643 ls []) := by
  have hx := F.1
  have hb := F.2.1
  refine lv_aload_n hx hb dL_law_643 rfl (lv_at hl 2 rfl) ?_
  refine lv_aload_n hx hb dL_law_644 rfl (lv_at hl 3 rfl) ?_
  refine lv_iload_n hx hb dL_law_645 rfl (lv_at hl 0 rfl) ?_
  refine lv_iconst (v := 1) hx hb dL_law_646 (by decide) ?_
  refine lv_iadd hx hb dL_law_647 ?_
  refine r_val (v := 1) (by decide) ?_
  refine va_sld hx hb hX hbl hbA w.2.2.1 (vpi (by decide) (by decide)) dL_law_648 ?_
  refine r_val (v := 0) ((congrArg xs (show (1 : Int32).toNatClampNeg = 1 by decide)).trans x1) ?_
  refine lv_aload_n hx hb dL_law_649 rfl (lv_at hl 3 rfl) ?_
  refine lv_iload_n hx hb dL_law_650 rfl (lv_at hl 0 rfl) ?_
  refine lv_iconst (v := 2) hx hb dL_law_651 (by decide) ?_
  refine lv_iadd hx hb dL_law_652 ?_
  refine r_val (v := 2) (by decide) ?_
  refine va_sld hx hb hX hbl hbA w.2.2.1 (vpi (by decide) (by decide)) dL_law_653 ?_
  refine r_val (v := 2) ((congrArg xs (show (2 : Int32).toNatClampNeg = 2 by decide)).trans x2) ?_
  refine x_Vi F w (As := [.int 0, .int 2]) (rest := []) (a := 0) (by decide) (sh_11 rfl _ _) rfl (c_X11_has_231 (rfl) (rfl) (rfl)) gv_L_82 hv_X11_has ⟨Nat.le_of_ble_eq_true rfl, Nat.le_of_ble_eq_true rfl⟩ hl.1 rfl (Nat.le_of_ble_eq_true rfl) ⟨Nat.le_of_ble_eq_true rfl, Nat.le_of_ble_eq_true rfl⟩ dL_law_654 (fun H locs w => ?_)
  refine lv_aload_n hx hb dL_law_657 rfl (lv_at hl 1 rfl) ?_
  refine lv_aload_n hx hb dL_law_658 rfl (lv_at hl 3 rfl) ?_
  refine lv_iload_n hx hb dL_law_659 rfl (lv_at hl 0 rfl) ?_
  refine lv_iconst (v := 1) hx hb dL_law_660 (by decide) ?_
  refine lv_iadd hx hb dL_law_661 ?_
  refine r_val (v := 1) (by decide) ?_
  refine va_sld hx hb hX hbl hbA w.2.2.1 (vpi (by decide) (by decide)) dL_law_662 ?_
  refine r_val (v := 0) ((congrArg xs (show (1 : Int32).toNatClampNeg = 1 by decide)).trans x1) ?_
  refine lv_aload_n hx hb dL_law_663 rfl (lv_at hl 3 rfl) ?_
  refine lv_iload_n hx hb dL_law_664 rfl (lv_at hl 0 rfl) ?_
  refine lv_iconst (v := 2) hx hb dL_law_665 (by decide) ?_
  refine lv_iadd hx hb dL_law_666 ?_
  refine r_val (v := 2) (by decide) ?_
  refine va_sld hx hb hX hbl hbA w.2.2.1 (vpi (by decide) (by decide)) dL_law_667 ?_
  refine r_val (v := 2) ((congrArg xs (show (2 : Int32).toNatClampNeg = 2 by decide)).trans x2) ?_
  refine x_Vi F w (As := [.int 0, .int 2]) (rest := [.int 0]) (a := 146) (by decide) (sh_12 rfl _ _) rfl (c_X12_has_233 (rfl) (rfl) (rfl) (rfl) (rfl) (rfl) (rfl) (rfl) (rfl) (rfl) (rfl) (rfl) (rfl) (rfl) (rfl) (rfl) (rfl) (rfl) (rfl) (rfl) (rfl) (rfl) (rfl) (rfl) (rfl) (rfl) (rfl) (rfl) (rfl) (rfl) (rfl) (rfl) (rfl) (rfl) (rfl) (rfl) (rfl) (rfl) (rfl) (rfl) (rfl) (rfl) (rfl) (rfl) (rfl) (rfl) (rfl) (rfl) (rfl) (rfl) (rfl) (rfl) (rfl) (rfl) (rfl) (rfl) (rfl)) gv_L_85 hv_X12_has ⟨Nat.le_of_ble_eq_true rfl, Nat.le_of_ble_eq_true rfl⟩ hl.1 rfl (Nat.le_of_ble_eq_true rfl) ⟨Nat.le_of_ble_eq_true rfl, Nat.le_of_ble_eq_true rfl⟩ dL_law_668 (fun H locs w => ?_)
  refine lv_icmp_eq (tgt := 1065) hx hb dL_law_671 (by decide) (fun _ => ?_) (fun c1 => absurd c1 (by decide))
  exact kk _ _ _ w
theorem dX11_has_87 : decode cX11_has 87 = .ok (.aload_n 3, 1) := by decide +kernel
theorem dX11_has_88 : decode cX11_has 88 = .ok (.invokevirtual 210, 3) := by decide +kernel
theorem dX9_floating_0 : decode cX9_floating 0 = .ok (.iconst 0, 1) := by decide +kernel
theorem dX9_floating_1 : decode cX9_floating 1 = .ok (.istore_n 1, 1) := by decide +kernel
theorem dX9_floating_2 : decode cX9_floating 2 = .ok (.iconst 0, 1) := by decide +kernel
theorem dX9_floating_3 : decode cX9_floating 3 = .ok (.istore_n 2, 1) := by decide +kernel
theorem dX9_floating_4 : decode cX9_floating 4 = .ok (.iload_n 2, 1) := by decide +kernel
theorem dX9_floating_5 : decode cX9_floating 5 = .ok (.aload_n 0, 1) := by decide +kernel
theorem dX9_floating_6 : decode cX9_floating 6 = .ok (.getfield 9, 3) := by decide +kernel
theorem dX9_floating_9 : decode cX9_floating 9 = .ok (.if_icmp .ge 24, 3) := by decide +kernel
theorem dX9_floating_33 : decode cX9_floating 33 = .ok (.iload_n 1, 1) := by decide +kernel
theorem dX9_floating_34 : decode cX9_floating 34 = .ok (.ireturn, 1) := by decide +kernel
set_option maxRecDepth 4000 in
theorem c_X9_floating_234 {l : Launch} {D : va_G} {B : Nat} {cy : Nat → ClassId} {M : Mem} (h0 : M.1 44 0 = 0) : Ci l D B cy yX9_floating cX9_floating 3 (some .int) 0 0 [.ref (B + 44)] M (fun r M1 => r = 0 ∧ M1 = M) := by
  refine s_any (by decide) (Nat.le_of_ble_eq_true rfl) ?_
  intro p e s m below meth c ls F hr hlocks w hl
  have F : CallFix p m c cX9_floating 3 s _ TB RX9 := F
  have hx := F.1
  have hb := F.2.1
  have hl : lv_has ls 3 [(0, .ref (B + 44))] := hl
  refine lv_iconst (v := 0) hx hb dX9_floating_0 (by decide) ?_
  refine lv_istore_n (lv' := [(1, .int 0), (0, .ref (B + 44))]) hx hb dX9_floating_1 rfl hl (by decide) rfl (fun ls hl => ?_)
  refine lv_iconst (v := 0) hx hb dX9_floating_2 (by decide) ?_
  refine lv_istore_n (lv' := [(2, .int 0), (1, .int 0), (0, .ref (B + 44))]) hx hb dX9_floating_3 rfl hl (by decide) rfl (fun ls hl => ?_)
  refine lv_iload_n hx hb dX9_floating_4 rfl (lv_at hl 0 rfl) ?_
  refine lv_aload_n hx hb dX9_floating_5 rfl (lv_at hl 2 rfl) ?_
  refine f_9_0 F w (a := 44) rfl tb_63 dX9_floating_6 ?_
  refine r_val (v := 0) (h0) ?_
  refine lv_icmp_ge (tgt := 33) hx hb dX9_floating_9 (by decide) (fun _ => ?_) (fun c1 => absurd c1 (by decide))
  refine lv_iload_n hx hb dX9_floating_33 rfl (lv_at hl 1 rfl) ?_
  exact e_i F w hr hlocks ⟨rfl, rfl⟩ dX9_floating_34
theorem tk_X9_floating : Cond.code yX9_floating cX9_floating 3 (some .int) ∈ TB := tbm (tc4 (List.mem_of_getElem? (i := 133) rfl)) rfl
theorem gc_X9_floating : GoodIn TB (cw yX9_floating cX9_floating 3 (some .int)) := goodIn_c2 tk_X9_floating
theorem tb_396 : Cond.methodLink "ToneLines" 210 yX9_floating ∈ TB := tbm (tc4 (List.mem_of_getElem? (i := 130) rfl)) rfl
theorem tb_397 : Cond.instanceMethod yX9_floating ∈ TB := tbm (tc4 (List.mem_of_getElem? (i := 131) rfl)) rfl
theorem tb_398 : Cond.selects "ToneLines$Word" yX9_floating yX9_floating ∈ TB := tbm (tc4 (List.mem_of_getElem? (i := 132) rfl)) rfl
theorem gv_X11_210 : GoodIn TB (wsV RX11 210 RX9 yX9_floating (cw yX9_floating cX9_floating 3 (some .int))) := goodIn_4 tb_396 tb_397 tb_398 tb_61 gc_X9_floating
theorem hv_X9_floating : yX9_floating.cls = RX9 ∧ yX9_floating.cls ≠ "java/lang/invoke/MethodHandle" ∧ yX9_floating.cls ≠ "java/lang/invoke/VarHandle" ∧ (parseMethodDescriptor yX9_floating.desc).map (fun d => d.parameters.length) = some 0 := by decide +kernel
theorem dX11_has_91 : decode cX11_has 91 = .ok (.ireturn, 1) := by decide +kernel
set_option maxRecDepth 4000 in
theorem c_X11_has_235 {l : Launch} {D : va_G} {B : Nat} {cy : Nat → ClassId} {M : Mem} (h0 : M.1 22 2 = 0) (h1 : M.1 22 7 = 0) (h2 : M.1 44 0 = 0) : Ci l D B cy yX11_has cX11_has 4 (some .int) 2 43 [.ref (B + 0), .int 0, .int 3] M (fun r M1 => r = 0 ∧ M1 = M) := by
  refine s_any (by decide) (Nat.le_of_ble_eq_true rfl) ?_
  intro p e s m below meth c ls F hr hlocks w hl
  have F : CallFix p m c cX11_has 4 s _ TB RX11 := F
  have hx := F.1
  have hb := F.2.1
  have hl : lv_has ls 4 [(0, .ref (B + 0)), (1, .int 0), (2, .int 3)] := hl
  refine lv_aload_n hx hb dX11_has_0 rfl (lv_at hl 0 rfl) ?_
  refine f_11_3 F w (a := 0) rfl tb_73 dX11_has_1 ?_
  refine lv_iload_n hx hb dX11_has_4 rfl (lv_at hl 1 rfl) ?_
  refine x_Vi F w (As := [.int 0]) (rest := []) (a := 22) (by decide) (sh_0 rfl _ _) rfl (c_X0_covers_206 (h0)) gv_X11_193 hv_X0_covers ⟨Nat.le_of_ble_eq_true rfl, Nat.le_of_ble_eq_true rfl⟩ hl.1 rfl (Nat.le_of_ble_eq_true rfl) ⟨Nat.zero_le _, Nat.zero_le _⟩ dX11_has_5 (fun H locs w => ?_)
  refine lv_if_ne (tgt := 13) hx hb dX11_has_8 (by decide) (fun _ => ?_) (fun c1 => absurd c1 (by decide))
  refine lv_aload_n hx hb dX11_has_13 rfl (lv_at hl 0 rfl) ?_
  refine f_11_3 F w (a := 0) rfl tb_73 dX11_has_14 ?_
  refine lv_iload_n hx hb dX11_has_17 rfl (lv_at hl 1 rfl) ?_
  refine x_Vr F w (As := [.int 0]) (rest := []) (a := 22) (by decide) (sh_0 rfl _ _) rfl (c_X0_stageOf_207 (h0) (h1)) gv_X11_196 hv_X0_stageOf ⟨Nat.le_of_ble_eq_true rfl, Nat.le_of_ble_eq_true rfl⟩ hl.1 rfl (Nat.le_of_ble_eq_true rfl) ⟨Nat.zero_le _, Nat.zero_le _⟩ dX11_has_18 (fun H locs w => ?_)
  refine lv_astore_n (lv' := [(3, .ref (B + 44)), (0, .ref (B + 0)), (1, .int 0), (2, .int 3)]) hx hb dX11_has_21 rfl hl (by decide) rfl (fun ls hl => ?_)
  refine lv_iload_n hx hb dX11_has_22 rfl (lv_at hl 3 rfl) ?_
  refine lv_tableIn (tgt := 87) hx hb dX11_has_23 (by decide) (by decide) (off := 64) rfl (by decide) ?_
  refine lv_aload_n hx hb dX11_has_87 rfl (lv_at hl 0 rfl) ?_
  refine x_Vi F w (As := []) (rest := []) (a := 44) (by decide) (sh_9 rfl _ _) rfl (c_X9_floating_234 (h2)) gv_X11_210 hv_X9_floating ⟨Nat.le_of_ble_eq_true rfl, Nat.le_of_ble_eq_true rfl⟩ hl.1 rfl (Nat.le_of_ble_eq_true rfl) ⟨Nat.zero_le _, Nat.zero_le _⟩ dX11_has_88 (fun H locs w => ?_)
  exact e_i F w hr hlocks ⟨rfl, rfl⟩ dX11_has_91
theorem dX12_has_80 : decode cX12_has 80 = .ok (.aload_n 0, 1) := by decide +kernel
theorem dX12_has_81 : decode cX12_has 81 = .ok (.invokevirtual 267, 3) := by decide +kernel
theorem dX12_floating_0 : decode cX12_floating 0 = .ok (.iconst 0, 1) := by decide +kernel
theorem dX12_floating_1 : decode cX12_floating 1 = .ok (.istore_n 1, 1) := by decide +kernel
theorem dX12_floating_2 : decode cX12_floating 2 = .ok (.iconst 0, 1) := by decide +kernel
theorem dX12_floating_3 : decode cX12_floating 3 = .ok (.istore_n 2, 1) := by decide +kernel
theorem dX12_floating_4 : decode cX12_floating 4 = .ok (.iload_n 2, 1) := by decide +kernel
theorem dX12_floating_5 : decode cX12_floating 5 = .ok (.aload_n 0, 1) := by decide +kernel
theorem dX12_floating_6 : decode cX12_floating 6 = .ok (.getfield 17, 3) := by decide +kernel
theorem dX12_floating_9 : decode cX12_floating 9 = .ok (.iconst 0, 1) := by decide +kernel
theorem dX12_floating_10 : decode cX12_floating 10 = .ok (.iaload, 1) := by decide +kernel
theorem dX12_floating_11 : decode cX12_floating 11 = .ok (.if_icmp .ge 27, 3) := by decide +kernel
theorem dX12_floating_38 : decode cX12_floating 38 = .ok (.iload_n 1, 1) := by decide +kernel
theorem dX12_floating_39 : decode cX12_floating 39 = .ok (.ireturn, 1) := by decide +kernel
set_option maxRecDepth 4000 in
theorem c_X12_floating_236 {l : Launch} {D : va_G} {B : Nat} {cy : Nat → ClassId} {M : Mem} (h0 : M.1 148 0 = 0) : Ci l D B cy yX12_floating cX12_floating 3 (some .int) 0 0 [.ref (B + 146)] M (fun r M1 => r = 0 ∧ M1 = M) := by
  refine s_any (by decide) (Nat.le_of_ble_eq_true rfl) ?_
  intro p e s m below meth c ls F hr hlocks w hl
  have F : CallFix p m c cX12_floating 3 s _ TB RX12 := F
  have hx := F.1
  have hb := F.2.1
  have hl : lv_has ls 3 [(0, .ref (B + 146))] := hl
  refine lv_iconst (v := 0) hx hb dX12_floating_0 (by decide) ?_
  refine lv_istore_n (lv' := [(1, .int 0), (0, .ref (B + 146))]) hx hb dX12_floating_1 rfl hl (by decide) rfl (fun ls hl => ?_)
  refine lv_iconst (v := 0) hx hb dX12_floating_2 (by decide) ?_
  refine lv_istore_n (lv' := [(2, .int 0), (1, .int 0), (0, .ref (B + 146))]) hx hb dX12_floating_3 rfl hl (by decide) rfl (fun ls hl => ?_)
  refine lv_iload_n hx hb dX12_floating_4 rfl (lv_at hl 0 rfl) ?_
  refine lv_aload_n hx hb dX12_floating_5 rfl (lv_at hl 2 rfl) ?_
  refine f_12_2 F w (a := 146) rfl tb_127 dX12_floating_6 ?_
  refine lv_iconst (v := 0) hx hb dX12_floating_9 (by decide) ?_
  refine g_iald F w (a := 148) rfl (j := 0) ⟨by decide, by decide⟩ (by decide) dX12_floating_10 ?_
  refine r_val (v := 0) (h0) ?_
  refine lv_icmp_ge (tgt := 38) hx hb dX12_floating_11 (by decide) (fun _ => ?_) (fun c1 => absurd c1 (by decide))
  refine lv_iload_n hx hb dX12_floating_38 rfl (lv_at hl 1 rfl) ?_
  exact e_i F w hr hlocks ⟨rfl, rfl⟩ dX12_floating_39
theorem tk_X12_floating : Cond.code yX12_floating cX12_floating 3 (some .int) ∈ TB := tbm (tc6 (List.mem_of_getElem? (i := 161) rfl)) rfl
theorem gc_X12_floating : GoodIn TB (cw yX12_floating cX12_floating 3 (some .int)) := goodIn_c2 tk_X12_floating
theorem tb_399 : Cond.methodLink "ToneLinesModel" 267 yX12_floating ∈ TB := tbm (tc6 (List.mem_of_getElem? (i := 158) rfl)) rfl
theorem tb_400 : Cond.instanceMethod yX12_floating ∈ TB := tbm (tc6 (List.mem_of_getElem? (i := 160) rfl)) rfl
theorem tb_401 : Cond.selects "ToneLinesModel" yX12_floating yX12_floating ∈ TB := tbp (List.mem_of_getElem? (i := 74) rfl) rfl
theorem gv_X12_267 : GoodIn TB (wsV RX12 267 RX12 yX12_floating (cw yX12_floating cX12_floating 3 (some .int))) := goodIn_4 tb_399 tb_400 tb_401 tb_150 gc_X12_floating
theorem hv_X12_floating : yX12_floating.cls = RX12 ∧ yX12_floating.cls ≠ "java/lang/invoke/MethodHandle" ∧ yX12_floating.cls ≠ "java/lang/invoke/VarHandle" ∧ (parseMethodDescriptor yX12_floating.desc).map (fun d => d.parameters.length) = some 0 := by decide +kernel
theorem dX12_has_84 : decode cX12_has 84 = .ok (.ireturn, 1) := by decide +kernel
set_option maxRecDepth 4000 in
theorem c_X12_has_237 {l : Launch} {D : va_G} {B : Nat} {cy : Nat → ClassId} {M : Mem} (h0 : M.1 146 5 = 0) (h1 : M.1 147 0 = 0) (h2 : M.1 148 0 = 0) (h3 : M.1 147 1 = 0) (h4 : M.1 148 1 = 0) (h5 : M.1 147 2 = 0) (h6 : M.1 148 2 = 0) (h7 : M.1 147 3 = 0) (h8 : M.1 148 3 = 0) (h9 : M.1 147 4 = 0) (h10 : M.1 148 4 = 0) (h11 : M.1 147 5 = 0) (h12 : M.1 148 5 = 0) (h13 : M.1 147 6 = 0) (h14 : M.1 148 6 = 0) (h15 : M.1 147 7 = 0) (h16 : M.1 148 7 = 0) (h17 : M.1 147 8 = 0) (h18 : M.1 148 8 = 0) (h19 : M.1 147 9 = 0) (h20 : M.1 148 9 = 0) (h21 : M.1 147 10 = 0) (h22 : M.1 148 10 = 0) (h23 : M.1 147 11 = 0) (h24 : M.1 148 11 = 0) (h25 : M.1 147 12 = 0) (h26 : M.1 148 12 = 0) (h27 : M.1 147 13 = 0) (h28 : M.1 148 13 = 0) (h29 : M.1 147 14 = 0) (h30 : M.1 148 14 = 0) (h31 : M.1 147 15 = 0) (h32 : M.1 148 15 = 0) (h33 : M.1 147 16 = 0) (h34 : M.1 148 16 = 0) (h35 : M.1 147 17 = 0) (h36 : M.1 148 17 = 0) (h37 : M.1 147 18 = 0) (h38 : M.1 148 18 = 0) (h39 : M.1 147 19 = 0) (h40 : M.1 148 19 = 0) (h41 : M.1 147 20 = 0) (h42 : M.1 148 20 = 0) (h43 : M.1 147 21 = 0) (h44 : M.1 148 21 = 0) (h45 : M.1 147 22 = 0) (h46 : M.1 148 22 = 0) (h47 : M.1 147 23 = 0) (h48 : M.1 148 23 = 0) (h49 : M.1 147 24 = 0) (h50 : M.1 148 24 = 0) (h51 : M.1 147 25 = 0) (h52 : M.1 148 25 = 0) (h53 : M.1 147 26 = 0) (h54 : M.1 148 26 = 0) (h55 : M.1 147 27 = 0) (h56 : M.1 148 27 = 0) : Ci l D B cy yX12_has cX12_has 3 (some .int) 3 66 [.ref (B + 146), .int 0, .int 3] M (fun r M1 => r = 0 ∧ M1 = M) := by
  refine s_any (by decide) (Nat.le_of_ble_eq_true rfl) ?_
  intro p e s m below meth c ls F hr hlocks w hl
  have F : CallFix p m c cX12_has 3 s _ TB RX12 := F
  have hx := F.1
  have hb := F.2.1
  have hl : lv_has ls 3 [(0, .ref (B + 146)), (1, .int 0), (2, .int 3)] := hl
  refine lv_aload_n hx hb dX12_has_0 rfl (lv_at hl 0 rfl) ?_
  refine lv_iload_n hx hb dX12_has_1 rfl (lv_at hl 1 rfl) ?_
  refine x_Vi F w (As := [.int 0]) (rest := []) (a := 146) (by decide) (sh_12 rfl _ _) rfl (c_X12_lays_224 (h0) (h1) (h2) (h3) (h4) (h5) (h6) (h7) (h8) (h9) (h10) (h11) (h12) (h13) (h14) (h15) (h16) (h17) (h18) (h19) (h20) (h21) (h22) (h23) (h24) (h25) (h26) (h27) (h28) (h29) (h30) (h31) (h32) (h33) (h34) (h35) (h36) (h37) (h38) (h39) (h40) (h41) (h42) (h43) (h44) (h45) (h46) (h47) (h48) (h49) (h50) (h51) (h52) (h53) (h54) (h55) (h56)) gv_X12_261 hv_X12_lays ⟨Nat.le_of_ble_eq_true rfl, Nat.le_of_ble_eq_true rfl⟩ hl.1 rfl (Nat.le_of_ble_eq_true rfl) ⟨Nat.zero_le _, Nat.zero_le _⟩ dX12_has_2 (fun H locs w => ?_)
  refine lv_if_ne (tgt := 10) hx hb dX12_has_5 (by decide) (fun _ => ?_) (fun c1 => absurd c1 (by decide))
  refine lv_iload_n hx hb dX12_has_10 rfl (lv_at hl 2 rfl) ?_
  refine lv_tableIn (tgt := 80) hx hb dX12_has_11 (by decide) (by decide) (off := 69) rfl (by decide) ?_
  refine lv_aload_n hx hb dX12_has_80 rfl (lv_at hl 0 rfl) ?_
  refine x_Vi F w (As := []) (rest := []) (a := 146) (by decide) (sh_12 rfl _ _) rfl (c_X12_floating_236 (h2)) gv_X12_267 hv_X12_floating ⟨Nat.le_of_ble_eq_true rfl, Nat.le_of_ble_eq_true rfl⟩ hl.1 rfl (Nat.le_of_ble_eq_true rfl) ⟨Nat.zero_le _, Nat.zero_le _⟩ dX12_has_81 (fun H locs w => ?_)
  exact e_i F w hr hlocks ⟨rfl, rfl⟩ dX12_has_84
set_option maxRecDepth 8000 in
theorem la_15_46 {p : Program} {l : Launch} {e : Env} {s : State} {m : MethodId} {below : List Frame} {meth : Method} {c : Code} {D : va_G} {B b : Nat} {cy : Nat → ClassId} {H : Heap} {locs : List Loc} {ls : Array Slot} {xs : Nat → Int32} {Q : State → Prop} (F : CallFix p m c code 4 s #[Value.ref b] TB RL) (hX : va_X b 6 xs s s.heap) (hbl : b < s.heap.size) (hbA : ¬ B ≤ b) (w : Wd D B cy s s.heap M0 H locs) (hl : lv_has ls 4 [(3, .int 0), (2, .ref (B + 146)), (1, .ref (B + 0)), (0, .ref b)]) (x1 : xs 1 = 0) (x2 : xs 2 = 3) (kk : ∀ (M1 : Mem) (H1 : Heap) (locs1 : List Loc), Wd D B cy s s.heap M1 H1 locs1 → W p l e room_1 s m #[Value.ref b] below meth c H1 locs1 159 13107 Q (F0 m 1065 ls [])) : W p l e room_1 s m #[Value.ref b] below meth c H locs 159 13107 Q (F0 m 643 ls []) := by
  have hx := F.1
  have hb := F.2.1
  refine lv_aload_n hx hb dL_law_643 rfl (lv_at hl 2 rfl) ?_
  refine lv_aload_n hx hb dL_law_644 rfl (lv_at hl 3 rfl) ?_
  refine lv_iload_n hx hb dL_law_645 rfl (lv_at hl 0 rfl) ?_
  refine lv_iconst (v := 1) hx hb dL_law_646 (by decide) ?_
  refine lv_iadd hx hb dL_law_647 ?_
  refine r_val (v := 1) (by decide) ?_
  refine va_sld hx hb hX hbl hbA w.2.2.1 (vpi (by decide) (by decide)) dL_law_648 ?_
  refine r_val (v := 0) ((congrArg xs (show (1 : Int32).toNatClampNeg = 1 by decide)).trans x1) ?_
  refine lv_aload_n hx hb dL_law_649 rfl (lv_at hl 3 rfl) ?_
  refine lv_iload_n hx hb dL_law_650 rfl (lv_at hl 0 rfl) ?_
  refine lv_iconst (v := 2) hx hb dL_law_651 (by decide) ?_
  refine lv_iadd hx hb dL_law_652 ?_
  refine r_val (v := 2) (by decide) ?_
  refine va_sld hx hb hX hbl hbA w.2.2.1 (vpi (by decide) (by decide)) dL_law_653 ?_
  refine r_val (v := 3) ((congrArg xs (show (2 : Int32).toNatClampNeg = 2 by decide)).trans x2) ?_
  refine x_Vi F w (As := [.int 0, .int 3]) (rest := []) (a := 0) (by decide) (sh_11 rfl _ _) rfl (c_X11_has_235 (rfl) (rfl) (rfl)) gv_L_82 hv_X11_has ⟨Nat.le_of_ble_eq_true rfl, Nat.le_of_ble_eq_true rfl⟩ hl.1 rfl (Nat.le_of_ble_eq_true rfl) ⟨Nat.le_of_ble_eq_true rfl, Nat.le_of_ble_eq_true rfl⟩ dL_law_654 (fun H locs w => ?_)
  refine lv_aload_n hx hb dL_law_657 rfl (lv_at hl 1 rfl) ?_
  refine lv_aload_n hx hb dL_law_658 rfl (lv_at hl 3 rfl) ?_
  refine lv_iload_n hx hb dL_law_659 rfl (lv_at hl 0 rfl) ?_
  refine lv_iconst (v := 1) hx hb dL_law_660 (by decide) ?_
  refine lv_iadd hx hb dL_law_661 ?_
  refine r_val (v := 1) (by decide) ?_
  refine va_sld hx hb hX hbl hbA w.2.2.1 (vpi (by decide) (by decide)) dL_law_662 ?_
  refine r_val (v := 0) ((congrArg xs (show (1 : Int32).toNatClampNeg = 1 by decide)).trans x1) ?_
  refine lv_aload_n hx hb dL_law_663 rfl (lv_at hl 3 rfl) ?_
  refine lv_iload_n hx hb dL_law_664 rfl (lv_at hl 0 rfl) ?_
  refine lv_iconst (v := 2) hx hb dL_law_665 (by decide) ?_
  refine lv_iadd hx hb dL_law_666 ?_
  refine r_val (v := 2) (by decide) ?_
  refine va_sld hx hb hX hbl hbA w.2.2.1 (vpi (by decide) (by decide)) dL_law_667 ?_
  refine r_val (v := 3) ((congrArg xs (show (2 : Int32).toNatClampNeg = 2 by decide)).trans x2) ?_
  refine x_Vi F w (As := [.int 0, .int 3]) (rest := [.int 0]) (a := 146) (by decide) (sh_12 rfl _ _) rfl (c_X12_has_237 (rfl) (rfl) (rfl) (rfl) (rfl) (rfl) (rfl) (rfl) (rfl) (rfl) (rfl) (rfl) (rfl) (rfl) (rfl) (rfl) (rfl) (rfl) (rfl) (rfl) (rfl) (rfl) (rfl) (rfl) (rfl) (rfl) (rfl) (rfl) (rfl) (rfl) (rfl) (rfl) (rfl) (rfl) (rfl) (rfl) (rfl) (rfl) (rfl) (rfl) (rfl) (rfl) (rfl) (rfl) (rfl) (rfl) (rfl) (rfl) (rfl) (rfl) (rfl) (rfl) (rfl) (rfl) (rfl) (rfl) (rfl)) gv_L_85 hv_X12_has ⟨Nat.le_of_ble_eq_true rfl, Nat.le_of_ble_eq_true rfl⟩ hl.1 rfl (Nat.le_of_ble_eq_true rfl) ⟨Nat.le_of_ble_eq_true rfl, Nat.le_of_ble_eq_true rfl⟩ dL_law_668 (fun H locs w => ?_)
  refine lv_icmp_eq (tgt := 1065) hx hb dL_law_671 (by decide) (fun _ => ?_) (fun c1 => absurd c1 (by decide))
  exact kk _ _ _ w
theorem dX11_has_92 : decode cX11_has 92 = .ok (.aload_n 3, 1) := by decide +kernel
theorem dX11_has_93 : decode cX11_has 93 = .ok (.invokevirtual 213, 3) := by decide +kernel
theorem dX9_bare_0 : decode cX9_bare 0 = .ok (.iconst 0, 1) := by decide +kernel
theorem dX9_bare_1 : decode cX9_bare 1 = .ok (.istore_n 1, 1) := by decide +kernel
theorem dX9_bare_2 : decode cX9_bare 2 = .ok (.iconst 0, 1) := by decide +kernel
theorem dX9_bare_3 : decode cX9_bare 3 = .ok (.istore_n 2, 1) := by decide +kernel
theorem dX9_bare_4 : decode cX9_bare 4 = .ok (.iload_n 2, 1) := by decide +kernel
theorem dX9_bare_5 : decode cX9_bare 5 = .ok (.aload_n 0, 1) := by decide +kernel
theorem dX9_bare_6 : decode cX9_bare 6 = .ok (.getfield 9, 3) := by decide +kernel
theorem dX9_bare_9 : decode cX9_bare 9 = .ok (.if_icmp .ge 18, 3) := by decide +kernel
theorem dX9_bare_27 : decode cX9_bare 27 = .ok (.iconst 1, 1) := by decide +kernel
theorem dX9_bare_28 : decode cX9_bare 28 = .ok (.aload_n 0, 1) := by decide +kernel
theorem dX9_bare_29 : decode cX9_bare 29 = .ok (.getfield 15, 3) := by decide +kernel
theorem dX9_bare_32 : decode cX9_bare 32 = .ok (.ishl, 1) := by decide +kernel
theorem dX9_bare_33 : decode cX9_bare 33 = .ok (.iconst 1, 1) := by decide +kernel
theorem dX9_bare_34 : decode cX9_bare 34 = .ok (.isub, 1) := by decide +kernel
theorem dX9_bare_35 : decode cX9_bare 35 = .ok (.iload_n 1, 1) := by decide +kernel
theorem dX9_bare_36 : decode cX9_bare 36 = .ok (.iconst (-1), 1) := by decide +kernel
theorem dX9_bare_37 : decode cX9_bare 37 = .ok (.ixor, 1) := by decide +kernel
theorem dX9_bare_38 : decode cX9_bare 38 = .ok (.iand, 1) := by decide +kernel
theorem dX9_bare_39 : decode cX9_bare 39 = .ok (.ireturn, 1) := by decide +kernel
set_option maxRecDepth 4000 in
theorem c_X9_bare_238 {l : Launch} {D : va_G} {B : Nat} {cy : Nat → ClassId} {M : Mem} (h0 : M.1 44 0 = 0) (h1 : M.1 44 1 = 0) : Ci l D B cy yX9_bare cX9_bare 3 (some .int) 0 0 [.ref (B + 44)] M (fun r M1 => r = 0 ∧ M1 = M) := by
  refine s_any (by decide) (Nat.le_of_ble_eq_true rfl) ?_
  intro p e s m below meth c ls F hr hlocks w hl
  have F : CallFix p m c cX9_bare 3 s _ TB RX9 := F
  have hx := F.1
  have hb := F.2.1
  have hl : lv_has ls 3 [(0, .ref (B + 44))] := hl
  refine lv_iconst (v := 0) hx hb dX9_bare_0 (by decide) ?_
  refine lv_istore_n (lv' := [(1, .int 0), (0, .ref (B + 44))]) hx hb dX9_bare_1 rfl hl (by decide) rfl (fun ls hl => ?_)
  refine lv_iconst (v := 0) hx hb dX9_bare_2 (by decide) ?_
  refine lv_istore_n (lv' := [(2, .int 0), (1, .int 0), (0, .ref (B + 44))]) hx hb dX9_bare_3 rfl hl (by decide) rfl (fun ls hl => ?_)
  refine lv_iload_n hx hb dX9_bare_4 rfl (lv_at hl 0 rfl) ?_
  refine lv_aload_n hx hb dX9_bare_5 rfl (lv_at hl 2 rfl) ?_
  refine f_9_0 F w (a := 44) rfl tb_63 dX9_bare_6 ?_
  refine r_val (v := 0) (h0) ?_
  refine lv_icmp_ge (tgt := 27) hx hb dX9_bare_9 (by decide) (fun _ => ?_) (fun c1 => absurd c1 (by decide))
  refine lv_iconst (v := 1) hx hb dX9_bare_27 (by decide) ?_
  refine lv_aload_n hx hb dX9_bare_28 rfl (lv_at hl 2 rfl) ?_
  refine f_9_1 F w (a := 44) rfl tb_64 dX9_bare_29 ?_
  refine r_val (v := 0) (h1) ?_
  refine lv_ishl hx hb dX9_bare_32 ?_
  refine r_val (v := 1) (by decide) ?_
  refine lv_iconst (v := 1) hx hb dX9_bare_33 (by decide) ?_
  refine lv_isub hx hb dX9_bare_34 ?_
  refine r_val (v := 0) (by decide) ?_
  refine lv_iload_n hx hb dX9_bare_35 rfl (lv_at hl 1 rfl) ?_
  refine lv_iconst (v := (-1)) hx hb dX9_bare_36 (by decide) ?_
  refine lv_ixor hx hb dX9_bare_37 ?_
  refine r_val (v := (-1)) (by decide) ?_
  refine lv_iand hx hb dX9_bare_38 ?_
  refine r_val (v := 0) (by decide) ?_
  exact e_i F w hr hlocks ⟨rfl, rfl⟩ dX9_bare_39
theorem tk_X9_bare : Cond.code yX9_bare cX9_bare 3 (some .int) ∈ TB := tbm (tc3 (List.mem_of_getElem? (i := 227) rfl)) rfl
theorem gc_X9_bare : GoodIn TB (cw yX9_bare cX9_bare 3 (some .int)) := goodIn_c2 tk_X9_bare
theorem tb_402 : Cond.methodLink "ToneLines" 213 yX9_bare ∈ TB := tbm (tc4 (List.mem_of_getElem? (i := 134) rfl)) rfl
theorem tb_403 : Cond.instanceMethod yX9_bare ∈ TB := tbm (tc3 (List.mem_of_getElem? (i := 225) rfl)) rfl
theorem tb_404 : Cond.selects "ToneLines$Word" yX9_bare yX9_bare ∈ TB := tbm (tc3 (List.mem_of_getElem? (i := 226) rfl)) rfl
theorem gv_X11_213 : GoodIn TB (wsV RX11 213 RX9 yX9_bare (cw yX9_bare cX9_bare 3 (some .int))) := goodIn_4 tb_402 tb_403 tb_404 tb_61 gc_X9_bare
theorem hv_X9_bare : yX9_bare.cls = RX9 ∧ yX9_bare.cls ≠ "java/lang/invoke/MethodHandle" ∧ yX9_bare.cls ≠ "java/lang/invoke/VarHandle" ∧ (parseMethodDescriptor yX9_bare.desc).map (fun d => d.parameters.length) = some 0 := by decide +kernel
theorem dX11_has_96 : decode cX11_has 96 = .ok (.ireturn, 1) := by decide +kernel
set_option maxRecDepth 4000 in
theorem c_X11_has_239 {l : Launch} {D : va_G} {B : Nat} {cy : Nat → ClassId} {M : Mem} (h0 : M.1 22 2 = 0) (h1 : M.1 22 7 = 0) (h2 : M.1 44 0 = 0) (h3 : M.1 44 1 = 0) : Ci l D B cy yX11_has cX11_has 4 (some .int) 2 43 [.ref (B + 0), .int 0, .int 4] M (fun r M1 => r = 0 ∧ M1 = M) := by
  refine s_any (by decide) (Nat.le_of_ble_eq_true rfl) ?_
  intro p e s m below meth c ls F hr hlocks w hl
  have F : CallFix p m c cX11_has 4 s _ TB RX11 := F
  have hx := F.1
  have hb := F.2.1
  have hl : lv_has ls 4 [(0, .ref (B + 0)), (1, .int 0), (2, .int 4)] := hl
  refine lv_aload_n hx hb dX11_has_0 rfl (lv_at hl 0 rfl) ?_
  refine f_11_3 F w (a := 0) rfl tb_73 dX11_has_1 ?_
  refine lv_iload_n hx hb dX11_has_4 rfl (lv_at hl 1 rfl) ?_
  refine x_Vi F w (As := [.int 0]) (rest := []) (a := 22) (by decide) (sh_0 rfl _ _) rfl (c_X0_covers_206 (h0)) gv_X11_193 hv_X0_covers ⟨Nat.le_of_ble_eq_true rfl, Nat.le_of_ble_eq_true rfl⟩ hl.1 rfl (Nat.le_of_ble_eq_true rfl) ⟨Nat.zero_le _, Nat.zero_le _⟩ dX11_has_5 (fun H locs w => ?_)
  refine lv_if_ne (tgt := 13) hx hb dX11_has_8 (by decide) (fun _ => ?_) (fun c1 => absurd c1 (by decide))
  refine lv_aload_n hx hb dX11_has_13 rfl (lv_at hl 0 rfl) ?_
  refine f_11_3 F w (a := 0) rfl tb_73 dX11_has_14 ?_
  refine lv_iload_n hx hb dX11_has_17 rfl (lv_at hl 1 rfl) ?_
  refine x_Vr F w (As := [.int 0]) (rest := []) (a := 22) (by decide) (sh_0 rfl _ _) rfl (c_X0_stageOf_207 (h0) (h1)) gv_X11_196 hv_X0_stageOf ⟨Nat.le_of_ble_eq_true rfl, Nat.le_of_ble_eq_true rfl⟩ hl.1 rfl (Nat.le_of_ble_eq_true rfl) ⟨Nat.zero_le _, Nat.zero_le _⟩ dX11_has_18 (fun H locs w => ?_)
  refine lv_astore_n (lv' := [(3, .ref (B + 44)), (0, .ref (B + 0)), (1, .int 0), (2, .int 4)]) hx hb dX11_has_21 rfl hl (by decide) rfl (fun ls hl => ?_)
  refine lv_iload_n hx hb dX11_has_22 rfl (lv_at hl 3 rfl) ?_
  refine lv_tableIn (tgt := 92) hx hb dX11_has_23 (by decide) (by decide) (off := 69) rfl (by decide) ?_
  refine lv_aload_n hx hb dX11_has_92 rfl (lv_at hl 0 rfl) ?_
  refine x_Vi F w (As := []) (rest := []) (a := 44) (by decide) (sh_9 rfl _ _) rfl (c_X9_bare_238 (h2) (h3)) gv_X11_213 hv_X9_bare ⟨Nat.le_of_ble_eq_true rfl, Nat.le_of_ble_eq_true rfl⟩ hl.1 rfl (Nat.le_of_ble_eq_true rfl) ⟨Nat.zero_le _, Nat.zero_le _⟩ dX11_has_93 (fun H locs w => ?_)
  exact e_i F w hr hlocks ⟨rfl, rfl⟩ dX11_has_96
theorem dX12_has_85 : decode cX12_has 85 = .ok (.aload_n 0, 1) := by decide +kernel
theorem dX12_has_86 : decode cX12_has 86 = .ok (.invokevirtual 270, 3) := by decide +kernel
theorem dX12_bare_0 : decode cX12_bare 0 = .ok (.iconst 0, 1) := by decide +kernel
theorem dX12_bare_1 : decode cX12_bare 1 = .ok (.istore_n 1, 1) := by decide +kernel
theorem dX12_bare_2 : decode cX12_bare 2 = .ok (.iconst 0, 1) := by decide +kernel
theorem dX12_bare_3 : decode cX12_bare 3 = .ok (.istore_n 2, 1) := by decide +kernel
theorem dX12_bare_4 : decode cX12_bare 4 = .ok (.iload_n 2, 1) := by decide +kernel
theorem dX12_bare_5 : decode cX12_bare 5 = .ok (.aload_n 0, 1) := by decide +kernel
theorem dX12_bare_6 : decode cX12_bare 6 = .ok (.getfield 17, 3) := by decide +kernel
theorem dX12_bare_9 : decode cX12_bare 9 = .ok (.bipush 25, 2) := by decide +kernel
theorem dX12_bare_11 : decode cX12_bare 11 = .ok (.iaload, 1) := by decide +kernel
theorem dX12_bare_12 : decode cX12_bare 12 = .ok (.if_icmp .ge 23, 3) := by decide +kernel
theorem dX12_bare_35 : decode cX12_bare 35 = .ok (.iload_n 1, 1) := by decide +kernel
theorem dX12_bare_36 : decode cX12_bare 36 = .ok (.ireturn, 1) := by decide +kernel
set_option maxRecDepth 4000 in
theorem c_X12_bare_240 {l : Launch} {D : va_G} {B : Nat} {cy : Nat → ClassId} {M : Mem} (h0 : M.1 148 25 = 0) : Ci l D B cy yX12_bare cX12_bare 3 (some .int) 0 0 [.ref (B + 146)] M (fun r M1 => r = 0 ∧ M1 = M) := by
  refine s_any (by decide) (Nat.le_of_ble_eq_true rfl) ?_
  intro p e s m below meth c ls F hr hlocks w hl
  have F : CallFix p m c cX12_bare 3 s _ TB RX12 := F
  have hx := F.1
  have hb := F.2.1
  have hl : lv_has ls 3 [(0, .ref (B + 146))] := hl
  refine lv_iconst (v := 0) hx hb dX12_bare_0 (by decide) ?_
  refine lv_istore_n (lv' := [(1, .int 0), (0, .ref (B + 146))]) hx hb dX12_bare_1 rfl hl (by decide) rfl (fun ls hl => ?_)
  refine lv_iconst (v := 0) hx hb dX12_bare_2 (by decide) ?_
  refine lv_istore_n (lv' := [(2, .int 0), (1, .int 0), (0, .ref (B + 146))]) hx hb dX12_bare_3 rfl hl (by decide) rfl (fun ls hl => ?_)
  refine lv_iload_n hx hb dX12_bare_4 rfl (lv_at hl 0 rfl) ?_
  refine lv_aload_n hx hb dX12_bare_5 rfl (lv_at hl 2 rfl) ?_
  refine f_12_2 F w (a := 146) rfl tb_127 dX12_bare_6 ?_
  refine lv_bipush (v := 25) hx hb dX12_bare_9 (by decide) ?_
  refine g_iald F w (a := 148) rfl (j := 25) ⟨by decide, by decide⟩ (by decide) dX12_bare_11 ?_
  refine r_val (v := 0) (h0) ?_
  refine lv_icmp_ge (tgt := 35) hx hb dX12_bare_12 (by decide) (fun _ => ?_) (fun c1 => absurd c1 (by decide))
  refine lv_iload_n hx hb dX12_bare_35 rfl (lv_at hl 1 rfl) ?_
  exact e_i F w hr hlocks ⟨rfl, rfl⟩ dX12_bare_36
theorem tk_X12_bare : Cond.code yX12_bare cX12_bare 3 (some .int) ∈ TB := tbm (tc6 (List.mem_of_getElem? (i := 165) rfl)) rfl
theorem gc_X12_bare : GoodIn TB (cw yX12_bare cX12_bare 3 (some .int)) := goodIn_c2 tk_X12_bare
theorem tb_405 : Cond.methodLink "ToneLinesModel" 270 yX12_bare ∈ TB := tbm (tc6 (List.mem_of_getElem? (i := 162) rfl)) rfl
theorem tb_406 : Cond.instanceMethod yX12_bare ∈ TB := tbm (tc6 (List.mem_of_getElem? (i := 164) rfl)) rfl
theorem tb_407 : Cond.selects "ToneLinesModel" yX12_bare yX12_bare ∈ TB := tbp (List.mem_of_getElem? (i := 75) rfl) rfl
theorem gv_X12_270 : GoodIn TB (wsV RX12 270 RX12 yX12_bare (cw yX12_bare cX12_bare 3 (some .int))) := goodIn_4 tb_405 tb_406 tb_407 tb_150 gc_X12_bare
theorem hv_X12_bare : yX12_bare.cls = RX12 ∧ yX12_bare.cls ≠ "java/lang/invoke/MethodHandle" ∧ yX12_bare.cls ≠ "java/lang/invoke/VarHandle" ∧ (parseMethodDescriptor yX12_bare.desc).map (fun d => d.parameters.length) = some 0 := by decide +kernel
theorem dX12_has_89 : decode cX12_has 89 = .ok (.ireturn, 1) := by decide +kernel
set_option maxRecDepth 4000 in
theorem c_X12_has_241 {l : Launch} {D : va_G} {B : Nat} {cy : Nat → ClassId} {M : Mem} (h0 : M.1 146 5 = 0) (h1 : M.1 147 0 = 0) (h2 : M.1 148 0 = 0) (h3 : M.1 147 1 = 0) (h4 : M.1 148 1 = 0) (h5 : M.1 147 2 = 0) (h6 : M.1 148 2 = 0) (h7 : M.1 147 3 = 0) (h8 : M.1 148 3 = 0) (h9 : M.1 147 4 = 0) (h10 : M.1 148 4 = 0) (h11 : M.1 147 5 = 0) (h12 : M.1 148 5 = 0) (h13 : M.1 147 6 = 0) (h14 : M.1 148 6 = 0) (h15 : M.1 147 7 = 0) (h16 : M.1 148 7 = 0) (h17 : M.1 147 8 = 0) (h18 : M.1 148 8 = 0) (h19 : M.1 147 9 = 0) (h20 : M.1 148 9 = 0) (h21 : M.1 147 10 = 0) (h22 : M.1 148 10 = 0) (h23 : M.1 147 11 = 0) (h24 : M.1 148 11 = 0) (h25 : M.1 147 12 = 0) (h26 : M.1 148 12 = 0) (h27 : M.1 147 13 = 0) (h28 : M.1 148 13 = 0) (h29 : M.1 147 14 = 0) (h30 : M.1 148 14 = 0) (h31 : M.1 147 15 = 0) (h32 : M.1 148 15 = 0) (h33 : M.1 147 16 = 0) (h34 : M.1 148 16 = 0) (h35 : M.1 147 17 = 0) (h36 : M.1 148 17 = 0) (h37 : M.1 147 18 = 0) (h38 : M.1 148 18 = 0) (h39 : M.1 147 19 = 0) (h40 : M.1 148 19 = 0) (h41 : M.1 147 20 = 0) (h42 : M.1 148 20 = 0) (h43 : M.1 147 21 = 0) (h44 : M.1 148 21 = 0) (h45 : M.1 147 22 = 0) (h46 : M.1 148 22 = 0) (h47 : M.1 147 23 = 0) (h48 : M.1 148 23 = 0) (h49 : M.1 147 24 = 0) (h50 : M.1 148 24 = 0) (h51 : M.1 147 25 = 0) (h52 : M.1 148 25 = 0) (h53 : M.1 147 26 = 0) (h54 : M.1 148 26 = 0) (h55 : M.1 147 27 = 0) (h56 : M.1 148 27 = 0) : Ci l D B cy yX12_has cX12_has 3 (some .int) 3 66 [.ref (B + 146), .int 0, .int 4] M (fun r M1 => r = 0 ∧ M1 = M) := by
  refine s_any (by decide) (Nat.le_of_ble_eq_true rfl) ?_
  intro p e s m below meth c ls F hr hlocks w hl
  have F : CallFix p m c cX12_has 3 s _ TB RX12 := F
  have hx := F.1
  have hb := F.2.1
  have hl : lv_has ls 3 [(0, .ref (B + 146)), (1, .int 0), (2, .int 4)] := hl
  refine lv_aload_n hx hb dX12_has_0 rfl (lv_at hl 0 rfl) ?_
  refine lv_iload_n hx hb dX12_has_1 rfl (lv_at hl 1 rfl) ?_
  refine x_Vi F w (As := [.int 0]) (rest := []) (a := 146) (by decide) (sh_12 rfl _ _) rfl (c_X12_lays_224 (h0) (h1) (h2) (h3) (h4) (h5) (h6) (h7) (h8) (h9) (h10) (h11) (h12) (h13) (h14) (h15) (h16) (h17) (h18) (h19) (h20) (h21) (h22) (h23) (h24) (h25) (h26) (h27) (h28) (h29) (h30) (h31) (h32) (h33) (h34) (h35) (h36) (h37) (h38) (h39) (h40) (h41) (h42) (h43) (h44) (h45) (h46) (h47) (h48) (h49) (h50) (h51) (h52) (h53) (h54) (h55) (h56)) gv_X12_261 hv_X12_lays ⟨Nat.le_of_ble_eq_true rfl, Nat.le_of_ble_eq_true rfl⟩ hl.1 rfl (Nat.le_of_ble_eq_true rfl) ⟨Nat.zero_le _, Nat.zero_le _⟩ dX12_has_2 (fun H locs w => ?_)
  refine lv_if_ne (tgt := 10) hx hb dX12_has_5 (by decide) (fun _ => ?_) (fun c1 => absurd c1 (by decide))
  refine lv_iload_n hx hb dX12_has_10 rfl (lv_at hl 2 rfl) ?_
  refine lv_tableIn (tgt := 85) hx hb dX12_has_11 (by decide) (by decide) (off := 74) rfl (by decide) ?_
  refine lv_aload_n hx hb dX12_has_85 rfl (lv_at hl 0 rfl) ?_
  refine x_Vi F w (As := []) (rest := []) (a := 146) (by decide) (sh_12 rfl _ _) rfl (c_X12_bare_240 (h52)) gv_X12_270 hv_X12_bare ⟨Nat.le_of_ble_eq_true rfl, Nat.le_of_ble_eq_true rfl⟩ hl.1 rfl (Nat.le_of_ble_eq_true rfl) ⟨Nat.zero_le _, Nat.zero_le _⟩ dX12_has_86 (fun H locs w => ?_)
  exact e_i F w hr hlocks ⟨rfl, rfl⟩ dX12_has_89
set_option maxRecDepth 8000 in
theorem la_15_47 {p : Program} {l : Launch} {e : Env} {s : State} {m : MethodId} {below : List Frame} {meth : Method} {c : Code} {D : va_G} {B b : Nat} {cy : Nat → ClassId} {H : Heap} {locs : List Loc} {ls : Array Slot} {xs : Nat → Int32} {Q : State → Prop} (F : CallFix p m c code 4 s #[Value.ref b] TB RL) (hX : va_X b 6 xs s s.heap) (hbl : b < s.heap.size) (hbA : ¬ B ≤ b) (w : Wd D B cy s s.heap M0 H locs) (hl : lv_has ls 4 [(3, .int 0), (2, .ref (B + 146)), (1, .ref (B + 0)), (0, .ref b)]) (x1 : xs 1 = 0) (x2 : xs 2 = 4) (kk : ∀ (M1 : Mem) (H1 : Heap) (locs1 : List Loc), Wd D B cy s s.heap M1 H1 locs1 → W p l e room_1 s m #[Value.ref b] below meth c H1 locs1 159 13107 Q (F0 m 1065 ls [])) : W p l e room_1 s m #[Value.ref b] below meth c H locs 159 13107 Q (F0 m 643 ls []) := by
  have hx := F.1
  have hb := F.2.1
  refine lv_aload_n hx hb dL_law_643 rfl (lv_at hl 2 rfl) ?_
  refine lv_aload_n hx hb dL_law_644 rfl (lv_at hl 3 rfl) ?_
  refine lv_iload_n hx hb dL_law_645 rfl (lv_at hl 0 rfl) ?_
  refine lv_iconst (v := 1) hx hb dL_law_646 (by decide) ?_
  refine lv_iadd hx hb dL_law_647 ?_
  refine r_val (v := 1) (by decide) ?_
  refine va_sld hx hb hX hbl hbA w.2.2.1 (vpi (by decide) (by decide)) dL_law_648 ?_
  refine r_val (v := 0) ((congrArg xs (show (1 : Int32).toNatClampNeg = 1 by decide)).trans x1) ?_
  refine lv_aload_n hx hb dL_law_649 rfl (lv_at hl 3 rfl) ?_
  refine lv_iload_n hx hb dL_law_650 rfl (lv_at hl 0 rfl) ?_
  refine lv_iconst (v := 2) hx hb dL_law_651 (by decide) ?_
  refine lv_iadd hx hb dL_law_652 ?_
  refine r_val (v := 2) (by decide) ?_
  refine va_sld hx hb hX hbl hbA w.2.2.1 (vpi (by decide) (by decide)) dL_law_653 ?_
  refine r_val (v := 4) ((congrArg xs (show (2 : Int32).toNatClampNeg = 2 by decide)).trans x2) ?_
  refine x_Vi F w (As := [.int 0, .int 4]) (rest := []) (a := 0) (by decide) (sh_11 rfl _ _) rfl (c_X11_has_239 (rfl) (rfl) (rfl) (rfl)) gv_L_82 hv_X11_has ⟨Nat.le_of_ble_eq_true rfl, Nat.le_of_ble_eq_true rfl⟩ hl.1 rfl (Nat.le_of_ble_eq_true rfl) ⟨Nat.le_of_ble_eq_true rfl, Nat.le_of_ble_eq_true rfl⟩ dL_law_654 (fun H locs w => ?_)
  refine lv_aload_n hx hb dL_law_657 rfl (lv_at hl 1 rfl) ?_
  refine lv_aload_n hx hb dL_law_658 rfl (lv_at hl 3 rfl) ?_
  refine lv_iload_n hx hb dL_law_659 rfl (lv_at hl 0 rfl) ?_
  refine lv_iconst (v := 1) hx hb dL_law_660 (by decide) ?_
  refine lv_iadd hx hb dL_law_661 ?_
  refine r_val (v := 1) (by decide) ?_
  refine va_sld hx hb hX hbl hbA w.2.2.1 (vpi (by decide) (by decide)) dL_law_662 ?_
  refine r_val (v := 0) ((congrArg xs (show (1 : Int32).toNatClampNeg = 1 by decide)).trans x1) ?_
  refine lv_aload_n hx hb dL_law_663 rfl (lv_at hl 3 rfl) ?_
  refine lv_iload_n hx hb dL_law_664 rfl (lv_at hl 0 rfl) ?_
  refine lv_iconst (v := 2) hx hb dL_law_665 (by decide) ?_
  refine lv_iadd hx hb dL_law_666 ?_
  refine r_val (v := 2) (by decide) ?_
  refine va_sld hx hb hX hbl hbA w.2.2.1 (vpi (by decide) (by decide)) dL_law_667 ?_
  refine r_val (v := 4) ((congrArg xs (show (2 : Int32).toNatClampNeg = 2 by decide)).trans x2) ?_
  refine x_Vi F w (As := [.int 0, .int 4]) (rest := [.int 0]) (a := 146) (by decide) (sh_12 rfl _ _) rfl (c_X12_has_241 (rfl) (rfl) (rfl) (rfl) (rfl) (rfl) (rfl) (rfl) (rfl) (rfl) (rfl) (rfl) (rfl) (rfl) (rfl) (rfl) (rfl) (rfl) (rfl) (rfl) (rfl) (rfl) (rfl) (rfl) (rfl) (rfl) (rfl) (rfl) (rfl) (rfl) (rfl) (rfl) (rfl) (rfl) (rfl) (rfl) (rfl) (rfl) (rfl) (rfl) (rfl) (rfl) (rfl) (rfl) (rfl) (rfl) (rfl) (rfl) (rfl) (rfl) (rfl) (rfl) (rfl) (rfl) (rfl) (rfl) (rfl)) gv_L_85 hv_X12_has ⟨Nat.le_of_ble_eq_true rfl, Nat.le_of_ble_eq_true rfl⟩ hl.1 rfl (Nat.le_of_ble_eq_true rfl) ⟨Nat.le_of_ble_eq_true rfl, Nat.le_of_ble_eq_true rfl⟩ dL_law_668 (fun H locs w => ?_)
  refine lv_icmp_eq (tgt := 1065) hx hb dL_law_671 (by decide) (fun _ => ?_) (fun c1 => absurd c1 (by decide))
  exact kk _ _ _ w
theorem dX11_has_97 : decode cX11_has 97 = .ok (.aload_n 3, 1) := by decide +kernel
theorem dX11_has_98 : decode cX11_has 98 = .ok (.aload_n 3, 1) := by decide +kernel
theorem dX11_has_99 : decode cX11_has 99 = .ok (.getfield 100, 3) := by decide +kernel
theorem dX11_has_102 : decode cX11_has 102 = .ok (.iconst 1, 1) := by decide +kernel
theorem dX11_has_103 : decode cX11_has 103 = .ok (.isub, 1) := by decide +kernel
theorem dX11_has_104 : decode cX11_has 104 = .ok (.invokevirtual 216, 3) := by decide +kernel
theorem dX9_fallsUpTo_0 : decode cX9_fallsUpTo 0 = .ok (.iconst 0, 1) := by decide +kernel
theorem dX9_fallsUpTo_1 : decode cX9_fallsUpTo 1 = .ok (.istore_n 2, 1) := by decide +kernel
theorem dX9_fallsUpTo_2 : decode cX9_fallsUpTo 2 = .ok (.iconst 0, 1) := by decide +kernel
theorem dX9_fallsUpTo_3 : decode cX9_fallsUpTo 3 = .ok (.istore_n 3, 1) := by decide +kernel
theorem dX9_fallsUpTo_4 : decode cX9_fallsUpTo 4 = .ok (.iconst 0, 1) := by decide +kernel
theorem dX9_fallsUpTo_5 : decode cX9_fallsUpTo 5 = .ok (.istore 4, 2) := by decide +kernel
theorem dX9_fallsUpTo_7 : decode cX9_fallsUpTo 7 = .ok (.iconst 0, 1) := by decide +kernel
theorem dX9_fallsUpTo_8 : decode cX9_fallsUpTo 8 = .ok (.istore 5, 2) := by decide +kernel
theorem dX9_fallsUpTo_10 : decode cX9_fallsUpTo 10 = .ok (.iload 5, 2) := by decide +kernel
theorem dX9_fallsUpTo_12 : decode cX9_fallsUpTo 12 = .ok (.iload_n 1, 1) := by decide +kernel
theorem dX9_fallsUpTo_13 : decode cX9_fallsUpTo 13 = .ok (.if_icmp .gt 62, 3) := by decide +kernel
theorem dX9_fallsUpTo_75 : decode cX9_fallsUpTo 75 = .ok (.iload_n 2, 1) := by decide +kernel
theorem dX9_fallsUpTo_76 : decode cX9_fallsUpTo 76 = .ok (.ireturn, 1) := by decide +kernel
set_option maxRecDepth 4000 in
theorem c_X9_fallsUpTo_242 {l : Launch} {D : va_G} {B : Nat} {cy : Nat → ClassId} {M : Mem} : Ci l D B cy yX9_fallsUpTo cX9_fallsUpTo 6 (some .int) 0 0 [.ref (B + 44), .int (-1)] M (fun r M1 => r = 0 ∧ M1 = M) := by
  refine s_any (by decide) (Nat.le_of_ble_eq_true rfl) ?_
  intro p e s m below meth c ls F hr hlocks w hl
  have F : CallFix p m c cX9_fallsUpTo 6 s _ TB RX9 := F
  have hx := F.1
  have hb := F.2.1
  have hl : lv_has ls 6 [(0, .ref (B + 44)), (1, .int (-1))] := hl
  refine lv_iconst (v := 0) hx hb dX9_fallsUpTo_0 (by decide) ?_
  refine lv_istore_n (lv' := [(2, .int 0), (0, .ref (B + 44)), (1, .int (-1))]) hx hb dX9_fallsUpTo_1 rfl hl (by decide) rfl (fun ls hl => ?_)
  refine lv_iconst (v := 0) hx hb dX9_fallsUpTo_2 (by decide) ?_
  refine lv_istore_n (lv' := [(3, .int 0), (2, .int 0), (0, .ref (B + 44)), (1, .int (-1))]) hx hb dX9_fallsUpTo_3 rfl hl (by decide) rfl (fun ls hl => ?_)
  refine lv_iconst (v := 0) hx hb dX9_fallsUpTo_4 (by decide) ?_
  refine lv_istore (lv' := [(4, .int 0), (3, .int 0), (2, .int 0), (0, .ref (B + 44)), (1, .int (-1))]) hx hb dX9_fallsUpTo_5 hl (by decide) rfl (fun ls hl => ?_)
  refine lv_iconst (v := 0) hx hb dX9_fallsUpTo_7 (by decide) ?_
  refine lv_istore (lv' := [(5, .int 0), (4, .int 0), (3, .int 0), (2, .int 0), (0, .ref (B + 44)), (1, .int (-1))]) hx hb dX9_fallsUpTo_8 hl (by decide) rfl (fun ls hl => ?_)
  refine lv_iload hx hb dX9_fallsUpTo_10 (lv_at hl 0 rfl) ?_
  refine lv_iload_n hx hb dX9_fallsUpTo_12 rfl (lv_at hl 5 rfl) ?_
  refine lv_icmp_gt (tgt := 75) hx hb dX9_fallsUpTo_13 (by decide) (fun _ => ?_) (fun c1 => absurd c1 (by decide))
  refine lv_iload_n hx hb dX9_fallsUpTo_75 rfl (lv_at hl 3 rfl) ?_
  exact e_i F w hr hlocks ⟨rfl, rfl⟩ dX9_fallsUpTo_76
theorem tk_X9_fallsUpTo : Cond.code yX9_fallsUpTo cX9_fallsUpTo 6 (some .int) ∈ TB := tbm (tc4 (List.mem_of_getElem? (i := 138) rfl)) rfl
theorem gc_X9_fallsUpTo : GoodIn TB (cw yX9_fallsUpTo cX9_fallsUpTo 6 (some .int)) := goodIn_c2 tk_X9_fallsUpTo
theorem tb_408 : Cond.methodLink "ToneLines" 216 yX9_fallsUpTo ∈ TB := tbm (tc4 (List.mem_of_getElem? (i := 135) rfl)) rfl
theorem tb_409 : Cond.instanceMethod yX9_fallsUpTo ∈ TB := tbm (tc4 (List.mem_of_getElem? (i := 136) rfl)) rfl
theorem tb_410 : Cond.selects "ToneLines$Word" yX9_fallsUpTo yX9_fallsUpTo ∈ TB := tbm (tc4 (List.mem_of_getElem? (i := 137) rfl)) rfl
theorem gv_X11_216 : GoodIn TB (wsV RX11 216 RX9 yX9_fallsUpTo (cw yX9_fallsUpTo cX9_fallsUpTo 6 (some .int))) := goodIn_4 tb_408 tb_409 tb_410 tb_61 gc_X9_fallsUpTo
theorem hv_X9_fallsUpTo : yX9_fallsUpTo.cls = RX9 ∧ yX9_fallsUpTo.cls ≠ "java/lang/invoke/MethodHandle" ∧ yX9_fallsUpTo.cls ≠ "java/lang/invoke/VarHandle" ∧ (parseMethodDescriptor yX9_fallsUpTo.desc).map (fun d => d.parameters.length) = some 1 := by decide +kernel
theorem dX11_has_107 : decode cX11_has 107 = .ok (.ireturn, 1) := by decide +kernel
set_option maxRecDepth 4000 in
theorem c_X11_has_243 {l : Launch} {D : va_G} {B : Nat} {cy : Nat → ClassId} {M : Mem} (h0 : M.1 22 2 = 0) (h1 : M.1 22 7 = 0) (h2 : M.1 44 0 = 0) : Ci l D B cy yX11_has cX11_has 4 (some .int) 2 43 [.ref (B + 0), .int 0, .int 5] M (fun r M1 => r = 0 ∧ M1 = M) := by
  refine s_any (by decide) (Nat.le_of_ble_eq_true rfl) ?_
  intro p e s m below meth c ls F hr hlocks w hl
  have F : CallFix p m c cX11_has 4 s _ TB RX11 := F
  have hx := F.1
  have hb := F.2.1
  have hl : lv_has ls 4 [(0, .ref (B + 0)), (1, .int 0), (2, .int 5)] := hl
  refine lv_aload_n hx hb dX11_has_0 rfl (lv_at hl 0 rfl) ?_
  refine f_11_3 F w (a := 0) rfl tb_73 dX11_has_1 ?_
  refine lv_iload_n hx hb dX11_has_4 rfl (lv_at hl 1 rfl) ?_
  refine x_Vi F w (As := [.int 0]) (rest := []) (a := 22) (by decide) (sh_0 rfl _ _) rfl (c_X0_covers_206 (h0)) gv_X11_193 hv_X0_covers ⟨Nat.le_of_ble_eq_true rfl, Nat.le_of_ble_eq_true rfl⟩ hl.1 rfl (Nat.le_of_ble_eq_true rfl) ⟨Nat.zero_le _, Nat.zero_le _⟩ dX11_has_5 (fun H locs w => ?_)
  refine lv_if_ne (tgt := 13) hx hb dX11_has_8 (by decide) (fun _ => ?_) (fun c1 => absurd c1 (by decide))
  refine lv_aload_n hx hb dX11_has_13 rfl (lv_at hl 0 rfl) ?_
  refine f_11_3 F w (a := 0) rfl tb_73 dX11_has_14 ?_
  refine lv_iload_n hx hb dX11_has_17 rfl (lv_at hl 1 rfl) ?_
  refine x_Vr F w (As := [.int 0]) (rest := []) (a := 22) (by decide) (sh_0 rfl _ _) rfl (c_X0_stageOf_207 (h0) (h1)) gv_X11_196 hv_X0_stageOf ⟨Nat.le_of_ble_eq_true rfl, Nat.le_of_ble_eq_true rfl⟩ hl.1 rfl (Nat.le_of_ble_eq_true rfl) ⟨Nat.zero_le _, Nat.zero_le _⟩ dX11_has_18 (fun H locs w => ?_)
  refine lv_astore_n (lv' := [(3, .ref (B + 44)), (0, .ref (B + 0)), (1, .int 0), (2, .int 5)]) hx hb dX11_has_21 rfl hl (by decide) rfl (fun ls hl => ?_)
  refine lv_iload_n hx hb dX11_has_22 rfl (lv_at hl 3 rfl) ?_
  refine lv_tableIn (tgt := 97) hx hb dX11_has_23 (by decide) (by decide) (off := 74) rfl (by decide) ?_
  refine lv_aload_n hx hb dX11_has_97 rfl (lv_at hl 0 rfl) ?_
  refine lv_aload_n hx hb dX11_has_98 rfl (lv_at hl 0 rfl) ?_
  refine f_9_0 F w (a := 44) rfl tb_260 dX11_has_99 ?_
  refine r_val (v := 0) (h2) ?_
  refine lv_iconst (v := 1) hx hb dX11_has_102 (by decide) ?_
  refine lv_isub hx hb dX11_has_103 ?_
  refine r_val (v := (-1)) (by decide) ?_
  refine x_Vi F w (As := [.int (-1)]) (rest := []) (a := 44) (by decide) (sh_9 rfl _ _) rfl (c_X9_fallsUpTo_242) gv_X11_216 hv_X9_fallsUpTo ⟨Nat.le_of_ble_eq_true rfl, Nat.le_of_ble_eq_true rfl⟩ hl.1 rfl (Nat.le_of_ble_eq_true rfl) ⟨Nat.zero_le _, Nat.zero_le _⟩ dX11_has_104 (fun H locs w => ?_)
  exact e_i F w hr hlocks ⟨rfl, rfl⟩ dX11_has_107
theorem dX12_has_90 : decode cX12_has 90 = .ok (.aload_n 0, 1) := by decide +kernel
theorem dX12_has_91 : decode cX12_has 91 = .ok (.aload_n 0, 1) := by decide +kernel
theorem dX12_has_92 : decode cX12_has 92 = .ok (.getfield 17, 3) := by decide +kernel
theorem dX12_has_95 : decode cX12_has 95 = .ok (.iconst 0, 1) := by decide +kernel
theorem dX12_has_96 : decode cX12_has 96 = .ok (.iaload, 1) := by decide +kernel
theorem dX12_has_97 : decode cX12_has 97 = .ok (.iconst 1, 1) := by decide +kernel
theorem dX12_has_98 : decode cX12_has 98 = .ok (.isub, 1) := by decide +kernel
theorem dX12_has_99 : decode cX12_has 99 = .ok (.invokevirtual 273, 3) := by decide +kernel
theorem dX12_fallsTo_0 : decode cX12_fallsTo 0 = .ok (.iconst 0, 1) := by decide +kernel
theorem dX12_fallsTo_1 : decode cX12_fallsTo 1 = .ok (.istore_n 2, 1) := by decide +kernel
theorem dX12_fallsTo_2 : decode cX12_fallsTo 2 = .ok (.iconst 0, 1) := by decide +kernel
theorem dX12_fallsTo_3 : decode cX12_fallsTo 3 = .ok (.istore_n 3, 1) := by decide +kernel
theorem dX12_fallsTo_4 : decode cX12_fallsTo 4 = .ok (.iload_n 3, 1) := by decide +kernel
theorem dX12_fallsTo_5 : decode cX12_fallsTo 5 = .ok (.iload_n 1, 1) := by decide +kernel
theorem dX12_fallsTo_6 : decode cX12_fallsTo 6 = .ok (.if_icmp .gt 20, 3) := by decide +kernel
theorem dX12_fallsTo_26 : decode cX12_fallsTo 26 = .ok (.iload_n 2, 1) := by decide +kernel
theorem dX12_fallsTo_27 : decode cX12_fallsTo 27 = .ok (.ireturn, 1) := by decide +kernel
set_option maxRecDepth 4000 in
theorem c_X12_fallsTo_244 {l : Launch} {D : va_G} {B : Nat} {cy : Nat → ClassId} {M : Mem} : Ci l D B cy yX12_fallsTo cX12_fallsTo 4 (some .int) 0 0 [.ref (B + 146), .int (-1)] M (fun r M1 => r = 0 ∧ M1 = M) := by
  refine s_any (by decide) (Nat.le_of_ble_eq_true rfl) ?_
  intro p e s m below meth c ls F hr hlocks w hl
  have F : CallFix p m c cX12_fallsTo 4 s _ TB RX12 := F
  have hx := F.1
  have hb := F.2.1
  have hl : lv_has ls 4 [(0, .ref (B + 146)), (1, .int (-1))] := hl
  refine lv_iconst (v := 0) hx hb dX12_fallsTo_0 (by decide) ?_
  refine lv_istore_n (lv' := [(2, .int 0), (0, .ref (B + 146)), (1, .int (-1))]) hx hb dX12_fallsTo_1 rfl hl (by decide) rfl (fun ls hl => ?_)
  refine lv_iconst (v := 0) hx hb dX12_fallsTo_2 (by decide) ?_
  refine lv_istore_n (lv' := [(3, .int 0), (2, .int 0), (0, .ref (B + 146)), (1, .int (-1))]) hx hb dX12_fallsTo_3 rfl hl (by decide) rfl (fun ls hl => ?_)
  refine lv_iload_n hx hb dX12_fallsTo_4 rfl (lv_at hl 0 rfl) ?_
  refine lv_iload_n hx hb dX12_fallsTo_5 rfl (lv_at hl 3 rfl) ?_
  refine lv_icmp_gt (tgt := 26) hx hb dX12_fallsTo_6 (by decide) (fun _ => ?_) (fun c1 => absurd c1 (by decide))
  refine lv_iload_n hx hb dX12_fallsTo_26 rfl (lv_at hl 1 rfl) ?_
  exact e_i F w hr hlocks ⟨rfl, rfl⟩ dX12_fallsTo_27
theorem tk_X12_fallsTo : Cond.code yX12_fallsTo cX12_fallsTo 4 (some .int) ∈ TB := tbm (tc6 (List.mem_of_getElem? (i := 169) rfl)) rfl
theorem gc_X12_fallsTo : GoodIn TB (cw yX12_fallsTo cX12_fallsTo 4 (some .int)) := goodIn_c2 tk_X12_fallsTo
theorem tb_411 : Cond.methodLink "ToneLinesModel" 273 yX12_fallsTo ∈ TB := tbm (tc6 (List.mem_of_getElem? (i := 166) rfl)) rfl
theorem tb_412 : Cond.instanceMethod yX12_fallsTo ∈ TB := tbm (tc6 (List.mem_of_getElem? (i := 168) rfl)) rfl
theorem tb_413 : Cond.selects "ToneLinesModel" yX12_fallsTo yX12_fallsTo ∈ TB := tbp (List.mem_of_getElem? (i := 76) rfl) rfl
theorem gv_X12_273 : GoodIn TB (wsV RX12 273 RX12 yX12_fallsTo (cw yX12_fallsTo cX12_fallsTo 4 (some .int))) := goodIn_4 tb_411 tb_412 tb_413 tb_150 gc_X12_fallsTo
theorem hv_X12_fallsTo : yX12_fallsTo.cls = RX12 ∧ yX12_fallsTo.cls ≠ "java/lang/invoke/MethodHandle" ∧ yX12_fallsTo.cls ≠ "java/lang/invoke/VarHandle" ∧ (parseMethodDescriptor yX12_fallsTo.desc).map (fun d => d.parameters.length) = some 1 := by decide +kernel
theorem dX12_has_102 : decode cX12_has 102 = .ok (.ireturn, 1) := by decide +kernel
set_option maxRecDepth 4000 in
theorem c_X12_has_245 {l : Launch} {D : va_G} {B : Nat} {cy : Nat → ClassId} {M : Mem} (h0 : M.1 146 5 = 0) (h1 : M.1 147 0 = 0) (h2 : M.1 148 0 = 0) (h3 : M.1 147 1 = 0) (h4 : M.1 148 1 = 0) (h5 : M.1 147 2 = 0) (h6 : M.1 148 2 = 0) (h7 : M.1 147 3 = 0) (h8 : M.1 148 3 = 0) (h9 : M.1 147 4 = 0) (h10 : M.1 148 4 = 0) (h11 : M.1 147 5 = 0) (h12 : M.1 148 5 = 0) (h13 : M.1 147 6 = 0) (h14 : M.1 148 6 = 0) (h15 : M.1 147 7 = 0) (h16 : M.1 148 7 = 0) (h17 : M.1 147 8 = 0) (h18 : M.1 148 8 = 0) (h19 : M.1 147 9 = 0) (h20 : M.1 148 9 = 0) (h21 : M.1 147 10 = 0) (h22 : M.1 148 10 = 0) (h23 : M.1 147 11 = 0) (h24 : M.1 148 11 = 0) (h25 : M.1 147 12 = 0) (h26 : M.1 148 12 = 0) (h27 : M.1 147 13 = 0) (h28 : M.1 148 13 = 0) (h29 : M.1 147 14 = 0) (h30 : M.1 148 14 = 0) (h31 : M.1 147 15 = 0) (h32 : M.1 148 15 = 0) (h33 : M.1 147 16 = 0) (h34 : M.1 148 16 = 0) (h35 : M.1 147 17 = 0) (h36 : M.1 148 17 = 0) (h37 : M.1 147 18 = 0) (h38 : M.1 148 18 = 0) (h39 : M.1 147 19 = 0) (h40 : M.1 148 19 = 0) (h41 : M.1 147 20 = 0) (h42 : M.1 148 20 = 0) (h43 : M.1 147 21 = 0) (h44 : M.1 148 21 = 0) (h45 : M.1 147 22 = 0) (h46 : M.1 148 22 = 0) (h47 : M.1 147 23 = 0) (h48 : M.1 148 23 = 0) (h49 : M.1 147 24 = 0) (h50 : M.1 148 24 = 0) (h51 : M.1 147 25 = 0) (h52 : M.1 148 25 = 0) (h53 : M.1 147 26 = 0) (h54 : M.1 148 26 = 0) (h55 : M.1 147 27 = 0) (h56 : M.1 148 27 = 0) : Ci l D B cy yX12_has cX12_has 3 (some .int) 3 66 [.ref (B + 146), .int 0, .int 5] M (fun r M1 => r = 0 ∧ M1 = M) := by
  refine s_any (by decide) (Nat.le_of_ble_eq_true rfl) ?_
  intro p e s m below meth c ls F hr hlocks w hl
  have F : CallFix p m c cX12_has 3 s _ TB RX12 := F
  have hx := F.1
  have hb := F.2.1
  have hl : lv_has ls 3 [(0, .ref (B + 146)), (1, .int 0), (2, .int 5)] := hl
  refine lv_aload_n hx hb dX12_has_0 rfl (lv_at hl 0 rfl) ?_
  refine lv_iload_n hx hb dX12_has_1 rfl (lv_at hl 1 rfl) ?_
  refine x_Vi F w (As := [.int 0]) (rest := []) (a := 146) (by decide) (sh_12 rfl _ _) rfl (c_X12_lays_224 (h0) (h1) (h2) (h3) (h4) (h5) (h6) (h7) (h8) (h9) (h10) (h11) (h12) (h13) (h14) (h15) (h16) (h17) (h18) (h19) (h20) (h21) (h22) (h23) (h24) (h25) (h26) (h27) (h28) (h29) (h30) (h31) (h32) (h33) (h34) (h35) (h36) (h37) (h38) (h39) (h40) (h41) (h42) (h43) (h44) (h45) (h46) (h47) (h48) (h49) (h50) (h51) (h52) (h53) (h54) (h55) (h56)) gv_X12_261 hv_X12_lays ⟨Nat.le_of_ble_eq_true rfl, Nat.le_of_ble_eq_true rfl⟩ hl.1 rfl (Nat.le_of_ble_eq_true rfl) ⟨Nat.zero_le _, Nat.zero_le _⟩ dX12_has_2 (fun H locs w => ?_)
  refine lv_if_ne (tgt := 10) hx hb dX12_has_5 (by decide) (fun _ => ?_) (fun c1 => absurd c1 (by decide))
  refine lv_iload_n hx hb dX12_has_10 rfl (lv_at hl 2 rfl) ?_
  refine lv_tableIn (tgt := 90) hx hb dX12_has_11 (by decide) (by decide) (off := 79) rfl (by decide) ?_
  refine lv_aload_n hx hb dX12_has_90 rfl (lv_at hl 0 rfl) ?_
  refine lv_aload_n hx hb dX12_has_91 rfl (lv_at hl 0 rfl) ?_
  refine f_12_2 F w (a := 146) rfl tb_127 dX12_has_92 ?_
  refine lv_iconst (v := 0) hx hb dX12_has_95 (by decide) ?_
  refine g_iald F w (a := 148) rfl (j := 0) ⟨by decide, by decide⟩ (by decide) dX12_has_96 ?_
  refine r_val (v := 0) (h2) ?_
  refine lv_iconst (v := 1) hx hb dX12_has_97 (by decide) ?_
  refine lv_isub hx hb dX12_has_98 ?_
  refine r_val (v := (-1)) (by decide) ?_
  refine x_Vi F w (As := [.int (-1)]) (rest := []) (a := 146) (by decide) (sh_12 rfl _ _) rfl (c_X12_fallsTo_244) gv_X12_273 hv_X12_fallsTo ⟨Nat.le_of_ble_eq_true rfl, Nat.le_of_ble_eq_true rfl⟩ hl.1 rfl (Nat.le_of_ble_eq_true rfl) ⟨Nat.zero_le _, Nat.zero_le _⟩ dX12_has_99 (fun H locs w => ?_)
  exact e_i F w hr hlocks ⟨rfl, rfl⟩ dX12_has_102
set_option maxRecDepth 8000 in
theorem la_15_48 {p : Program} {l : Launch} {e : Env} {s : State} {m : MethodId} {below : List Frame} {meth : Method} {c : Code} {D : va_G} {B b : Nat} {cy : Nat → ClassId} {H : Heap} {locs : List Loc} {ls : Array Slot} {xs : Nat → Int32} {Q : State → Prop} (F : CallFix p m c code 4 s #[Value.ref b] TB RL) (hX : va_X b 6 xs s s.heap) (hbl : b < s.heap.size) (hbA : ¬ B ≤ b) (w : Wd D B cy s s.heap M0 H locs) (hl : lv_has ls 4 [(3, .int 0), (2, .ref (B + 146)), (1, .ref (B + 0)), (0, .ref b)]) (x1 : xs 1 = 0) (x2 : xs 2 = 5) (kk : ∀ (M1 : Mem) (H1 : Heap) (locs1 : List Loc), Wd D B cy s s.heap M1 H1 locs1 → W p l e room_1 s m #[Value.ref b] below meth c H1 locs1 159 13107 Q (F0 m 1065 ls [])) : W p l e room_1 s m #[Value.ref b] below meth c H locs 159 13107 Q (F0 m 643 ls []) := by
  have hx := F.1
  have hb := F.2.1
  refine lv_aload_n hx hb dL_law_643 rfl (lv_at hl 2 rfl) ?_
  refine lv_aload_n hx hb dL_law_644 rfl (lv_at hl 3 rfl) ?_
  refine lv_iload_n hx hb dL_law_645 rfl (lv_at hl 0 rfl) ?_
  refine lv_iconst (v := 1) hx hb dL_law_646 (by decide) ?_
  refine lv_iadd hx hb dL_law_647 ?_
  refine r_val (v := 1) (by decide) ?_
  refine va_sld hx hb hX hbl hbA w.2.2.1 (vpi (by decide) (by decide)) dL_law_648 ?_
  refine r_val (v := 0) ((congrArg xs (show (1 : Int32).toNatClampNeg = 1 by decide)).trans x1) ?_
  refine lv_aload_n hx hb dL_law_649 rfl (lv_at hl 3 rfl) ?_
  refine lv_iload_n hx hb dL_law_650 rfl (lv_at hl 0 rfl) ?_
  refine lv_iconst (v := 2) hx hb dL_law_651 (by decide) ?_
  refine lv_iadd hx hb dL_law_652 ?_
  refine r_val (v := 2) (by decide) ?_
  refine va_sld hx hb hX hbl hbA w.2.2.1 (vpi (by decide) (by decide)) dL_law_653 ?_
  refine r_val (v := 5) ((congrArg xs (show (2 : Int32).toNatClampNeg = 2 by decide)).trans x2) ?_
  refine x_Vi F w (As := [.int 0, .int 5]) (rest := []) (a := 0) (by decide) (sh_11 rfl _ _) rfl (c_X11_has_243 (rfl) (rfl) (rfl)) gv_L_82 hv_X11_has ⟨Nat.le_of_ble_eq_true rfl, Nat.le_of_ble_eq_true rfl⟩ hl.1 rfl (Nat.le_of_ble_eq_true rfl) ⟨Nat.le_of_ble_eq_true rfl, Nat.le_of_ble_eq_true rfl⟩ dL_law_654 (fun H locs w => ?_)
  refine lv_aload_n hx hb dL_law_657 rfl (lv_at hl 1 rfl) ?_
  refine lv_aload_n hx hb dL_law_658 rfl (lv_at hl 3 rfl) ?_
  refine lv_iload_n hx hb dL_law_659 rfl (lv_at hl 0 rfl) ?_
  refine lv_iconst (v := 1) hx hb dL_law_660 (by decide) ?_
  refine lv_iadd hx hb dL_law_661 ?_
  refine r_val (v := 1) (by decide) ?_
  refine va_sld hx hb hX hbl hbA w.2.2.1 (vpi (by decide) (by decide)) dL_law_662 ?_
  refine r_val (v := 0) ((congrArg xs (show (1 : Int32).toNatClampNeg = 1 by decide)).trans x1) ?_
  refine lv_aload_n hx hb dL_law_663 rfl (lv_at hl 3 rfl) ?_
  refine lv_iload_n hx hb dL_law_664 rfl (lv_at hl 0 rfl) ?_
  refine lv_iconst (v := 2) hx hb dL_law_665 (by decide) ?_
  refine lv_iadd hx hb dL_law_666 ?_
  refine r_val (v := 2) (by decide) ?_
  refine va_sld hx hb hX hbl hbA w.2.2.1 (vpi (by decide) (by decide)) dL_law_667 ?_
  refine r_val (v := 5) ((congrArg xs (show (2 : Int32).toNatClampNeg = 2 by decide)).trans x2) ?_
  refine x_Vi F w (As := [.int 0, .int 5]) (rest := [.int 0]) (a := 146) (by decide) (sh_12 rfl _ _) rfl (c_X12_has_245 (rfl) (rfl) (rfl) (rfl) (rfl) (rfl) (rfl) (rfl) (rfl) (rfl) (rfl) (rfl) (rfl) (rfl) (rfl) (rfl) (rfl) (rfl) (rfl) (rfl) (rfl) (rfl) (rfl) (rfl) (rfl) (rfl) (rfl) (rfl) (rfl) (rfl) (rfl) (rfl) (rfl) (rfl) (rfl) (rfl) (rfl) (rfl) (rfl) (rfl) (rfl) (rfl) (rfl) (rfl) (rfl) (rfl) (rfl) (rfl) (rfl) (rfl) (rfl) (rfl) (rfl) (rfl) (rfl) (rfl) (rfl)) gv_L_85 hv_X12_has ⟨Nat.le_of_ble_eq_true rfl, Nat.le_of_ble_eq_true rfl⟩ hl.1 rfl (Nat.le_of_ble_eq_true rfl) ⟨Nat.le_of_ble_eq_true rfl, Nat.le_of_ble_eq_true rfl⟩ dL_law_668 (fun H locs w => ?_)
  refine lv_icmp_eq (tgt := 1065) hx hb dL_law_671 (by decide) (fun _ => ?_) (fun c1 => absurd c1 (by decide))
  exact kk _ _ _ w
theorem dX11_has_108 : decode cX11_has 108 = .ok (.aload_n 3, 1) := by decide +kernel
theorem dX11_has_109 : decode cX11_has 109 = .ok (.invokevirtual 219, 3) := by decide +kernel
theorem dX9_mostTones_0 : decode cX9_mostTones 0 = .ok (.iconst 0, 1) := by decide +kernel
theorem dX9_mostTones_1 : decode cX9_mostTones 1 = .ok (.istore_n 1, 1) := by decide +kernel
theorem dX9_mostTones_2 : decode cX9_mostTones 2 = .ok (.iconst 0, 1) := by decide +kernel
theorem dX9_mostTones_3 : decode cX9_mostTones 3 = .ok (.istore_n 2, 1) := by decide +kernel
theorem dX9_mostTones_4 : decode cX9_mostTones 4 = .ok (.iload_n 2, 1) := by decide +kernel
theorem dX9_mostTones_5 : decode cX9_mostTones 5 = .ok (.aload_n 0, 1) := by decide +kernel
theorem dX9_mostTones_6 : decode cX9_mostTones 6 = .ok (.getfield 15, 3) := by decide +kernel
theorem dX9_mostTones_9 : decode cX9_mostTones 9 = .ok (.if_icmp .ge 22, 3) := by decide +kernel
theorem dX9_mostTones_31 : decode cX9_mostTones 31 = .ok (.iload_n 1, 1) := by decide +kernel
theorem dX9_mostTones_32 : decode cX9_mostTones 32 = .ok (.ireturn, 1) := by decide +kernel
set_option maxRecDepth 4000 in
theorem c_X9_mostTones_246 {l : Launch} {D : va_G} {B : Nat} {cy : Nat → ClassId} {M : Mem} (h0 : M.1 44 1 = 0) : Ci l D B cy yX9_mostTones cX9_mostTones 3 (some .int) 0 0 [.ref (B + 44)] M (fun r M1 => r = 0 ∧ M1 = M) := by
  refine s_any (by decide) (Nat.le_of_ble_eq_true rfl) ?_
  intro p e s m below meth c ls F hr hlocks w hl
  have F : CallFix p m c cX9_mostTones 3 s _ TB RX9 := F
  have hx := F.1
  have hb := F.2.1
  have hl : lv_has ls 3 [(0, .ref (B + 44))] := hl
  refine lv_iconst (v := 0) hx hb dX9_mostTones_0 (by decide) ?_
  refine lv_istore_n (lv' := [(1, .int 0), (0, .ref (B + 44))]) hx hb dX9_mostTones_1 rfl hl (by decide) rfl (fun ls hl => ?_)
  refine lv_iconst (v := 0) hx hb dX9_mostTones_2 (by decide) ?_
  refine lv_istore_n (lv' := [(2, .int 0), (1, .int 0), (0, .ref (B + 44))]) hx hb dX9_mostTones_3 rfl hl (by decide) rfl (fun ls hl => ?_)
  refine lv_iload_n hx hb dX9_mostTones_4 rfl (lv_at hl 0 rfl) ?_
  refine lv_aload_n hx hb dX9_mostTones_5 rfl (lv_at hl 2 rfl) ?_
  refine f_9_1 F w (a := 44) rfl tb_64 dX9_mostTones_6 ?_
  refine r_val (v := 0) (h0) ?_
  refine lv_icmp_ge (tgt := 31) hx hb dX9_mostTones_9 (by decide) (fun _ => ?_) (fun c1 => absurd c1 (by decide))
  refine lv_iload_n hx hb dX9_mostTones_31 rfl (lv_at hl 1 rfl) ?_
  exact e_i F w hr hlocks ⟨rfl, rfl⟩ dX9_mostTones_32
theorem tk_X9_mostTones : Cond.code yX9_mostTones cX9_mostTones 3 (some .int) ∈ TB := tbm (tc4 (List.mem_of_getElem? (i := 142) rfl)) rfl
theorem gc_X9_mostTones : GoodIn TB (cw yX9_mostTones cX9_mostTones 3 (some .int)) := goodIn_c2 tk_X9_mostTones
theorem tb_414 : Cond.methodLink "ToneLines" 219 yX9_mostTones ∈ TB := tbm (tc4 (List.mem_of_getElem? (i := 139) rfl)) rfl
theorem tb_415 : Cond.instanceMethod yX9_mostTones ∈ TB := tbm (tc4 (List.mem_of_getElem? (i := 140) rfl)) rfl
theorem tb_416 : Cond.selects "ToneLines$Word" yX9_mostTones yX9_mostTones ∈ TB := tbm (tc4 (List.mem_of_getElem? (i := 141) rfl)) rfl
theorem gv_X11_219 : GoodIn TB (wsV RX11 219 RX9 yX9_mostTones (cw yX9_mostTones cX9_mostTones 3 (some .int))) := goodIn_4 tb_414 tb_415 tb_416 tb_61 gc_X9_mostTones
theorem hv_X9_mostTones : yX9_mostTones.cls = RX9 ∧ yX9_mostTones.cls ≠ "java/lang/invoke/MethodHandle" ∧ yX9_mostTones.cls ≠ "java/lang/invoke/VarHandle" ∧ (parseMethodDescriptor yX9_mostTones.desc).map (fun d => d.parameters.length) = some 0 := by decide +kernel
theorem dX11_has_112 : decode cX11_has 112 = .ok (.ireturn, 1) := by decide +kernel
set_option maxRecDepth 4000 in
theorem c_X11_has_247 {l : Launch} {D : va_G} {B : Nat} {cy : Nat → ClassId} {M : Mem} (h0 : M.1 22 2 = 0) (h1 : M.1 22 7 = 0) (h2 : M.1 44 1 = 0) : Ci l D B cy yX11_has cX11_has 4 (some .int) 2 43 [.ref (B + 0), .int 0, .int 6] M (fun r M1 => r = 0 ∧ M1 = M) := by
  refine s_any (by decide) (Nat.le_of_ble_eq_true rfl) ?_
  intro p e s m below meth c ls F hr hlocks w hl
  have F : CallFix p m c cX11_has 4 s _ TB RX11 := F
  have hx := F.1
  have hb := F.2.1
  have hl : lv_has ls 4 [(0, .ref (B + 0)), (1, .int 0), (2, .int 6)] := hl
  refine lv_aload_n hx hb dX11_has_0 rfl (lv_at hl 0 rfl) ?_
  refine f_11_3 F w (a := 0) rfl tb_73 dX11_has_1 ?_
  refine lv_iload_n hx hb dX11_has_4 rfl (lv_at hl 1 rfl) ?_
  refine x_Vi F w (As := [.int 0]) (rest := []) (a := 22) (by decide) (sh_0 rfl _ _) rfl (c_X0_covers_206 (h0)) gv_X11_193 hv_X0_covers ⟨Nat.le_of_ble_eq_true rfl, Nat.le_of_ble_eq_true rfl⟩ hl.1 rfl (Nat.le_of_ble_eq_true rfl) ⟨Nat.zero_le _, Nat.zero_le _⟩ dX11_has_5 (fun H locs w => ?_)
  refine lv_if_ne (tgt := 13) hx hb dX11_has_8 (by decide) (fun _ => ?_) (fun c1 => absurd c1 (by decide))
  refine lv_aload_n hx hb dX11_has_13 rfl (lv_at hl 0 rfl) ?_
  refine f_11_3 F w (a := 0) rfl tb_73 dX11_has_14 ?_
  refine lv_iload_n hx hb dX11_has_17 rfl (lv_at hl 1 rfl) ?_
  refine x_Vr F w (As := [.int 0]) (rest := []) (a := 22) (by decide) (sh_0 rfl _ _) rfl (c_X0_stageOf_207 (h0) (h1)) gv_X11_196 hv_X0_stageOf ⟨Nat.le_of_ble_eq_true rfl, Nat.le_of_ble_eq_true rfl⟩ hl.1 rfl (Nat.le_of_ble_eq_true rfl) ⟨Nat.zero_le _, Nat.zero_le _⟩ dX11_has_18 (fun H locs w => ?_)
  refine lv_astore_n (lv' := [(3, .ref (B + 44)), (0, .ref (B + 0)), (1, .int 0), (2, .int 6)]) hx hb dX11_has_21 rfl hl (by decide) rfl (fun ls hl => ?_)
  refine lv_iload_n hx hb dX11_has_22 rfl (lv_at hl 3 rfl) ?_
  refine lv_tableIn (tgt := 108) hx hb dX11_has_23 (by decide) (by decide) (off := 85) rfl (by decide) ?_
  refine lv_aload_n hx hb dX11_has_108 rfl (lv_at hl 0 rfl) ?_
  refine x_Vi F w (As := []) (rest := []) (a := 44) (by decide) (sh_9 rfl _ _) rfl (c_X9_mostTones_246 (h2)) gv_X11_219 hv_X9_mostTones ⟨Nat.le_of_ble_eq_true rfl, Nat.le_of_ble_eq_true rfl⟩ hl.1 rfl (Nat.le_of_ble_eq_true rfl) ⟨Nat.zero_le _, Nat.zero_le _⟩ dX11_has_109 (fun H locs w => ?_)
  exact e_i F w hr hlocks ⟨rfl, rfl⟩ dX11_has_112
theorem dX12_has_103 : decode cX12_has 103 = .ok (.aload_n 0, 1) := by decide +kernel
theorem dX12_has_104 : decode cX12_has 104 = .ok (.invokevirtual 276, 3) := by decide +kernel
theorem dX12_mostTones_0 : decode cX12_mostTones 0 = .ok (.iconst 0, 1) := by decide +kernel
theorem dX12_mostTones_1 : decode cX12_mostTones 1 = .ok (.istore_n 1, 1) := by decide +kernel
theorem dX12_mostTones_2 : decode cX12_mostTones 2 = .ok (.iconst 0, 1) := by decide +kernel
theorem dX12_mostTones_3 : decode cX12_mostTones 3 = .ok (.istore_n 2, 1) := by decide +kernel
theorem dX12_mostTones_4 : decode cX12_mostTones 4 = .ok (.iload_n 2, 1) := by decide +kernel
theorem dX12_mostTones_5 : decode cX12_mostTones 5 = .ok (.aload_n 0, 1) := by decide +kernel
theorem dX12_mostTones_6 : decode cX12_mostTones 6 = .ok (.getfield 17, 3) := by decide +kernel
theorem dX12_mostTones_9 : decode cX12_mostTones 9 = .ok (.bipush 25, 2) := by decide +kernel
theorem dX12_mostTones_11 : decode cX12_mostTones 11 = .ok (.iaload, 1) := by decide +kernel
theorem dX12_mostTones_12 : decode cX12_mostTones 12 = .ok (.if_icmp .ge 36, 3) := by decide +kernel
theorem dX12_mostTones_48 : decode cX12_mostTones 48 = .ok (.iload_n 1, 1) := by decide +kernel
theorem dX12_mostTones_49 : decode cX12_mostTones 49 = .ok (.ireturn, 1) := by decide +kernel
set_option maxRecDepth 4000 in
theorem c_X12_mostTones_248 {l : Launch} {D : va_G} {B : Nat} {cy : Nat → ClassId} {M : Mem} (h0 : M.1 148 25 = 0) : Ci l D B cy yX12_mostTones cX12_mostTones 3 (some .int) 0 0 [.ref (B + 146)] M (fun r M1 => r = 0 ∧ M1 = M) := by
  refine s_any (by decide) (Nat.le_of_ble_eq_true rfl) ?_
  intro p e s m below meth c ls F hr hlocks w hl
  have F : CallFix p m c cX12_mostTones 3 s _ TB RX12 := F
  have hx := F.1
  have hb := F.2.1
  have hl : lv_has ls 3 [(0, .ref (B + 146))] := hl
  refine lv_iconst (v := 0) hx hb dX12_mostTones_0 (by decide) ?_
  refine lv_istore_n (lv' := [(1, .int 0), (0, .ref (B + 146))]) hx hb dX12_mostTones_1 rfl hl (by decide) rfl (fun ls hl => ?_)
  refine lv_iconst (v := 0) hx hb dX12_mostTones_2 (by decide) ?_
  refine lv_istore_n (lv' := [(2, .int 0), (1, .int 0), (0, .ref (B + 146))]) hx hb dX12_mostTones_3 rfl hl (by decide) rfl (fun ls hl => ?_)
  refine lv_iload_n hx hb dX12_mostTones_4 rfl (lv_at hl 0 rfl) ?_
  refine lv_aload_n hx hb dX12_mostTones_5 rfl (lv_at hl 2 rfl) ?_
  refine f_12_2 F w (a := 146) rfl tb_127 dX12_mostTones_6 ?_
  refine lv_bipush (v := 25) hx hb dX12_mostTones_9 (by decide) ?_
  refine g_iald F w (a := 148) rfl (j := 25) ⟨by decide, by decide⟩ (by decide) dX12_mostTones_11 ?_
  refine r_val (v := 0) (h0) ?_
  refine lv_icmp_ge (tgt := 48) hx hb dX12_mostTones_12 (by decide) (fun _ => ?_) (fun c1 => absurd c1 (by decide))
  refine lv_iload_n hx hb dX12_mostTones_48 rfl (lv_at hl 1 rfl) ?_
  exact e_i F w hr hlocks ⟨rfl, rfl⟩ dX12_mostTones_49
theorem tk_X12_mostTones : Cond.code yX12_mostTones cX12_mostTones 3 (some .int) ∈ TB := tbm (tc6 (List.mem_of_getElem? (i := 177) rfl)) rfl
theorem gc_X12_mostTones : GoodIn TB (cw yX12_mostTones cX12_mostTones 3 (some .int)) := goodIn_c2 tk_X12_mostTones
theorem tb_417 : Cond.methodLink "ToneLinesModel" 276 yX12_mostTones ∈ TB := tbm (tc6 (List.mem_of_getElem? (i := 174) rfl)) rfl
theorem tb_418 : Cond.instanceMethod yX12_mostTones ∈ TB := tbm (tc6 (List.mem_of_getElem? (i := 176) rfl)) rfl
theorem tb_419 : Cond.selects "ToneLinesModel" yX12_mostTones yX12_mostTones ∈ TB := tbp (List.mem_of_getElem? (i := 78) rfl) rfl
theorem gv_X12_276 : GoodIn TB (wsV RX12 276 RX12 yX12_mostTones (cw yX12_mostTones cX12_mostTones 3 (some .int))) := goodIn_4 tb_417 tb_418 tb_419 tb_150 gc_X12_mostTones
theorem hv_X12_mostTones : yX12_mostTones.cls = RX12 ∧ yX12_mostTones.cls ≠ "java/lang/invoke/MethodHandle" ∧ yX12_mostTones.cls ≠ "java/lang/invoke/VarHandle" ∧ (parseMethodDescriptor yX12_mostTones.desc).map (fun d => d.parameters.length) = some 0 := by decide +kernel
theorem dX12_has_107 : decode cX12_has 107 = .ok (.ireturn, 1) := by decide +kernel
set_option maxRecDepth 4000 in
theorem c_X12_has_249 {l : Launch} {D : va_G} {B : Nat} {cy : Nat → ClassId} {M : Mem} (h0 : M.1 146 5 = 0) (h1 : M.1 147 0 = 0) (h2 : M.1 148 0 = 0) (h3 : M.1 147 1 = 0) (h4 : M.1 148 1 = 0) (h5 : M.1 147 2 = 0) (h6 : M.1 148 2 = 0) (h7 : M.1 147 3 = 0) (h8 : M.1 148 3 = 0) (h9 : M.1 147 4 = 0) (h10 : M.1 148 4 = 0) (h11 : M.1 147 5 = 0) (h12 : M.1 148 5 = 0) (h13 : M.1 147 6 = 0) (h14 : M.1 148 6 = 0) (h15 : M.1 147 7 = 0) (h16 : M.1 148 7 = 0) (h17 : M.1 147 8 = 0) (h18 : M.1 148 8 = 0) (h19 : M.1 147 9 = 0) (h20 : M.1 148 9 = 0) (h21 : M.1 147 10 = 0) (h22 : M.1 148 10 = 0) (h23 : M.1 147 11 = 0) (h24 : M.1 148 11 = 0) (h25 : M.1 147 12 = 0) (h26 : M.1 148 12 = 0) (h27 : M.1 147 13 = 0) (h28 : M.1 148 13 = 0) (h29 : M.1 147 14 = 0) (h30 : M.1 148 14 = 0) (h31 : M.1 147 15 = 0) (h32 : M.1 148 15 = 0) (h33 : M.1 147 16 = 0) (h34 : M.1 148 16 = 0) (h35 : M.1 147 17 = 0) (h36 : M.1 148 17 = 0) (h37 : M.1 147 18 = 0) (h38 : M.1 148 18 = 0) (h39 : M.1 147 19 = 0) (h40 : M.1 148 19 = 0) (h41 : M.1 147 20 = 0) (h42 : M.1 148 20 = 0) (h43 : M.1 147 21 = 0) (h44 : M.1 148 21 = 0) (h45 : M.1 147 22 = 0) (h46 : M.1 148 22 = 0) (h47 : M.1 147 23 = 0) (h48 : M.1 148 23 = 0) (h49 : M.1 147 24 = 0) (h50 : M.1 148 24 = 0) (h51 : M.1 147 25 = 0) (h52 : M.1 148 25 = 0) (h53 : M.1 147 26 = 0) (h54 : M.1 148 26 = 0) (h55 : M.1 147 27 = 0) (h56 : M.1 148 27 = 0) : Ci l D B cy yX12_has cX12_has 3 (some .int) 3 66 [.ref (B + 146), .int 0, .int 6] M (fun r M1 => r = 0 ∧ M1 = M) := by
  refine s_any (by decide) (Nat.le_of_ble_eq_true rfl) ?_
  intro p e s m below meth c ls F hr hlocks w hl
  have F : CallFix p m c cX12_has 3 s _ TB RX12 := F
  have hx := F.1
  have hb := F.2.1
  have hl : lv_has ls 3 [(0, .ref (B + 146)), (1, .int 0), (2, .int 6)] := hl
  refine lv_aload_n hx hb dX12_has_0 rfl (lv_at hl 0 rfl) ?_
  refine lv_iload_n hx hb dX12_has_1 rfl (lv_at hl 1 rfl) ?_
  refine x_Vi F w (As := [.int 0]) (rest := []) (a := 146) (by decide) (sh_12 rfl _ _) rfl (c_X12_lays_224 (h0) (h1) (h2) (h3) (h4) (h5) (h6) (h7) (h8) (h9) (h10) (h11) (h12) (h13) (h14) (h15) (h16) (h17) (h18) (h19) (h20) (h21) (h22) (h23) (h24) (h25) (h26) (h27) (h28) (h29) (h30) (h31) (h32) (h33) (h34) (h35) (h36) (h37) (h38) (h39) (h40) (h41) (h42) (h43) (h44) (h45) (h46) (h47) (h48) (h49) (h50) (h51) (h52) (h53) (h54) (h55) (h56)) gv_X12_261 hv_X12_lays ⟨Nat.le_of_ble_eq_true rfl, Nat.le_of_ble_eq_true rfl⟩ hl.1 rfl (Nat.le_of_ble_eq_true rfl) ⟨Nat.zero_le _, Nat.zero_le _⟩ dX12_has_2 (fun H locs w => ?_)
  refine lv_if_ne (tgt := 10) hx hb dX12_has_5 (by decide) (fun _ => ?_) (fun c1 => absurd c1 (by decide))
  refine lv_iload_n hx hb dX12_has_10 rfl (lv_at hl 2 rfl) ?_
  refine lv_tableIn (tgt := 103) hx hb dX12_has_11 (by decide) (by decide) (off := 92) rfl (by decide) ?_
  refine lv_aload_n hx hb dX12_has_103 rfl (lv_at hl 0 rfl) ?_
  refine x_Vi F w (As := []) (rest := []) (a := 146) (by decide) (sh_12 rfl _ _) rfl (c_X12_mostTones_248 (h52)) gv_X12_276 hv_X12_mostTones ⟨Nat.le_of_ble_eq_true rfl, Nat.le_of_ble_eq_true rfl⟩ hl.1 rfl (Nat.le_of_ble_eq_true rfl) ⟨Nat.zero_le _, Nat.zero_le _⟩ dX12_has_104 (fun H locs w => ?_)
  exact e_i F w hr hlocks ⟨rfl, rfl⟩ dX12_has_107
set_option maxRecDepth 8000 in
theorem la_15_49 {p : Program} {l : Launch} {e : Env} {s : State} {m : MethodId} {below : List Frame} {meth : Method} {c : Code} {D : va_G} {B b : Nat} {cy : Nat → ClassId} {H : Heap} {locs : List Loc} {ls : Array Slot} {xs : Nat → Int32} {Q : State → Prop} (F : CallFix p m c code 4 s #[Value.ref b] TB RL) (hX : va_X b 6 xs s s.heap) (hbl : b < s.heap.size) (hbA : ¬ B ≤ b) (w : Wd D B cy s s.heap M0 H locs) (hl : lv_has ls 4 [(3, .int 0), (2, .ref (B + 146)), (1, .ref (B + 0)), (0, .ref b)]) (x1 : xs 1 = 0) (x2 : xs 2 = 6) (kk : ∀ (M1 : Mem) (H1 : Heap) (locs1 : List Loc), Wd D B cy s s.heap M1 H1 locs1 → W p l e room_1 s m #[Value.ref b] below meth c H1 locs1 159 13107 Q (F0 m 1065 ls [])) : W p l e room_1 s m #[Value.ref b] below meth c H locs 159 13107 Q (F0 m 643 ls []) := by
  have hx := F.1
  have hb := F.2.1
  refine lv_aload_n hx hb dL_law_643 rfl (lv_at hl 2 rfl) ?_
  refine lv_aload_n hx hb dL_law_644 rfl (lv_at hl 3 rfl) ?_
  refine lv_iload_n hx hb dL_law_645 rfl (lv_at hl 0 rfl) ?_
  refine lv_iconst (v := 1) hx hb dL_law_646 (by decide) ?_
  refine lv_iadd hx hb dL_law_647 ?_
  refine r_val (v := 1) (by decide) ?_
  refine va_sld hx hb hX hbl hbA w.2.2.1 (vpi (by decide) (by decide)) dL_law_648 ?_
  refine r_val (v := 0) ((congrArg xs (show (1 : Int32).toNatClampNeg = 1 by decide)).trans x1) ?_
  refine lv_aload_n hx hb dL_law_649 rfl (lv_at hl 3 rfl) ?_
  refine lv_iload_n hx hb dL_law_650 rfl (lv_at hl 0 rfl) ?_
  refine lv_iconst (v := 2) hx hb dL_law_651 (by decide) ?_
  refine lv_iadd hx hb dL_law_652 ?_
  refine r_val (v := 2) (by decide) ?_
  refine va_sld hx hb hX hbl hbA w.2.2.1 (vpi (by decide) (by decide)) dL_law_653 ?_
  refine r_val (v := 6) ((congrArg xs (show (2 : Int32).toNatClampNeg = 2 by decide)).trans x2) ?_
  refine x_Vi F w (As := [.int 0, .int 6]) (rest := []) (a := 0) (by decide) (sh_11 rfl _ _) rfl (c_X11_has_247 (rfl) (rfl) (rfl)) gv_L_82 hv_X11_has ⟨Nat.le_of_ble_eq_true rfl, Nat.le_of_ble_eq_true rfl⟩ hl.1 rfl (Nat.le_of_ble_eq_true rfl) ⟨Nat.le_of_ble_eq_true rfl, Nat.le_of_ble_eq_true rfl⟩ dL_law_654 (fun H locs w => ?_)
  refine lv_aload_n hx hb dL_law_657 rfl (lv_at hl 1 rfl) ?_
  refine lv_aload_n hx hb dL_law_658 rfl (lv_at hl 3 rfl) ?_
  refine lv_iload_n hx hb dL_law_659 rfl (lv_at hl 0 rfl) ?_
  refine lv_iconst (v := 1) hx hb dL_law_660 (by decide) ?_
  refine lv_iadd hx hb dL_law_661 ?_
  refine r_val (v := 1) (by decide) ?_
  refine va_sld hx hb hX hbl hbA w.2.2.1 (vpi (by decide) (by decide)) dL_law_662 ?_
  refine r_val (v := 0) ((congrArg xs (show (1 : Int32).toNatClampNeg = 1 by decide)).trans x1) ?_
  refine lv_aload_n hx hb dL_law_663 rfl (lv_at hl 3 rfl) ?_
  refine lv_iload_n hx hb dL_law_664 rfl (lv_at hl 0 rfl) ?_
  refine lv_iconst (v := 2) hx hb dL_law_665 (by decide) ?_
  refine lv_iadd hx hb dL_law_666 ?_
  refine r_val (v := 2) (by decide) ?_
  refine va_sld hx hb hX hbl hbA w.2.2.1 (vpi (by decide) (by decide)) dL_law_667 ?_
  refine r_val (v := 6) ((congrArg xs (show (2 : Int32).toNatClampNeg = 2 by decide)).trans x2) ?_
  refine x_Vi F w (As := [.int 0, .int 6]) (rest := [.int 0]) (a := 146) (by decide) (sh_12 rfl _ _) rfl (c_X12_has_249 (rfl) (rfl) (rfl) (rfl) (rfl) (rfl) (rfl) (rfl) (rfl) (rfl) (rfl) (rfl) (rfl) (rfl) (rfl) (rfl) (rfl) (rfl) (rfl) (rfl) (rfl) (rfl) (rfl) (rfl) (rfl) (rfl) (rfl) (rfl) (rfl) (rfl) (rfl) (rfl) (rfl) (rfl) (rfl) (rfl) (rfl) (rfl) (rfl) (rfl) (rfl) (rfl) (rfl) (rfl) (rfl) (rfl) (rfl) (rfl) (rfl) (rfl) (rfl) (rfl) (rfl) (rfl) (rfl) (rfl) (rfl)) gv_L_85 hv_X12_has ⟨Nat.le_of_ble_eq_true rfl, Nat.le_of_ble_eq_true rfl⟩ hl.1 rfl (Nat.le_of_ble_eq_true rfl) ⟨Nat.le_of_ble_eq_true rfl, Nat.le_of_ble_eq_true rfl⟩ dL_law_668 (fun H locs w => ?_)
  refine lv_icmp_eq (tgt := 1065) hx hb dL_law_671 (by decide) (fun _ => ?_) (fun c1 => absurd c1 (by decide))
  exact kk _ _ _ w
theorem dX11_has_113 : decode cX11_has 113 = .ok (.aload_n 3, 1) := by decide +kernel
theorem dX11_has_114 : decode cX11_has 114 = .ok (.invokevirtual 222, 3) := by decide +kernel
theorem dX9_mostSyllables_0 : decode cX9_mostSyllables 0 = .ok (.iconst 0, 1) := by decide +kernel
theorem dX9_mostSyllables_1 : decode cX9_mostSyllables 1 = .ok (.istore_n 1, 1) := by decide +kernel
theorem dX9_mostSyllables_2 : decode cX9_mostSyllables 2 = .ok (.iconst 0, 1) := by decide +kernel
theorem dX9_mostSyllables_3 : decode cX9_mostSyllables 3 = .ok (.istore_n 2, 1) := by decide +kernel
theorem dX9_mostSyllables_4 : decode cX9_mostSyllables 4 = .ok (.iload_n 2, 1) := by decide +kernel
theorem dX9_mostSyllables_5 : decode cX9_mostSyllables 5 = .ok (.aload_n 0, 1) := by decide +kernel
theorem dX9_mostSyllables_6 : decode cX9_mostSyllables 6 = .ok (.getfield 9, 3) := by decide +kernel
theorem dX9_mostSyllables_9 : decode cX9_mostSyllables 9 = .ok (.if_icmp .ge 23, 3) := by decide +kernel
theorem dX9_mostSyllables_32 : decode cX9_mostSyllables 32 = .ok (.iload_n 1, 1) := by decide +kernel
theorem dX9_mostSyllables_33 : decode cX9_mostSyllables 33 = .ok (.ireturn, 1) := by decide +kernel
set_option maxRecDepth 4000 in
theorem c_X9_mostSyllables_250 {l : Launch} {D : va_G} {B : Nat} {cy : Nat → ClassId} {M : Mem} (h0 : M.1 44 0 = 0) : Ci l D B cy yX9_mostSyllables cX9_mostSyllables 3 (some .int) 0 0 [.ref (B + 44)] M (fun r M1 => r = 0 ∧ M1 = M) := by
  refine s_any (by decide) (Nat.le_of_ble_eq_true rfl) ?_
  intro p e s m below meth c ls F hr hlocks w hl
  have F : CallFix p m c cX9_mostSyllables 3 s _ TB RX9 := F
  have hx := F.1
  have hb := F.2.1
  have hl : lv_has ls 3 [(0, .ref (B + 44))] := hl
  refine lv_iconst (v := 0) hx hb dX9_mostSyllables_0 (by decide) ?_
  refine lv_istore_n (lv' := [(1, .int 0), (0, .ref (B + 44))]) hx hb dX9_mostSyllables_1 rfl hl (by decide) rfl (fun ls hl => ?_)
  refine lv_iconst (v := 0) hx hb dX9_mostSyllables_2 (by decide) ?_
  refine lv_istore_n (lv' := [(2, .int 0), (1, .int 0), (0, .ref (B + 44))]) hx hb dX9_mostSyllables_3 rfl hl (by decide) rfl (fun ls hl => ?_)
  refine lv_iload_n hx hb dX9_mostSyllables_4 rfl (lv_at hl 0 rfl) ?_
  refine lv_aload_n hx hb dX9_mostSyllables_5 rfl (lv_at hl 2 rfl) ?_
  refine f_9_0 F w (a := 44) rfl tb_63 dX9_mostSyllables_6 ?_
  refine r_val (v := 0) (h0) ?_
  refine lv_icmp_ge (tgt := 32) hx hb dX9_mostSyllables_9 (by decide) (fun _ => ?_) (fun c1 => absurd c1 (by decide))
  refine lv_iload_n hx hb dX9_mostSyllables_32 rfl (lv_at hl 1 rfl) ?_
  exact e_i F w hr hlocks ⟨rfl, rfl⟩ dX9_mostSyllables_33
theorem tk_X9_mostSyllables : Cond.code yX9_mostSyllables cX9_mostSyllables 3 (some .int) ∈ TB := tbm (tc4 (List.mem_of_getElem? (i := 148) rfl)) rfl
theorem gc_X9_mostSyllables : GoodIn TB (cw yX9_mostSyllables cX9_mostSyllables 3 (some .int)) := goodIn_c2 tk_X9_mostSyllables
theorem tb_420 : Cond.methodLink "ToneLines" 222 yX9_mostSyllables ∈ TB := tbm (tc4 (List.mem_of_getElem? (i := 145) rfl)) rfl
theorem tb_421 : Cond.instanceMethod yX9_mostSyllables ∈ TB := tbm (tc4 (List.mem_of_getElem? (i := 146) rfl)) rfl
theorem tb_422 : Cond.selects "ToneLines$Word" yX9_mostSyllables yX9_mostSyllables ∈ TB := tbm (tc4 (List.mem_of_getElem? (i := 147) rfl)) rfl
theorem gv_X11_222 : GoodIn TB (wsV RX11 222 RX9 yX9_mostSyllables (cw yX9_mostSyllables cX9_mostSyllables 3 (some .int))) := goodIn_4 tb_420 tb_421 tb_422 tb_61 gc_X9_mostSyllables
theorem hv_X9_mostSyllables : yX9_mostSyllables.cls = RX9 ∧ yX9_mostSyllables.cls ≠ "java/lang/invoke/MethodHandle" ∧ yX9_mostSyllables.cls ≠ "java/lang/invoke/VarHandle" ∧ (parseMethodDescriptor yX9_mostSyllables.desc).map (fun d => d.parameters.length) = some 0 := by decide +kernel
theorem dX11_has_117 : decode cX11_has 117 = .ok (.ireturn, 1) := by decide +kernel
set_option maxRecDepth 4000 in
theorem c_X11_has_251 {l : Launch} {D : va_G} {B : Nat} {cy : Nat → ClassId} {M : Mem} (h0 : M.1 22 2 = 0) (h1 : M.1 22 7 = 0) (h2 : M.1 44 0 = 0) : Ci l D B cy yX11_has cX11_has 4 (some .int) 2 43 [.ref (B + 0), .int 0, .int 7] M (fun r M1 => r = 0 ∧ M1 = M) := by
  refine s_any (by decide) (Nat.le_of_ble_eq_true rfl) ?_
  intro p e s m below meth c ls F hr hlocks w hl
  have F : CallFix p m c cX11_has 4 s _ TB RX11 := F
  have hx := F.1
  have hb := F.2.1
  have hl : lv_has ls 4 [(0, .ref (B + 0)), (1, .int 0), (2, .int 7)] := hl
  refine lv_aload_n hx hb dX11_has_0 rfl (lv_at hl 0 rfl) ?_
  refine f_11_3 F w (a := 0) rfl tb_73 dX11_has_1 ?_
  refine lv_iload_n hx hb dX11_has_4 rfl (lv_at hl 1 rfl) ?_
  refine x_Vi F w (As := [.int 0]) (rest := []) (a := 22) (by decide) (sh_0 rfl _ _) rfl (c_X0_covers_206 (h0)) gv_X11_193 hv_X0_covers ⟨Nat.le_of_ble_eq_true rfl, Nat.le_of_ble_eq_true rfl⟩ hl.1 rfl (Nat.le_of_ble_eq_true rfl) ⟨Nat.zero_le _, Nat.zero_le _⟩ dX11_has_5 (fun H locs w => ?_)
  refine lv_if_ne (tgt := 13) hx hb dX11_has_8 (by decide) (fun _ => ?_) (fun c1 => absurd c1 (by decide))
  refine lv_aload_n hx hb dX11_has_13 rfl (lv_at hl 0 rfl) ?_
  refine f_11_3 F w (a := 0) rfl tb_73 dX11_has_14 ?_
  refine lv_iload_n hx hb dX11_has_17 rfl (lv_at hl 1 rfl) ?_
  refine x_Vr F w (As := [.int 0]) (rest := []) (a := 22) (by decide) (sh_0 rfl _ _) rfl (c_X0_stageOf_207 (h0) (h1)) gv_X11_196 hv_X0_stageOf ⟨Nat.le_of_ble_eq_true rfl, Nat.le_of_ble_eq_true rfl⟩ hl.1 rfl (Nat.le_of_ble_eq_true rfl) ⟨Nat.zero_le _, Nat.zero_le _⟩ dX11_has_18 (fun H locs w => ?_)
  refine lv_astore_n (lv' := [(3, .ref (B + 44)), (0, .ref (B + 0)), (1, .int 0), (2, .int 7)]) hx hb dX11_has_21 rfl hl (by decide) rfl (fun ls hl => ?_)
  refine lv_iload_n hx hb dX11_has_22 rfl (lv_at hl 3 rfl) ?_
  refine lv_tableIn (tgt := 113) hx hb dX11_has_23 (by decide) (by decide) (off := 90) rfl (by decide) ?_
  refine lv_aload_n hx hb dX11_has_113 rfl (lv_at hl 0 rfl) ?_
  refine x_Vi F w (As := []) (rest := []) (a := 44) (by decide) (sh_9 rfl _ _) rfl (c_X9_mostSyllables_250 (h2)) gv_X11_222 hv_X9_mostSyllables ⟨Nat.le_of_ble_eq_true rfl, Nat.le_of_ble_eq_true rfl⟩ hl.1 rfl (Nat.le_of_ble_eq_true rfl) ⟨Nat.zero_le _, Nat.zero_le _⟩ dX11_has_114 (fun H locs w => ?_)
  exact e_i F w hr hlocks ⟨rfl, rfl⟩ dX11_has_117
theorem dX12_has_108 : decode cX12_has 108 = .ok (.aload_n 0, 1) := by decide +kernel
theorem dX12_has_109 : decode cX12_has 109 = .ok (.invokevirtual 279, 3) := by decide +kernel
theorem dX12_mostSyllables_0 : decode cX12_mostSyllables 0 = .ok (.iconst 0, 1) := by decide +kernel
theorem dX12_mostSyllables_1 : decode cX12_mostSyllables 1 = .ok (.istore_n 1, 1) := by decide +kernel
theorem dX12_mostSyllables_2 : decode cX12_mostSyllables 2 = .ok (.iconst 0, 1) := by decide +kernel
theorem dX12_mostSyllables_3 : decode cX12_mostSyllables 3 = .ok (.istore_n 2, 1) := by decide +kernel
theorem dX12_mostSyllables_4 : decode cX12_mostSyllables 4 = .ok (.iload_n 2, 1) := by decide +kernel
theorem dX12_mostSyllables_5 : decode cX12_mostSyllables 5 = .ok (.aload_n 0, 1) := by decide +kernel
theorem dX12_mostSyllables_6 : decode cX12_mostSyllables 6 = .ok (.getfield 17, 3) := by decide +kernel
theorem dX12_mostSyllables_9 : decode cX12_mostSyllables 9 = .ok (.iconst 0, 1) := by decide +kernel
theorem dX12_mostSyllables_10 : decode cX12_mostSyllables 10 = .ok (.iaload, 1) := by decide +kernel
theorem dX12_mostSyllables_11 : decode cX12_mostSyllables 11 = .ok (.if_icmp .ge 38, 3) := by decide +kernel
theorem dX12_mostSyllables_49 : decode cX12_mostSyllables 49 = .ok (.iload_n 1, 1) := by decide +kernel
theorem dX12_mostSyllables_50 : decode cX12_mostSyllables 50 = .ok (.ireturn, 1) := by decide +kernel
set_option maxRecDepth 4000 in
theorem c_X12_mostSyllables_252 {l : Launch} {D : va_G} {B : Nat} {cy : Nat → ClassId} {M : Mem} (h0 : M.1 148 0 = 0) : Ci l D B cy yX12_mostSyllables cX12_mostSyllables 3 (some .int) 0 0 [.ref (B + 146)] M (fun r M1 => r = 0 ∧ M1 = M) := by
  refine s_any (by decide) (Nat.le_of_ble_eq_true rfl) ?_
  intro p e s m below meth c ls F hr hlocks w hl
  have F : CallFix p m c cX12_mostSyllables 3 s _ TB RX12 := F
  have hx := F.1
  have hb := F.2.1
  have hl : lv_has ls 3 [(0, .ref (B + 146))] := hl
  refine lv_iconst (v := 0) hx hb dX12_mostSyllables_0 (by decide) ?_
  refine lv_istore_n (lv' := [(1, .int 0), (0, .ref (B + 146))]) hx hb dX12_mostSyllables_1 rfl hl (by decide) rfl (fun ls hl => ?_)
  refine lv_iconst (v := 0) hx hb dX12_mostSyllables_2 (by decide) ?_
  refine lv_istore_n (lv' := [(2, .int 0), (1, .int 0), (0, .ref (B + 146))]) hx hb dX12_mostSyllables_3 rfl hl (by decide) rfl (fun ls hl => ?_)
  refine lv_iload_n hx hb dX12_mostSyllables_4 rfl (lv_at hl 0 rfl) ?_
  refine lv_aload_n hx hb dX12_mostSyllables_5 rfl (lv_at hl 2 rfl) ?_
  refine f_12_2 F w (a := 146) rfl tb_127 dX12_mostSyllables_6 ?_
  refine lv_iconst (v := 0) hx hb dX12_mostSyllables_9 (by decide) ?_
  refine g_iald F w (a := 148) rfl (j := 0) ⟨by decide, by decide⟩ (by decide) dX12_mostSyllables_10 ?_
  refine r_val (v := 0) (h0) ?_
  refine lv_icmp_ge (tgt := 49) hx hb dX12_mostSyllables_11 (by decide) (fun _ => ?_) (fun c1 => absurd c1 (by decide))
  refine lv_iload_n hx hb dX12_mostSyllables_49 rfl (lv_at hl 1 rfl) ?_
  exact e_i F w hr hlocks ⟨rfl, rfl⟩ dX12_mostSyllables_50
theorem tk_X12_mostSyllables : Cond.code yX12_mostSyllables cX12_mostSyllables 3 (some .int) ∈ TB := tbm (tc6 (List.mem_of_getElem? (i := 181) rfl)) rfl
theorem gc_X12_mostSyllables : GoodIn TB (cw yX12_mostSyllables cX12_mostSyllables 3 (some .int)) := goodIn_c2 tk_X12_mostSyllables
theorem tb_423 : Cond.methodLink "ToneLinesModel" 279 yX12_mostSyllables ∈ TB := tbm (tc6 (List.mem_of_getElem? (i := 178) rfl)) rfl
theorem tb_424 : Cond.instanceMethod yX12_mostSyllables ∈ TB := tbm (tc6 (List.mem_of_getElem? (i := 180) rfl)) rfl
theorem tb_425 : Cond.selects "ToneLinesModel" yX12_mostSyllables yX12_mostSyllables ∈ TB := tbp (List.mem_of_getElem? (i := 79) rfl) rfl
theorem gv_X12_279 : GoodIn TB (wsV RX12 279 RX12 yX12_mostSyllables (cw yX12_mostSyllables cX12_mostSyllables 3 (some .int))) := goodIn_4 tb_423 tb_424 tb_425 tb_150 gc_X12_mostSyllables
theorem hv_X12_mostSyllables : yX12_mostSyllables.cls = RX12 ∧ yX12_mostSyllables.cls ≠ "java/lang/invoke/MethodHandle" ∧ yX12_mostSyllables.cls ≠ "java/lang/invoke/VarHandle" ∧ (parseMethodDescriptor yX12_mostSyllables.desc).map (fun d => d.parameters.length) = some 0 := by decide +kernel
theorem dX12_has_112 : decode cX12_has 112 = .ok (.ireturn, 1) := by decide +kernel
set_option maxRecDepth 4000 in
theorem c_X12_has_253 {l : Launch} {D : va_G} {B : Nat} {cy : Nat → ClassId} {M : Mem} (h0 : M.1 146 5 = 0) (h1 : M.1 147 0 = 0) (h2 : M.1 148 0 = 0) (h3 : M.1 147 1 = 0) (h4 : M.1 148 1 = 0) (h5 : M.1 147 2 = 0) (h6 : M.1 148 2 = 0) (h7 : M.1 147 3 = 0) (h8 : M.1 148 3 = 0) (h9 : M.1 147 4 = 0) (h10 : M.1 148 4 = 0) (h11 : M.1 147 5 = 0) (h12 : M.1 148 5 = 0) (h13 : M.1 147 6 = 0) (h14 : M.1 148 6 = 0) (h15 : M.1 147 7 = 0) (h16 : M.1 148 7 = 0) (h17 : M.1 147 8 = 0) (h18 : M.1 148 8 = 0) (h19 : M.1 147 9 = 0) (h20 : M.1 148 9 = 0) (h21 : M.1 147 10 = 0) (h22 : M.1 148 10 = 0) (h23 : M.1 147 11 = 0) (h24 : M.1 148 11 = 0) (h25 : M.1 147 12 = 0) (h26 : M.1 148 12 = 0) (h27 : M.1 147 13 = 0) (h28 : M.1 148 13 = 0) (h29 : M.1 147 14 = 0) (h30 : M.1 148 14 = 0) (h31 : M.1 147 15 = 0) (h32 : M.1 148 15 = 0) (h33 : M.1 147 16 = 0) (h34 : M.1 148 16 = 0) (h35 : M.1 147 17 = 0) (h36 : M.1 148 17 = 0) (h37 : M.1 147 18 = 0) (h38 : M.1 148 18 = 0) (h39 : M.1 147 19 = 0) (h40 : M.1 148 19 = 0) (h41 : M.1 147 20 = 0) (h42 : M.1 148 20 = 0) (h43 : M.1 147 21 = 0) (h44 : M.1 148 21 = 0) (h45 : M.1 147 22 = 0) (h46 : M.1 148 22 = 0) (h47 : M.1 147 23 = 0) (h48 : M.1 148 23 = 0) (h49 : M.1 147 24 = 0) (h50 : M.1 148 24 = 0) (h51 : M.1 147 25 = 0) (h52 : M.1 148 25 = 0) (h53 : M.1 147 26 = 0) (h54 : M.1 148 26 = 0) (h55 : M.1 147 27 = 0) (h56 : M.1 148 27 = 0) : Ci l D B cy yX12_has cX12_has 3 (some .int) 3 66 [.ref (B + 146), .int 0, .int 7] M (fun r M1 => r = 0 ∧ M1 = M) := by
  refine s_any (by decide) (Nat.le_of_ble_eq_true rfl) ?_
  intro p e s m below meth c ls F hr hlocks w hl
  have F : CallFix p m c cX12_has 3 s _ TB RX12 := F
  have hx := F.1
  have hb := F.2.1
  have hl : lv_has ls 3 [(0, .ref (B + 146)), (1, .int 0), (2, .int 7)] := hl
  refine lv_aload_n hx hb dX12_has_0 rfl (lv_at hl 0 rfl) ?_
  refine lv_iload_n hx hb dX12_has_1 rfl (lv_at hl 1 rfl) ?_
  refine x_Vi F w (As := [.int 0]) (rest := []) (a := 146) (by decide) (sh_12 rfl _ _) rfl (c_X12_lays_224 (h0) (h1) (h2) (h3) (h4) (h5) (h6) (h7) (h8) (h9) (h10) (h11) (h12) (h13) (h14) (h15) (h16) (h17) (h18) (h19) (h20) (h21) (h22) (h23) (h24) (h25) (h26) (h27) (h28) (h29) (h30) (h31) (h32) (h33) (h34) (h35) (h36) (h37) (h38) (h39) (h40) (h41) (h42) (h43) (h44) (h45) (h46) (h47) (h48) (h49) (h50) (h51) (h52) (h53) (h54) (h55) (h56)) gv_X12_261 hv_X12_lays ⟨Nat.le_of_ble_eq_true rfl, Nat.le_of_ble_eq_true rfl⟩ hl.1 rfl (Nat.le_of_ble_eq_true rfl) ⟨Nat.zero_le _, Nat.zero_le _⟩ dX12_has_2 (fun H locs w => ?_)
  refine lv_if_ne (tgt := 10) hx hb dX12_has_5 (by decide) (fun _ => ?_) (fun c1 => absurd c1 (by decide))
  refine lv_iload_n hx hb dX12_has_10 rfl (lv_at hl 2 rfl) ?_
  refine lv_tableIn (tgt := 108) hx hb dX12_has_11 (by decide) (by decide) (off := 97) rfl (by decide) ?_
  refine lv_aload_n hx hb dX12_has_108 rfl (lv_at hl 0 rfl) ?_
  refine x_Vi F w (As := []) (rest := []) (a := 146) (by decide) (sh_12 rfl _ _) rfl (c_X12_mostSyllables_252 (h2)) gv_X12_279 hv_X12_mostSyllables ⟨Nat.le_of_ble_eq_true rfl, Nat.le_of_ble_eq_true rfl⟩ hl.1 rfl (Nat.le_of_ble_eq_true rfl) ⟨Nat.zero_le _, Nat.zero_le _⟩ dX12_has_109 (fun H locs w => ?_)
  exact e_i F w hr hlocks ⟨rfl, rfl⟩ dX12_has_112
set_option maxRecDepth 8000 in
theorem la_15_50 {p : Program} {l : Launch} {e : Env} {s : State} {m : MethodId} {below : List Frame} {meth : Method} {c : Code} {D : va_G} {B b : Nat} {cy : Nat → ClassId} {H : Heap} {locs : List Loc} {ls : Array Slot} {xs : Nat → Int32} {Q : State → Prop} (F : CallFix p m c code 4 s #[Value.ref b] TB RL) (hX : va_X b 6 xs s s.heap) (hbl : b < s.heap.size) (hbA : ¬ B ≤ b) (w : Wd D B cy s s.heap M0 H locs) (hl : lv_has ls 4 [(3, .int 0), (2, .ref (B + 146)), (1, .ref (B + 0)), (0, .ref b)]) (x1 : xs 1 = 0) (x2 : xs 2 = 7) (kk : ∀ (M1 : Mem) (H1 : Heap) (locs1 : List Loc), Wd D B cy s s.heap M1 H1 locs1 → W p l e room_1 s m #[Value.ref b] below meth c H1 locs1 159 13107 Q (F0 m 1065 ls [])) : W p l e room_1 s m #[Value.ref b] below meth c H locs 159 13107 Q (F0 m 643 ls []) := by
  have hx := F.1
  have hb := F.2.1
  refine lv_aload_n hx hb dL_law_643 rfl (lv_at hl 2 rfl) ?_
  refine lv_aload_n hx hb dL_law_644 rfl (lv_at hl 3 rfl) ?_
  refine lv_iload_n hx hb dL_law_645 rfl (lv_at hl 0 rfl) ?_
  refine lv_iconst (v := 1) hx hb dL_law_646 (by decide) ?_
  refine lv_iadd hx hb dL_law_647 ?_
  refine r_val (v := 1) (by decide) ?_
  refine va_sld hx hb hX hbl hbA w.2.2.1 (vpi (by decide) (by decide)) dL_law_648 ?_
  refine r_val (v := 0) ((congrArg xs (show (1 : Int32).toNatClampNeg = 1 by decide)).trans x1) ?_
  refine lv_aload_n hx hb dL_law_649 rfl (lv_at hl 3 rfl) ?_
  refine lv_iload_n hx hb dL_law_650 rfl (lv_at hl 0 rfl) ?_
  refine lv_iconst (v := 2) hx hb dL_law_651 (by decide) ?_
  refine lv_iadd hx hb dL_law_652 ?_
  refine r_val (v := 2) (by decide) ?_
  refine va_sld hx hb hX hbl hbA w.2.2.1 (vpi (by decide) (by decide)) dL_law_653 ?_
  refine r_val (v := 7) ((congrArg xs (show (2 : Int32).toNatClampNeg = 2 by decide)).trans x2) ?_
  refine x_Vi F w (As := [.int 0, .int 7]) (rest := []) (a := 0) (by decide) (sh_11 rfl _ _) rfl (c_X11_has_251 (rfl) (rfl) (rfl)) gv_L_82 hv_X11_has ⟨Nat.le_of_ble_eq_true rfl, Nat.le_of_ble_eq_true rfl⟩ hl.1 rfl (Nat.le_of_ble_eq_true rfl) ⟨Nat.le_of_ble_eq_true rfl, Nat.le_of_ble_eq_true rfl⟩ dL_law_654 (fun H locs w => ?_)
  refine lv_aload_n hx hb dL_law_657 rfl (lv_at hl 1 rfl) ?_
  refine lv_aload_n hx hb dL_law_658 rfl (lv_at hl 3 rfl) ?_
  refine lv_iload_n hx hb dL_law_659 rfl (lv_at hl 0 rfl) ?_
  refine lv_iconst (v := 1) hx hb dL_law_660 (by decide) ?_
  refine lv_iadd hx hb dL_law_661 ?_
  refine r_val (v := 1) (by decide) ?_
  refine va_sld hx hb hX hbl hbA w.2.2.1 (vpi (by decide) (by decide)) dL_law_662 ?_
  refine r_val (v := 0) ((congrArg xs (show (1 : Int32).toNatClampNeg = 1 by decide)).trans x1) ?_
  refine lv_aload_n hx hb dL_law_663 rfl (lv_at hl 3 rfl) ?_
  refine lv_iload_n hx hb dL_law_664 rfl (lv_at hl 0 rfl) ?_
  refine lv_iconst (v := 2) hx hb dL_law_665 (by decide) ?_
  refine lv_iadd hx hb dL_law_666 ?_
  refine r_val (v := 2) (by decide) ?_
  refine va_sld hx hb hX hbl hbA w.2.2.1 (vpi (by decide) (by decide)) dL_law_667 ?_
  refine r_val (v := 7) ((congrArg xs (show (2 : Int32).toNatClampNeg = 2 by decide)).trans x2) ?_
  refine x_Vi F w (As := [.int 0, .int 7]) (rest := [.int 0]) (a := 146) (by decide) (sh_12 rfl _ _) rfl (c_X12_has_253 (rfl) (rfl) (rfl) (rfl) (rfl) (rfl) (rfl) (rfl) (rfl) (rfl) (rfl) (rfl) (rfl) (rfl) (rfl) (rfl) (rfl) (rfl) (rfl) (rfl) (rfl) (rfl) (rfl) (rfl) (rfl) (rfl) (rfl) (rfl) (rfl) (rfl) (rfl) (rfl) (rfl) (rfl) (rfl) (rfl) (rfl) (rfl) (rfl) (rfl) (rfl) (rfl) (rfl) (rfl) (rfl) (rfl) (rfl) (rfl) (rfl) (rfl) (rfl) (rfl) (rfl) (rfl) (rfl) (rfl) (rfl)) gv_L_85 hv_X12_has ⟨Nat.le_of_ble_eq_true rfl, Nat.le_of_ble_eq_true rfl⟩ hl.1 rfl (Nat.le_of_ble_eq_true rfl) ⟨Nat.le_of_ble_eq_true rfl, Nat.le_of_ble_eq_true rfl⟩ dL_law_668 (fun H locs w => ?_)
  refine lv_icmp_eq (tgt := 1065) hx hb dL_law_671 (by decide) (fun _ => ?_) (fun c1 => absurd c1 (by decide))
  exact kk _ _ _ w
theorem dX11_has_118 : decode cX11_has 118 = .ok (.aload_n 3, 1) := by decide +kernel
theorem dX11_has_119 : decode cX11_has 119 = .ok (.invokevirtual 225, 3) := by decide +kernel
theorem dX9_linkedFromFirst_0 : decode cX9_linkedFromFirst 0 = .ok (.aload_n 0, 1) := by decide +kernel
theorem dX9_linkedFromFirst_1 : decode cX9_linkedFromFirst 1 = .ok (.invokevirtual 48, 3) := by decide +kernel
theorem tb_426 : Cond.methodLink "ToneLines$Word" 48 yX9_bare ∈ TB := tbm (tc3 (List.mem_of_getElem? (i := 224) rfl)) rfl
theorem gv_X9_48 : GoodIn TB (wsV RX9 48 RX9 yX9_bare (cw yX9_bare cX9_bare 3 (some .int))) := goodIn_4 tb_426 tb_403 tb_404 tb_61 gc_X9_bare
theorem dX9_linkedFromFirst_4 : decode cX9_linkedFromFirst 4 = .ok (.invokestatic 75, 3) := by decide +kernel
theorem dX11_lowest_0 : decode cX11_lowest 0 = .ok (.iload_n 0, 1) := by decide +kernel
theorem dX11_lowest_1 : decode cX11_lowest 1 = .ok (.ifCond .ne 7, 3) := by decide +kernel
theorem dX11_lowest_4 : decode cX11_lowest 4 = .ok (.iconst (-1), 1) := by decide +kernel
theorem dX11_lowest_5 : decode cX11_lowest 5 = .ok (.goto 12, 3) := by decide +kernel
theorem dX11_lowest_17 : decode cX11_lowest 17 = .ok (.ireturn, 1) := by decide +kernel
set_option maxRecDepth 4000 in
theorem c_X11_lowest_254 {l : Launch} {D : va_G} {B : Nat} {cy : Nat → ClassId} {M : Mem} : Ci l D B cy yX11_lowest cX11_lowest 1 (some .int) 0 0 [.int 0] M (fun r M1 => r = (-1) ∧ M1 = M) := by
  refine s_any (by decide) (Nat.le_of_ble_eq_true rfl) ?_
  intro p e s m below meth c ls F hr hlocks w hl
  have F : CallFix p m c cX11_lowest 1 s _ TB RX11 := F
  have hx := F.1
  have hb := F.2.1
  have hl : lv_has ls 1 [(0, .int 0)] := hl
  refine lv_iload_n hx hb dX11_lowest_0 rfl (lv_at hl 0 rfl) ?_
  refine lv_if_ne (tgt := 8) hx hb dX11_lowest_1 (by decide) (fun c1 => absurd c1 (by decide)) (fun _ => ?_)
  refine lv_iconst (v := (-1)) hx hb dX11_lowest_4 (by decide) ?_
  refine lv_goto (tgt := 17) hx hb dX11_lowest_5 (by decide) ?_
  exact e_i F w hr hlocks ⟨rfl, rfl⟩ dX11_lowest_17
theorem tk_X11_lowest : Cond.code yX11_lowest cX11_lowest 1 (some .int) ∈ TB := tbm (tc4 (List.mem_of_getElem? (i := 17) rfl)) rfl
theorem gc_X11_lowest : GoodIn TB (cw yX11_lowest cX11_lowest 1 (some .int)) := goodIn_c2 tk_X11_lowest
theorem hs_X11_lowest : yX11_lowest.cls ≠ "java/lang/invoke/MethodHandle" ∧ yX11_lowest.cls ≠ "java/lang/invoke/VarHandle" ∧ (parseMethodDescriptor yX11_lowest.desc).map (fun d => d.parameters.length) = some 1 := by decide +kernel
theorem tb_427 : Cond.static yX11_lowest ∈ TB := tbm (tc4 (List.mem_of_getElem? (i := 16) rfl)) rfl
theorem dX9_linkedFromFirst_7 : decode cX9_linkedFromFirst 7 = .ok (.istore_n 1, 1) := by decide +kernel
theorem dX9_linkedFromFirst_8 : decode cX9_linkedFromFirst 8 = .ok (.iload_n 1, 1) := by decide +kernel
theorem dX9_linkedFromFirst_9 : decode cX9_linkedFromFirst 9 = .ok (.iconst (-1), 1) := by decide +kernel
theorem dX9_linkedFromFirst_10 : decode cX9_linkedFromFirst 10 = .ok (.if_icmp .ne 10, 3) := by decide +kernel
theorem dX9_linkedFromFirst_13 : decode cX9_linkedFromFirst 13 = .ok (.aload_n 0, 1) := by decide +kernel
theorem dX9_linkedFromFirst_14 : decode cX9_linkedFromFirst 14 = .ok (.getfield 15, 3) := by decide +kernel
theorem dX9_linkedFromFirst_17 : decode cX9_linkedFromFirst 17 = .ok (.goto 4, 3) := by decide +kernel
theorem dX9_linkedFromFirst_21 : decode cX9_linkedFromFirst 21 = .ok (.ireturn, 1) := by decide +kernel
set_option maxRecDepth 4000 in
theorem c_X9_linkedFromFirst_255 {l : Launch} {D : va_G} {B : Nat} {cy : Nat → ClassId} {M : Mem} (h0 : M.1 44 0 = 0) (h1 : M.1 44 1 = 0) : Ci l D B cy yX9_linkedFromFirst cX9_linkedFromFirst 2 (some .int) 1 22 [.ref (B + 44)] M (fun r M1 => r = 0 ∧ M1 = M) := by
  refine s_any (by decide) (Nat.le_of_ble_eq_true rfl) ?_
  intro p e s m below meth c ls F hr hlocks w hl
  have F : CallFix p m c cX9_linkedFromFirst 2 s _ TB RX9 := F
  have hx := F.1
  have hb := F.2.1
  have hl : lv_has ls 2 [(0, .ref (B + 44))] := hl
  refine lv_aload_n hx hb dX9_linkedFromFirst_0 rfl (lv_at hl 0 rfl) ?_
  refine x_Vi F w (As := []) (rest := []) (a := 44) (by decide) (sh_9 rfl _ _) rfl (c_X9_bare_238 (h0) (h1)) gv_X9_48 hv_X9_bare ⟨Nat.le_of_ble_eq_true rfl, Nat.le_of_ble_eq_true rfl⟩ hl.1 rfl (Nat.le_of_ble_eq_true rfl) ⟨Nat.zero_le _, Nat.zero_le _⟩ dX9_linkedFromFirst_1 (fun H locs w => ?_)
  refine x_Ni F w (As := [.int 0]) (rest := []) (c_X11_lowest_254) gc_X11_lowest tb_145 tb_427 (by decide) hs_X11_lowest ⟨Nat.le_of_ble_eq_true rfl, Nat.le_of_ble_eq_true rfl⟩ hl.1 rfl (Nat.le_of_ble_eq_true rfl) ⟨Nat.zero_le _, Nat.zero_le _⟩ dX9_linkedFromFirst_4 (fun H locs w => ?_)
  refine lv_istore_n (lv' := [(1, .int (-1)), (0, .ref (B + 44))]) hx hb dX9_linkedFromFirst_7 rfl hl (by decide) rfl (fun ls hl => ?_)
  refine lv_iload_n hx hb dX9_linkedFromFirst_8 rfl (lv_at hl 0 rfl) ?_
  refine lv_iconst (v := (-1)) hx hb dX9_linkedFromFirst_9 (by decide) ?_
  refine lv_icmp_ne (tgt := 20) hx hb dX9_linkedFromFirst_10 (by decide) (fun c1 => absurd c1 (by decide)) (fun _ => ?_)
  refine lv_aload_n hx hb dX9_linkedFromFirst_13 rfl (lv_at hl 1 rfl) ?_
  refine f_9_1 F w (a := 44) rfl tb_64 dX9_linkedFromFirst_14 ?_
  refine r_val (v := 0) (h1) ?_
  refine lv_goto (tgt := 21) hx hb dX9_linkedFromFirst_17 (by decide) ?_
  exact e_i F w hr hlocks ⟨rfl, rfl⟩ dX9_linkedFromFirst_21
theorem tk_X9_linkedFromFirst : Cond.code yX9_linkedFromFirst cX9_linkedFromFirst 2 (some .int) ∈ TB := tbm (tc4 (List.mem_of_getElem? (i := 152) rfl)) rfl
theorem gc_X9_linkedFromFirst : GoodIn TB (cw yX9_linkedFromFirst cX9_linkedFromFirst 2 (some .int)) := goodIn_c2 tk_X9_linkedFromFirst
theorem tb_428 : Cond.methodLink "ToneLines" 225 yX9_linkedFromFirst ∈ TB := tbm (tc4 (List.mem_of_getElem? (i := 149) rfl)) rfl
theorem tb_429 : Cond.instanceMethod yX9_linkedFromFirst ∈ TB := tbm (tc4 (List.mem_of_getElem? (i := 150) rfl)) rfl
theorem tb_430 : Cond.selects "ToneLines$Word" yX9_linkedFromFirst yX9_linkedFromFirst ∈ TB := tbm (tc4 (List.mem_of_getElem? (i := 151) rfl)) rfl
theorem gv_X11_225 : GoodIn TB (wsV RX11 225 RX9 yX9_linkedFromFirst (cw yX9_linkedFromFirst cX9_linkedFromFirst 2 (some .int))) := goodIn_4 tb_428 tb_429 tb_430 tb_61 gc_X9_linkedFromFirst
theorem hv_X9_linkedFromFirst : yX9_linkedFromFirst.cls = RX9 ∧ yX9_linkedFromFirst.cls ≠ "java/lang/invoke/MethodHandle" ∧ yX9_linkedFromFirst.cls ≠ "java/lang/invoke/VarHandle" ∧ (parseMethodDescriptor yX9_linkedFromFirst.desc).map (fun d => d.parameters.length) = some 0 := by decide +kernel
theorem dX11_has_122 : decode cX11_has 122 = .ok (.ireturn, 1) := by decide +kernel
set_option maxRecDepth 4000 in
theorem c_X11_has_256 {l : Launch} {D : va_G} {B : Nat} {cy : Nat → ClassId} {M : Mem} (h0 : M.1 22 2 = 0) (h1 : M.1 22 7 = 0) (h2 : M.1 44 0 = 0) (h3 : M.1 44 1 = 0) : Ci l D B cy yX11_has cX11_has 4 (some .int) 2 43 [.ref (B + 0), .int 0, .int 8] M (fun r M1 => r = 0 ∧ M1 = M) := by
  refine s_any (by decide) (Nat.le_of_ble_eq_true rfl) ?_
  intro p e s m below meth c ls F hr hlocks w hl
  have F : CallFix p m c cX11_has 4 s _ TB RX11 := F
  have hx := F.1
  have hb := F.2.1
  have hl : lv_has ls 4 [(0, .ref (B + 0)), (1, .int 0), (2, .int 8)] := hl
  refine lv_aload_n hx hb dX11_has_0 rfl (lv_at hl 0 rfl) ?_
  refine f_11_3 F w (a := 0) rfl tb_73 dX11_has_1 ?_
  refine lv_iload_n hx hb dX11_has_4 rfl (lv_at hl 1 rfl) ?_
  refine x_Vi F w (As := [.int 0]) (rest := []) (a := 22) (by decide) (sh_0 rfl _ _) rfl (c_X0_covers_206 (h0)) gv_X11_193 hv_X0_covers ⟨Nat.le_of_ble_eq_true rfl, Nat.le_of_ble_eq_true rfl⟩ hl.1 rfl (Nat.le_of_ble_eq_true rfl) ⟨Nat.zero_le _, Nat.zero_le _⟩ dX11_has_5 (fun H locs w => ?_)
  refine lv_if_ne (tgt := 13) hx hb dX11_has_8 (by decide) (fun _ => ?_) (fun c1 => absurd c1 (by decide))
  refine lv_aload_n hx hb dX11_has_13 rfl (lv_at hl 0 rfl) ?_
  refine f_11_3 F w (a := 0) rfl tb_73 dX11_has_14 ?_
  refine lv_iload_n hx hb dX11_has_17 rfl (lv_at hl 1 rfl) ?_
  refine x_Vr F w (As := [.int 0]) (rest := []) (a := 22) (by decide) (sh_0 rfl _ _) rfl (c_X0_stageOf_207 (h0) (h1)) gv_X11_196 hv_X0_stageOf ⟨Nat.le_of_ble_eq_true rfl, Nat.le_of_ble_eq_true rfl⟩ hl.1 rfl (Nat.le_of_ble_eq_true rfl) ⟨Nat.zero_le _, Nat.zero_le _⟩ dX11_has_18 (fun H locs w => ?_)
  refine lv_astore_n (lv' := [(3, .ref (B + 44)), (0, .ref (B + 0)), (1, .int 0), (2, .int 8)]) hx hb dX11_has_21 rfl hl (by decide) rfl (fun ls hl => ?_)
  refine lv_iload_n hx hb dX11_has_22 rfl (lv_at hl 3 rfl) ?_
  refine lv_tableIn (tgt := 118) hx hb dX11_has_23 (by decide) (by decide) (off := 95) rfl (by decide) ?_
  refine lv_aload_n hx hb dX11_has_118 rfl (lv_at hl 0 rfl) ?_
  refine x_Vi F w (As := []) (rest := []) (a := 44) (by decide) (sh_9 rfl _ _) rfl (c_X9_linkedFromFirst_255 (h2) (h3)) gv_X11_225 hv_X9_linkedFromFirst ⟨Nat.le_of_ble_eq_true rfl, Nat.le_of_ble_eq_true rfl⟩ hl.1 rfl (Nat.le_of_ble_eq_true rfl) ⟨Nat.zero_le _, Nat.zero_le _⟩ dX11_has_119 (fun H locs w => ?_)
  exact e_i F w hr hlocks ⟨rfl, rfl⟩ dX11_has_122
theorem dX12_has_113 : decode cX12_has 113 = .ok (.aload_n 0, 1) := by decide +kernel
theorem dX12_has_114 : decode cX12_has 114 = .ok (.invokevirtual 282, 3) := by decide +kernel
theorem dX12_toBare_0 : decode cX12_toBare 0 = .ok (.iconst 0, 1) := by decide +kernel
theorem dX12_toBare_1 : decode cX12_toBare 1 = .ok (.istore_n 1, 1) := by decide +kernel
theorem dX12_toBare_2 : decode cX12_toBare 2 = .ok (.iload_n 1, 1) := by decide +kernel
theorem dX12_toBare_3 : decode cX12_toBare 3 = .ok (.aload_n 0, 1) := by decide +kernel
theorem dX12_toBare_4 : decode cX12_toBare 4 = .ok (.getfield 17, 3) := by decide +kernel
theorem dX12_toBare_7 : decode cX12_toBare 7 = .ok (.bipush 25, 2) := by decide +kernel
theorem dX12_toBare_9 : decode cX12_toBare 9 = .ok (.iaload, 1) := by decide +kernel
theorem dX12_toBare_10 : decode cX12_toBare 10 = .ok (.if_icmp .ge 17, 3) := by decide +kernel
theorem dX12_toBare_27 : decode cX12_toBare 27 = .ok (.iload_n 1, 1) := by decide +kernel
theorem dX12_toBare_28 : decode cX12_toBare 28 = .ok (.ireturn, 1) := by decide +kernel
set_option maxRecDepth 4000 in
theorem c_X12_toBare_257 {l : Launch} {D : va_G} {B : Nat} {cy : Nat → ClassId} {M : Mem} (h0 : M.1 148 25 = 0) : Ci l D B cy yX12_toBare cX12_toBare 2 (some .int) 0 0 [.ref (B + 146)] M (fun r M1 => r = 0 ∧ M1 = M) := by
  refine s_any (by decide) (Nat.le_of_ble_eq_true rfl) ?_
  intro p e s m below meth c ls F hr hlocks w hl
  have F : CallFix p m c cX12_toBare 2 s _ TB RX12 := F
  have hx := F.1
  have hb := F.2.1
  have hl : lv_has ls 2 [(0, .ref (B + 146))] := hl
  refine lv_iconst (v := 0) hx hb dX12_toBare_0 (by decide) ?_
  refine lv_istore_n (lv' := [(1, .int 0), (0, .ref (B + 146))]) hx hb dX12_toBare_1 rfl hl (by decide) rfl (fun ls hl => ?_)
  refine lv_iload_n hx hb dX12_toBare_2 rfl (lv_at hl 0 rfl) ?_
  refine lv_aload_n hx hb dX12_toBare_3 rfl (lv_at hl 1 rfl) ?_
  refine f_12_2 F w (a := 146) rfl tb_127 dX12_toBare_4 ?_
  refine lv_bipush (v := 25) hx hb dX12_toBare_7 (by decide) ?_
  refine g_iald F w (a := 148) rfl (j := 25) ⟨by decide, by decide⟩ (by decide) dX12_toBare_9 ?_
  refine r_val (v := 0) (h0) ?_
  refine lv_icmp_ge (tgt := 27) hx hb dX12_toBare_10 (by decide) (fun _ => ?_) (fun c1 => absurd c1 (by decide))
  refine lv_iload_n hx hb dX12_toBare_27 rfl (lv_at hl 0 rfl) ?_
  exact e_i F w hr hlocks ⟨rfl, rfl⟩ dX12_toBare_28
theorem tk_X12_toBare : Cond.code yX12_toBare cX12_toBare 2 (some .int) ∈ TB := tbm (tc6 (List.mem_of_getElem? (i := 185) rfl)) rfl
theorem gc_X12_toBare : GoodIn TB (cw yX12_toBare cX12_toBare 2 (some .int)) := goodIn_c2 tk_X12_toBare
theorem tb_431 : Cond.methodLink "ToneLinesModel" 282 yX12_toBare ∈ TB := tbm (tc6 (List.mem_of_getElem? (i := 182) rfl)) rfl
theorem tb_432 : Cond.instanceMethod yX12_toBare ∈ TB := tbm (tc6 (List.mem_of_getElem? (i := 184) rfl)) rfl
theorem tb_433 : Cond.selects "ToneLinesModel" yX12_toBare yX12_toBare ∈ TB := tbp (List.mem_of_getElem? (i := 80) rfl) rfl
theorem gv_X12_282 : GoodIn TB (wsV RX12 282 RX12 yX12_toBare (cw yX12_toBare cX12_toBare 2 (some .int))) := goodIn_4 tb_431 tb_432 tb_433 tb_150 gc_X12_toBare
theorem hv_X12_toBare : yX12_toBare.cls = RX12 ∧ yX12_toBare.cls ≠ "java/lang/invoke/MethodHandle" ∧ yX12_toBare.cls ≠ "java/lang/invoke/VarHandle" ∧ (parseMethodDescriptor yX12_toBare.desc).map (fun d => d.parameters.length) = some 0 := by decide +kernel
theorem dX12_has_117 : decode cX12_has 117 = .ok (.ireturn, 1) := by decide +kernel
set_option maxRecDepth 4000 in
theorem c_X12_has_258 {l : Launch} {D : va_G} {B : Nat} {cy : Nat → ClassId} {M : Mem} (h0 : M.1 146 5 = 0) (h1 : M.1 147 0 = 0) (h2 : M.1 148 0 = 0) (h3 : M.1 147 1 = 0) (h4 : M.1 148 1 = 0) (h5 : M.1 147 2 = 0) (h6 : M.1 148 2 = 0) (h7 : M.1 147 3 = 0) (h8 : M.1 148 3 = 0) (h9 : M.1 147 4 = 0) (h10 : M.1 148 4 = 0) (h11 : M.1 147 5 = 0) (h12 : M.1 148 5 = 0) (h13 : M.1 147 6 = 0) (h14 : M.1 148 6 = 0) (h15 : M.1 147 7 = 0) (h16 : M.1 148 7 = 0) (h17 : M.1 147 8 = 0) (h18 : M.1 148 8 = 0) (h19 : M.1 147 9 = 0) (h20 : M.1 148 9 = 0) (h21 : M.1 147 10 = 0) (h22 : M.1 148 10 = 0) (h23 : M.1 147 11 = 0) (h24 : M.1 148 11 = 0) (h25 : M.1 147 12 = 0) (h26 : M.1 148 12 = 0) (h27 : M.1 147 13 = 0) (h28 : M.1 148 13 = 0) (h29 : M.1 147 14 = 0) (h30 : M.1 148 14 = 0) (h31 : M.1 147 15 = 0) (h32 : M.1 148 15 = 0) (h33 : M.1 147 16 = 0) (h34 : M.1 148 16 = 0) (h35 : M.1 147 17 = 0) (h36 : M.1 148 17 = 0) (h37 : M.1 147 18 = 0) (h38 : M.1 148 18 = 0) (h39 : M.1 147 19 = 0) (h40 : M.1 148 19 = 0) (h41 : M.1 147 20 = 0) (h42 : M.1 148 20 = 0) (h43 : M.1 147 21 = 0) (h44 : M.1 148 21 = 0) (h45 : M.1 147 22 = 0) (h46 : M.1 148 22 = 0) (h47 : M.1 147 23 = 0) (h48 : M.1 148 23 = 0) (h49 : M.1 147 24 = 0) (h50 : M.1 148 24 = 0) (h51 : M.1 147 25 = 0) (h52 : M.1 148 25 = 0) (h53 : M.1 147 26 = 0) (h54 : M.1 148 26 = 0) (h55 : M.1 147 27 = 0) (h56 : M.1 148 27 = 0) : Ci l D B cy yX12_has cX12_has 3 (some .int) 3 66 [.ref (B + 146), .int 0, .int 8] M (fun r M1 => r = 0 ∧ M1 = M) := by
  refine s_any (by decide) (Nat.le_of_ble_eq_true rfl) ?_
  intro p e s m below meth c ls F hr hlocks w hl
  have F : CallFix p m c cX12_has 3 s _ TB RX12 := F
  have hx := F.1
  have hb := F.2.1
  have hl : lv_has ls 3 [(0, .ref (B + 146)), (1, .int 0), (2, .int 8)] := hl
  refine lv_aload_n hx hb dX12_has_0 rfl (lv_at hl 0 rfl) ?_
  refine lv_iload_n hx hb dX12_has_1 rfl (lv_at hl 1 rfl) ?_
  refine x_Vi F w (As := [.int 0]) (rest := []) (a := 146) (by decide) (sh_12 rfl _ _) rfl (c_X12_lays_224 (h0) (h1) (h2) (h3) (h4) (h5) (h6) (h7) (h8) (h9) (h10) (h11) (h12) (h13) (h14) (h15) (h16) (h17) (h18) (h19) (h20) (h21) (h22) (h23) (h24) (h25) (h26) (h27) (h28) (h29) (h30) (h31) (h32) (h33) (h34) (h35) (h36) (h37) (h38) (h39) (h40) (h41) (h42) (h43) (h44) (h45) (h46) (h47) (h48) (h49) (h50) (h51) (h52) (h53) (h54) (h55) (h56)) gv_X12_261 hv_X12_lays ⟨Nat.le_of_ble_eq_true rfl, Nat.le_of_ble_eq_true rfl⟩ hl.1 rfl (Nat.le_of_ble_eq_true rfl) ⟨Nat.zero_le _, Nat.zero_le _⟩ dX12_has_2 (fun H locs w => ?_)
  refine lv_if_ne (tgt := 10) hx hb dX12_has_5 (by decide) (fun _ => ?_) (fun c1 => absurd c1 (by decide))
  refine lv_iload_n hx hb dX12_has_10 rfl (lv_at hl 2 rfl) ?_
  refine lv_tableIn (tgt := 113) hx hb dX12_has_11 (by decide) (by decide) (off := 102) rfl (by decide) ?_
  refine lv_aload_n hx hb dX12_has_113 rfl (lv_at hl 0 rfl) ?_
  refine x_Vi F w (As := []) (rest := []) (a := 146) (by decide) (sh_12 rfl _ _) rfl (c_X12_toBare_257 (h52)) gv_X12_282 hv_X12_toBare ⟨Nat.le_of_ble_eq_true rfl, Nat.le_of_ble_eq_true rfl⟩ hl.1 rfl (Nat.le_of_ble_eq_true rfl) ⟨Nat.zero_le _, Nat.zero_le _⟩ dX12_has_114 (fun H locs w => ?_)
  exact e_i F w hr hlocks ⟨rfl, rfl⟩ dX12_has_117
set_option maxRecDepth 8000 in
theorem la_15_51 {p : Program} {l : Launch} {e : Env} {s : State} {m : MethodId} {below : List Frame} {meth : Method} {c : Code} {D : va_G} {B b : Nat} {cy : Nat → ClassId} {H : Heap} {locs : List Loc} {ls : Array Slot} {xs : Nat → Int32} {Q : State → Prop} (F : CallFix p m c code 4 s #[Value.ref b] TB RL) (hX : va_X b 6 xs s s.heap) (hbl : b < s.heap.size) (hbA : ¬ B ≤ b) (w : Wd D B cy s s.heap M0 H locs) (hl : lv_has ls 4 [(3, .int 0), (2, .ref (B + 146)), (1, .ref (B + 0)), (0, .ref b)]) (x1 : xs 1 = 0) (x2 : xs 2 = 8) (kk : ∀ (M1 : Mem) (H1 : Heap) (locs1 : List Loc), Wd D B cy s s.heap M1 H1 locs1 → W p l e room_1 s m #[Value.ref b] below meth c H1 locs1 159 13107 Q (F0 m 1065 ls [])) : W p l e room_1 s m #[Value.ref b] below meth c H locs 159 13107 Q (F0 m 643 ls []) := by
  have hx := F.1
  have hb := F.2.1
  refine lv_aload_n hx hb dL_law_643 rfl (lv_at hl 2 rfl) ?_
  refine lv_aload_n hx hb dL_law_644 rfl (lv_at hl 3 rfl) ?_
  refine lv_iload_n hx hb dL_law_645 rfl (lv_at hl 0 rfl) ?_
  refine lv_iconst (v := 1) hx hb dL_law_646 (by decide) ?_
  refine lv_iadd hx hb dL_law_647 ?_
  refine r_val (v := 1) (by decide) ?_
  refine va_sld hx hb hX hbl hbA w.2.2.1 (vpi (by decide) (by decide)) dL_law_648 ?_
  refine r_val (v := 0) ((congrArg xs (show (1 : Int32).toNatClampNeg = 1 by decide)).trans x1) ?_
  refine lv_aload_n hx hb dL_law_649 rfl (lv_at hl 3 rfl) ?_
  refine lv_iload_n hx hb dL_law_650 rfl (lv_at hl 0 rfl) ?_
  refine lv_iconst (v := 2) hx hb dL_law_651 (by decide) ?_
  refine lv_iadd hx hb dL_law_652 ?_
  refine r_val (v := 2) (by decide) ?_
  refine va_sld hx hb hX hbl hbA w.2.2.1 (vpi (by decide) (by decide)) dL_law_653 ?_
  refine r_val (v := 8) ((congrArg xs (show (2 : Int32).toNatClampNeg = 2 by decide)).trans x2) ?_
  refine x_Vi F w (As := [.int 0, .int 8]) (rest := []) (a := 0) (by decide) (sh_11 rfl _ _) rfl (c_X11_has_256 (rfl) (rfl) (rfl) (rfl)) gv_L_82 hv_X11_has ⟨Nat.le_of_ble_eq_true rfl, Nat.le_of_ble_eq_true rfl⟩ hl.1 rfl (Nat.le_of_ble_eq_true rfl) ⟨Nat.le_of_ble_eq_true rfl, Nat.le_of_ble_eq_true rfl⟩ dL_law_654 (fun H locs w => ?_)
  refine lv_aload_n hx hb dL_law_657 rfl (lv_at hl 1 rfl) ?_
  refine lv_aload_n hx hb dL_law_658 rfl (lv_at hl 3 rfl) ?_
  refine lv_iload_n hx hb dL_law_659 rfl (lv_at hl 0 rfl) ?_
  refine lv_iconst (v := 1) hx hb dL_law_660 (by decide) ?_
  refine lv_iadd hx hb dL_law_661 ?_
  refine r_val (v := 1) (by decide) ?_
  refine va_sld hx hb hX hbl hbA w.2.2.1 (vpi (by decide) (by decide)) dL_law_662 ?_
  refine r_val (v := 0) ((congrArg xs (show (1 : Int32).toNatClampNeg = 1 by decide)).trans x1) ?_
  refine lv_aload_n hx hb dL_law_663 rfl (lv_at hl 3 rfl) ?_
  refine lv_iload_n hx hb dL_law_664 rfl (lv_at hl 0 rfl) ?_
  refine lv_iconst (v := 2) hx hb dL_law_665 (by decide) ?_
  refine lv_iadd hx hb dL_law_666 ?_
  refine r_val (v := 2) (by decide) ?_
  refine va_sld hx hb hX hbl hbA w.2.2.1 (vpi (by decide) (by decide)) dL_law_667 ?_
  refine r_val (v := 8) ((congrArg xs (show (2 : Int32).toNatClampNeg = 2 by decide)).trans x2) ?_
  refine x_Vi F w (As := [.int 0, .int 8]) (rest := [.int 0]) (a := 146) (by decide) (sh_12 rfl _ _) rfl (c_X12_has_258 (rfl) (rfl) (rfl) (rfl) (rfl) (rfl) (rfl) (rfl) (rfl) (rfl) (rfl) (rfl) (rfl) (rfl) (rfl) (rfl) (rfl) (rfl) (rfl) (rfl) (rfl) (rfl) (rfl) (rfl) (rfl) (rfl) (rfl) (rfl) (rfl) (rfl) (rfl) (rfl) (rfl) (rfl) (rfl) (rfl) (rfl) (rfl) (rfl) (rfl) (rfl) (rfl) (rfl) (rfl) (rfl) (rfl) (rfl) (rfl) (rfl) (rfl) (rfl) (rfl) (rfl) (rfl) (rfl) (rfl) (rfl)) gv_L_85 hv_X12_has ⟨Nat.le_of_ble_eq_true rfl, Nat.le_of_ble_eq_true rfl⟩ hl.1 rfl (Nat.le_of_ble_eq_true rfl) ⟨Nat.le_of_ble_eq_true rfl, Nat.le_of_ble_eq_true rfl⟩ dL_law_668 (fun H locs w => ?_)
  refine lv_icmp_eq (tgt := 1065) hx hb dL_law_671 (by decide) (fun _ => ?_) (fun c1 => absurd c1 (by decide))
  exact kk _ _ _ w
set_option maxRecDepth 4000 in
theorem c_X11_has_259 {l : Launch} {D : va_G} {B : Nat} {cy : Nat → ClassId} {M : Mem} {p2 : Int32} (h0 : M.1 22 2 = 0) (h1 : M.1 22 7 = 0) (h2 : p2.toInt < 0 ∨ 8 < p2.toInt) : Ci l D B cy yX11_has cX11_has 4 (some .int) 2 43 [.ref (B + 0), .int 0, .int p2] M (fun r M1 => r = (-1) ∧ M1 = M) := by
  refine s_any (by decide) (Nat.le_of_ble_eq_true rfl) ?_
  intro p e s m below meth c ls F hr hlocks w hl
  have F : CallFix p m c cX11_has 4 s _ TB RX11 := F
  have hx := F.1
  have hb := F.2.1
  have hl : lv_has ls 4 [(0, .ref (B + 0)), (1, .int 0), (2, .int p2)] := hl
  refine lv_aload_n hx hb dX11_has_0 rfl (lv_at hl 0 rfl) ?_
  refine f_11_3 F w (a := 0) rfl tb_73 dX11_has_1 ?_
  refine lv_iload_n hx hb dX11_has_4 rfl (lv_at hl 1 rfl) ?_
  refine x_Vi F w (As := [.int 0]) (rest := []) (a := 22) (by decide) (sh_0 rfl _ _) rfl (c_X0_covers_206 (h0)) gv_X11_193 hv_X0_covers ⟨Nat.le_of_ble_eq_true rfl, Nat.le_of_ble_eq_true rfl⟩ hl.1 rfl (Nat.le_of_ble_eq_true rfl) ⟨Nat.zero_le _, Nat.zero_le _⟩ dX11_has_5 (fun H locs w => ?_)
  refine lv_if_ne (tgt := 13) hx hb dX11_has_8 (by decide) (fun _ => ?_) (fun c1 => absurd c1 (by decide))
  refine lv_aload_n hx hb dX11_has_13 rfl (lv_at hl 0 rfl) ?_
  refine f_11_3 F w (a := 0) rfl tb_73 dX11_has_14 ?_
  refine lv_iload_n hx hb dX11_has_17 rfl (lv_at hl 1 rfl) ?_
  refine x_Vr F w (As := [.int 0]) (rest := []) (a := 22) (by decide) (sh_0 rfl _ _) rfl (c_X0_stageOf_207 (h0) (h1)) gv_X11_196 hv_X0_stageOf ⟨Nat.le_of_ble_eq_true rfl, Nat.le_of_ble_eq_true rfl⟩ hl.1 rfl (Nat.le_of_ble_eq_true rfl) ⟨Nat.zero_le _, Nat.zero_le _⟩ dX11_has_18 (fun H locs w => ?_)
  refine lv_astore_n (lv' := [(3, .ref (B + 44)), (0, .ref (B + 0)), (1, .int 0), (2, .int p2)]) hx hb dX11_has_21 rfl hl (by decide) rfl (fun ls hl => ?_)
  refine lv_iload_n hx hb dX11_has_22 rfl (lv_at hl 3 rfl) ?_
  refine lv_tableOut (tgt := 123) hx hb dX11_has_23 h2 (by decide) ?_
  refine lv_iconst (v := (-1)) hx hb dX11_has_123 (by decide) ?_
  exact e_i F w hr hlocks ⟨rfl, rfl⟩ dX11_has_124
set_option maxRecDepth 4000 in
theorem c_X12_has_260 {l : Launch} {D : va_G} {B : Nat} {cy : Nat → ClassId} {M : Mem} {p2 : Int32} (h0 : M.1 146 5 = 0) (h1 : M.1 147 0 = 0) (h2 : M.1 148 0 = 0) (h3 : M.1 147 1 = 0) (h4 : M.1 148 1 = 0) (h5 : M.1 147 2 = 0) (h6 : M.1 148 2 = 0) (h7 : M.1 147 3 = 0) (h8 : M.1 148 3 = 0) (h9 : M.1 147 4 = 0) (h10 : M.1 148 4 = 0) (h11 : M.1 147 5 = 0) (h12 : M.1 148 5 = 0) (h13 : M.1 147 6 = 0) (h14 : M.1 148 6 = 0) (h15 : M.1 147 7 = 0) (h16 : M.1 148 7 = 0) (h17 : M.1 147 8 = 0) (h18 : M.1 148 8 = 0) (h19 : M.1 147 9 = 0) (h20 : M.1 148 9 = 0) (h21 : M.1 147 10 = 0) (h22 : M.1 148 10 = 0) (h23 : M.1 147 11 = 0) (h24 : M.1 148 11 = 0) (h25 : M.1 147 12 = 0) (h26 : M.1 148 12 = 0) (h27 : M.1 147 13 = 0) (h28 : M.1 148 13 = 0) (h29 : M.1 147 14 = 0) (h30 : M.1 148 14 = 0) (h31 : M.1 147 15 = 0) (h32 : M.1 148 15 = 0) (h33 : M.1 147 16 = 0) (h34 : M.1 148 16 = 0) (h35 : M.1 147 17 = 0) (h36 : M.1 148 17 = 0) (h37 : M.1 147 18 = 0) (h38 : M.1 148 18 = 0) (h39 : M.1 147 19 = 0) (h40 : M.1 148 19 = 0) (h41 : M.1 147 20 = 0) (h42 : M.1 148 20 = 0) (h43 : M.1 147 21 = 0) (h44 : M.1 148 21 = 0) (h45 : M.1 147 22 = 0) (h46 : M.1 148 22 = 0) (h47 : M.1 147 23 = 0) (h48 : M.1 148 23 = 0) (h49 : M.1 147 24 = 0) (h50 : M.1 148 24 = 0) (h51 : M.1 147 25 = 0) (h52 : M.1 148 25 = 0) (h53 : M.1 147 26 = 0) (h54 : M.1 148 26 = 0) (h55 : M.1 147 27 = 0) (h56 : M.1 148 27 = 0) (h57 : p2.toInt < 0 ∨ 8 < p2.toInt) : Ci l D B cy yX12_has cX12_has 3 (some .int) 3 66 [.ref (B + 146), .int 0, .int p2] M (fun r M1 => r = (-1) ∧ M1 = M) := by
  refine s_any (by decide) (Nat.le_of_ble_eq_true rfl) ?_
  intro p e s m below meth c ls F hr hlocks w hl
  have F : CallFix p m c cX12_has 3 s _ TB RX12 := F
  have hx := F.1
  have hb := F.2.1
  have hl : lv_has ls 3 [(0, .ref (B + 146)), (1, .int 0), (2, .int p2)] := hl
  refine lv_aload_n hx hb dX12_has_0 rfl (lv_at hl 0 rfl) ?_
  refine lv_iload_n hx hb dX12_has_1 rfl (lv_at hl 1 rfl) ?_
  refine x_Vi F w (As := [.int 0]) (rest := []) (a := 146) (by decide) (sh_12 rfl _ _) rfl (c_X12_lays_224 (h0) (h1) (h2) (h3) (h4) (h5) (h6) (h7) (h8) (h9) (h10) (h11) (h12) (h13) (h14) (h15) (h16) (h17) (h18) (h19) (h20) (h21) (h22) (h23) (h24) (h25) (h26) (h27) (h28) (h29) (h30) (h31) (h32) (h33) (h34) (h35) (h36) (h37) (h38) (h39) (h40) (h41) (h42) (h43) (h44) (h45) (h46) (h47) (h48) (h49) (h50) (h51) (h52) (h53) (h54) (h55) (h56)) gv_X12_261 hv_X12_lays ⟨Nat.le_of_ble_eq_true rfl, Nat.le_of_ble_eq_true rfl⟩ hl.1 rfl (Nat.le_of_ble_eq_true rfl) ⟨Nat.zero_le _, Nat.zero_le _⟩ dX12_has_2 (fun H locs w => ?_)
  refine lv_if_ne (tgt := 10) hx hb dX12_has_5 (by decide) (fun _ => ?_) (fun c1 => absurd c1 (by decide))
  refine lv_iload_n hx hb dX12_has_10 rfl (lv_at hl 2 rfl) ?_
  refine lv_tableOut (tgt := 118) hx hb dX12_has_11 h57 (by decide) ?_
  refine lv_iconst (v := (-1)) hx hb dX12_has_118 (by decide) ?_
  exact e_i F w hr hlocks ⟨rfl, rfl⟩ dX12_has_119
set_option maxRecDepth 8000 in
theorem la_15_52 {p : Program} {l : Launch} {e : Env} {s : State} {m : MethodId} {below : List Frame} {meth : Method} {c : Code} {D : va_G} {B b : Nat} {cy : Nat → ClassId} {H : Heap} {locs : List Loc} {ls : Array Slot} {xs : Nat → Int32} {Q : State → Prop} (F : CallFix p m c code 4 s #[Value.ref b] TB RL) (hX : va_X b 6 xs s s.heap) (hbl : b < s.heap.size) (hbA : ¬ B ≤ b) (w : Wd D B cy s s.heap M0 H locs) (hl : lv_has ls 4 [(3, .int 0), (2, .ref (B + 146)), (1, .ref (B + 0)), (0, .ref b)]) (x1 : xs 1 = 0) (h0 : (xs 2).toInt < 0 ∨ 8 < (xs 2).toInt) (kk : ∀ (M1 : Mem) (H1 : Heap) (locs1 : List Loc), Wd D B cy s s.heap M1 H1 locs1 → W p l e room_1 s m #[Value.ref b] below meth c H1 locs1 159 13107 Q (F0 m 1065 ls [])) : W p l e room_1 s m #[Value.ref b] below meth c H locs 159 13107 Q (F0 m 643 ls []) := by
  have hx := F.1
  have hb := F.2.1
  refine lv_aload_n hx hb dL_law_643 rfl (lv_at hl 2 rfl) ?_
  refine lv_aload_n hx hb dL_law_644 rfl (lv_at hl 3 rfl) ?_
  refine lv_iload_n hx hb dL_law_645 rfl (lv_at hl 0 rfl) ?_
  refine lv_iconst (v := 1) hx hb dL_law_646 (by decide) ?_
  refine lv_iadd hx hb dL_law_647 ?_
  refine r_val (v := 1) (by decide) ?_
  refine va_sld hx hb hX hbl hbA w.2.2.1 (vpi (by decide) (by decide)) dL_law_648 ?_
  refine r_val (v := 0) ((congrArg xs (show (1 : Int32).toNatClampNeg = 1 by decide)).trans x1) ?_
  refine lv_aload_n hx hb dL_law_649 rfl (lv_at hl 3 rfl) ?_
  refine lv_iload_n hx hb dL_law_650 rfl (lv_at hl 0 rfl) ?_
  refine lv_iconst (v := 2) hx hb dL_law_651 (by decide) ?_
  refine lv_iadd hx hb dL_law_652 ?_
  refine r_val (v := 2) (by decide) ?_
  refine va_sld hx hb hX hbl hbA w.2.2.1 (vpi (by decide) (by decide)) dL_law_653 ?_
  refine r_val (v := xs 2) (congrArg xs (show (2 : Int32).toNatClampNeg = 2 by decide)) ?_
  refine x_Vi F w (As := [.int 0, .int (xs 2)]) (rest := []) (a := 0) (by decide) (sh_11 rfl _ _) rfl (c_X11_has_259 (rfl) (rfl) h0) gv_L_82 hv_X11_has ⟨Nat.le_of_ble_eq_true rfl, Nat.le_of_ble_eq_true rfl⟩ hl.1 rfl (Nat.le_of_ble_eq_true rfl) ⟨Nat.le_of_ble_eq_true rfl, Nat.le_of_ble_eq_true rfl⟩ dL_law_654 (fun H locs w => ?_)
  refine lv_aload_n hx hb dL_law_657 rfl (lv_at hl 1 rfl) ?_
  refine lv_aload_n hx hb dL_law_658 rfl (lv_at hl 3 rfl) ?_
  refine lv_iload_n hx hb dL_law_659 rfl (lv_at hl 0 rfl) ?_
  refine lv_iconst (v := 1) hx hb dL_law_660 (by decide) ?_
  refine lv_iadd hx hb dL_law_661 ?_
  refine r_val (v := 1) (by decide) ?_
  refine va_sld hx hb hX hbl hbA w.2.2.1 (vpi (by decide) (by decide)) dL_law_662 ?_
  refine r_val (v := 0) ((congrArg xs (show (1 : Int32).toNatClampNeg = 1 by decide)).trans x1) ?_
  refine lv_aload_n hx hb dL_law_663 rfl (lv_at hl 3 rfl) ?_
  refine lv_iload_n hx hb dL_law_664 rfl (lv_at hl 0 rfl) ?_
  refine lv_iconst (v := 2) hx hb dL_law_665 (by decide) ?_
  refine lv_iadd hx hb dL_law_666 ?_
  refine r_val (v := 2) (by decide) ?_
  refine va_sld hx hb hX hbl hbA w.2.2.1 (vpi (by decide) (by decide)) dL_law_667 ?_
  refine r_val (v := xs 2) (congrArg xs (show (2 : Int32).toNatClampNeg = 2 by decide)) ?_
  refine x_Vi F w (As := [.int 0, .int (xs 2)]) (rest := [.int (-1)]) (a := 146) (by decide) (sh_12 rfl _ _) rfl (c_X12_has_260 (rfl) (rfl) (rfl) (rfl) (rfl) (rfl) (rfl) (rfl) (rfl) (rfl) (rfl) (rfl) (rfl) (rfl) (rfl) (rfl) (rfl) (rfl) (rfl) (rfl) (rfl) (rfl) (rfl) (rfl) (rfl) (rfl) (rfl) (rfl) (rfl) (rfl) (rfl) (rfl) (rfl) (rfl) (rfl) (rfl) (rfl) (rfl) (rfl) (rfl) (rfl) (rfl) (rfl) (rfl) (rfl) (rfl) (rfl) (rfl) (rfl) (rfl) (rfl) (rfl) (rfl) (rfl) (rfl) (rfl) (rfl) h0) gv_L_85 hv_X12_has ⟨Nat.le_of_ble_eq_true rfl, Nat.le_of_ble_eq_true rfl⟩ hl.1 rfl (Nat.le_of_ble_eq_true rfl) ⟨Nat.le_of_ble_eq_true rfl, Nat.le_of_ble_eq_true rfl⟩ dL_law_668 (fun H locs w => ?_)
  refine lv_icmp_eq (tgt := 1065) hx hb dL_law_671 (by decide) (fun _ => ?_) (fun c1 => absurd c1 (by decide))
  exact kk _ _ _ w
set_option maxRecDepth 4000 in
theorem c_X11_has_261 {l : Launch} {D : va_G} {B : Nat} {cy : Nat → ClassId} {M : Mem} {p1 : Int32} {p2 : Int32} (h0 : ¬ p1 < 0) (h1 : M.1 22 2 = 0) (h2 : 0 < p1) : Ci l D B cy yX11_has cX11_has 4 (some .int) 1 21 [.ref (B + 0), .int p1, .int p2] M (fun r M1 => r = (-1) ∧ M1 = M) := by
  refine s_any (by decide) (Nat.le_of_ble_eq_true rfl) ?_
  intro p e s m below meth c ls F hr hlocks w hl
  have F : CallFix p m c cX11_has 4 s _ TB RX11 := F
  have hx := F.1
  have hb := F.2.1
  have hl : lv_has ls 4 [(0, .ref (B + 0)), (1, .int p1), (2, .int p2)] := hl
  refine lv_aload_n hx hb dX11_has_0 rfl (lv_at hl 0 rfl) ?_
  refine f_11_3 F w (a := 0) rfl tb_73 dX11_has_1 ?_
  refine lv_iload_n hx hb dX11_has_4 rfl (lv_at hl 1 rfl) ?_
  refine x_Vi F w (As := [.int p1]) (rest := []) (a := 22) (by decide) (sh_0 rfl _ _) rfl (c_X0_covers_215 h0 (h1) h2) gv_X11_193 hv_X0_covers ⟨Nat.le_of_ble_eq_true rfl, Nat.le_of_ble_eq_true rfl⟩ hl.1 rfl (Nat.le_of_ble_eq_true rfl) ⟨Nat.zero_le _, Nat.zero_le _⟩ dX11_has_5 (fun H locs w => ?_)
  refine lv_if_ne (tgt := 13) hx hb dX11_has_8 (by decide) (fun c1 => absurd c1 (by decide)) (fun _ => ?_)
  refine lv_iconst (v := (-1)) hx hb dX11_has_11 (by decide) ?_
  exact e_i F w hr hlocks ⟨rfl, rfl⟩ dX11_has_12
set_option maxRecDepth 4000 in
theorem c_X12_lays_262 {l : Launch} {D : va_G} {B : Nat} {cy : Nat → ClassId} {M : Mem} {p1 : Int32} (h0 : M.1 146 5 = 0) (h1 : ¬ p1 < 0) (h2 : 0 < p1) : Ci l D B cy yX12_lays cX12_lays 2 (some .boolean) 1 22 [.ref (B + 146), .int p1] M (fun r M1 => r = 0 ∧ M1 = M) := by
  refine s_any (by decide) (Nat.le_of_ble_eq_true rfl) ?_
  intro p e s m below meth c ls F hr hlocks w hl
  have F : CallFix p m c cX12_lays 2 s _ TB RX12 := F
  have hx := F.1
  have hb := F.2.1
  have hl : lv_has ls 2 [(0, .ref (B + 146)), (1, .int p1)] := hl
  refine lv_iload_n hx hb dX12_lays_0 rfl (lv_at hl 1 rfl) ?_
  refine lv_iconst (v := 0) hx hb dX12_lays_1 (by decide) ?_
  refine lv_aload_n hx hb dX12_lays_2 rfl (lv_at hl 0 rfl) ?_
  refine f_12_5 F w (a := 146) rfl tb_227 dX12_lays_3 ?_
  refine r_val (v := 0) (h0) ?_
  refine x_Si F w (As := [.int p1, .int 0, .int 0]) (rest := []) (c_X12_in_72 h1 h2) gs_X12_55 hs_X12_in ⟨Nat.le_of_ble_eq_true rfl, Nat.le_of_ble_eq_true rfl⟩ hl.1 rfl (Nat.le_of_ble_eq_true rfl) ⟨Nat.zero_le _, Nat.zero_le _⟩ dX12_lays_6 (fun H locs w => ?_)
  refine lv_if_ne (tgt := 14) hx hb dX12_lays_9 (by decide) (fun c1 => absurd c1 (by decide)) (fun _ => ?_)
  refine lv_iconst (v := 0) hx hb dX12_lays_12 (by decide) ?_
  exact e_z F w hr hlocks (by decide) ⟨rfl, rfl⟩ dX12_lays_13
set_option maxRecDepth 4000 in
theorem c_X12_has_263 {l : Launch} {D : va_G} {B : Nat} {cy : Nat → ClassId} {M : Mem} {p1 : Int32} {p2 : Int32} (h0 : M.1 146 5 = 0) (h1 : ¬ p1 < 0) (h2 : 0 < p1) : Ci l D B cy yX12_has cX12_has 3 (some .int) 2 43 [.ref (B + 146), .int p1, .int p2] M (fun r M1 => r = (-1) ∧ M1 = M) := by
  refine s_any (by decide) (Nat.le_of_ble_eq_true rfl) ?_
  intro p e s m below meth c ls F hr hlocks w hl
  have F : CallFix p m c cX12_has 3 s _ TB RX12 := F
  have hx := F.1
  have hb := F.2.1
  have hl : lv_has ls 3 [(0, .ref (B + 146)), (1, .int p1), (2, .int p2)] := hl
  refine lv_aload_n hx hb dX12_has_0 rfl (lv_at hl 0 rfl) ?_
  refine lv_iload_n hx hb dX12_has_1 rfl (lv_at hl 1 rfl) ?_
  refine x_Vi F w (As := [.int p1]) (rest := []) (a := 146) (by decide) (sh_12 rfl _ _) rfl (c_X12_lays_262 (h0) h1 h2) gv_X12_261 hv_X12_lays ⟨Nat.le_of_ble_eq_true rfl, Nat.le_of_ble_eq_true rfl⟩ hl.1 rfl (Nat.le_of_ble_eq_true rfl) ⟨Nat.zero_le _, Nat.zero_le _⟩ dX12_has_2 (fun H locs w => ?_)
  refine lv_if_ne (tgt := 10) hx hb dX12_has_5 (by decide) (fun c1 => absurd c1 (by decide)) (fun _ => ?_)
  refine lv_iconst (v := (-1)) hx hb dX12_has_8 (by decide) ?_
  exact e_i F w hr hlocks ⟨rfl, rfl⟩ dX12_has_9
set_option maxRecDepth 8000 in
theorem la_15_53 {p : Program} {l : Launch} {e : Env} {s : State} {m : MethodId} {below : List Frame} {meth : Method} {c : Code} {D : va_G} {B b : Nat} {cy : Nat → ClassId} {H : Heap} {locs : List Loc} {ls : Array Slot} {xs : Nat → Int32} {Q : State → Prop} (F : CallFix p m c code 4 s #[Value.ref b] TB RL) (hX : va_X b 6 xs s s.heap) (hbl : b < s.heap.size) (hbA : ¬ B ≤ b) (w : Wd D B cy s s.heap M0 H locs) (hl : lv_has ls 4 [(3, .int 0), (2, .ref (B + 146)), (1, .ref (B + 0)), (0, .ref b)]) (h0 : ¬ (xs 1) < 0) (h1 : 0 < (xs 1)) (kk : ∀ (M1 : Mem) (H1 : Heap) (locs1 : List Loc), Wd D B cy s s.heap M1 H1 locs1 → W p l e room_1 s m #[Value.ref b] below meth c H1 locs1 159 13107 Q (F0 m 1065 ls [])) : W p l e room_1 s m #[Value.ref b] below meth c H locs 159 13107 Q (F0 m 643 ls []) := by
  have hx := F.1
  have hb := F.2.1
  refine lv_aload_n hx hb dL_law_643 rfl (lv_at hl 2 rfl) ?_
  refine lv_aload_n hx hb dL_law_644 rfl (lv_at hl 3 rfl) ?_
  refine lv_iload_n hx hb dL_law_645 rfl (lv_at hl 0 rfl) ?_
  refine lv_iconst (v := 1) hx hb dL_law_646 (by decide) ?_
  refine lv_iadd hx hb dL_law_647 ?_
  refine r_val (v := 1) (by decide) ?_
  refine va_sld hx hb hX hbl hbA w.2.2.1 (vpi (by decide) (by decide)) dL_law_648 ?_
  refine r_val (v := xs 1) (congrArg xs (show (1 : Int32).toNatClampNeg = 1 by decide)) ?_
  refine lv_aload_n hx hb dL_law_649 rfl (lv_at hl 3 rfl) ?_
  refine lv_iload_n hx hb dL_law_650 rfl (lv_at hl 0 rfl) ?_
  refine lv_iconst (v := 2) hx hb dL_law_651 (by decide) ?_
  refine lv_iadd hx hb dL_law_652 ?_
  refine r_val (v := 2) (by decide) ?_
  refine va_sld hx hb hX hbl hbA w.2.2.1 (vpi (by decide) (by decide)) dL_law_653 ?_
  refine r_val (v := xs 2) (congrArg xs (show (2 : Int32).toNatClampNeg = 2 by decide)) ?_
  refine x_Vi F w (As := [.int (xs 1), .int (xs 2)]) (rest := []) (a := 0) (by decide) (sh_11 rfl _ _) rfl (c_X11_has_261 h0 (rfl) h1) gv_L_82 hv_X11_has ⟨Nat.le_of_ble_eq_true rfl, Nat.le_of_ble_eq_true rfl⟩ hl.1 rfl (Nat.le_of_ble_eq_true rfl) ⟨Nat.le_of_ble_eq_true rfl, Nat.le_of_ble_eq_true rfl⟩ dL_law_654 (fun H locs w => ?_)
  refine lv_aload_n hx hb dL_law_657 rfl (lv_at hl 1 rfl) ?_
  refine lv_aload_n hx hb dL_law_658 rfl (lv_at hl 3 rfl) ?_
  refine lv_iload_n hx hb dL_law_659 rfl (lv_at hl 0 rfl) ?_
  refine lv_iconst (v := 1) hx hb dL_law_660 (by decide) ?_
  refine lv_iadd hx hb dL_law_661 ?_
  refine r_val (v := 1) (by decide) ?_
  refine va_sld hx hb hX hbl hbA w.2.2.1 (vpi (by decide) (by decide)) dL_law_662 ?_
  refine r_val (v := xs 1) (congrArg xs (show (1 : Int32).toNatClampNeg = 1 by decide)) ?_
  refine lv_aload_n hx hb dL_law_663 rfl (lv_at hl 3 rfl) ?_
  refine lv_iload_n hx hb dL_law_664 rfl (lv_at hl 0 rfl) ?_
  refine lv_iconst (v := 2) hx hb dL_law_665 (by decide) ?_
  refine lv_iadd hx hb dL_law_666 ?_
  refine r_val (v := 2) (by decide) ?_
  refine va_sld hx hb hX hbl hbA w.2.2.1 (vpi (by decide) (by decide)) dL_law_667 ?_
  refine r_val (v := xs 2) (congrArg xs (show (2 : Int32).toNatClampNeg = 2 by decide)) ?_
  refine x_Vi F w (As := [.int (xs 1), .int (xs 2)]) (rest := [.int (-1)]) (a := 146) (by decide) (sh_12 rfl _ _) rfl (c_X12_has_263 (rfl) h0 h1) gv_L_85 hv_X12_has ⟨Nat.le_of_ble_eq_true rfl, Nat.le_of_ble_eq_true rfl⟩ hl.1 rfl (Nat.le_of_ble_eq_true rfl) ⟨Nat.le_of_ble_eq_true rfl, Nat.le_of_ble_eq_true rfl⟩ dL_law_668 (fun H locs w => ?_)
  refine lv_icmp_eq (tgt := 1065) hx hb dL_law_671 (by decide) (fun _ => ?_) (fun c1 => absurd c1 (by decide))
  exact kk _ _ _ w
set_option maxRecDepth 8000 in
theorem lc_15 {p : Program} {l : Launch} {e : Env} {s : State} {m : MethodId} {below : List Frame} {meth : Method} {c : Code} {D : va_G} {B b : Nat} {cy : Nat → ClassId} {H : Heap} {locs : List Loc} {ls : Array Slot} {xs : Nat → Int32} {Q : State → Prop} (F : CallFix p m c code 4 s #[Value.ref b] TB RL) (hX : va_X b 6 xs s s.heap) (hbl : b < s.heap.size) (hbA : ¬ B ≤ b) (w : Wd D B cy s s.heap M0 H locs) (hl : lv_has ls 4 [(3, .int 0), (2, .ref (B + 146)), (1, .ref (B + 0)), (0, .ref b)]) (kk : ∀ (M1 : Mem) (H1 : Heap) (locs1 : List Loc), Wd D B cy s s.heap M1 H1 locs1 → W p l e room_1 s m #[Value.ref b] below meth c H1 locs1 159 13107 Q (F0 m 1065 ls [])) : W p l e room_1 s m #[Value.ref b] below meth c H locs 159 13107 Q (F0 m 643 ls []) := by
  rcases (show (xs 1).toInt < 0 ∨ (xs 1).toInt = 0 ∨ 0 < (xs 1).toInt by omega) with h1 | h1 | h1
  · skip
    exact la_15_41 F hX hbl hbA w hl (by rw [Int32.lt_iff_toInt_lt, show (0 : Int32).toInt = 0 from by decide]; omega) kk
  · have x1 : xs 1 = 0 := Int32.toInt_inj.mp (h1.trans (by decide))
    rcases (show (xs 2).toInt < 0 ∨ (xs 2).toInt = 0 ∨ (xs 2).toInt = 1 ∨ (xs 2).toInt = 2 ∨ (xs 2).toInt = 3 ∨ (xs 2).toInt = 4 ∨ (xs 2).toInt = 5 ∨ (xs 2).toInt = 6 ∨ (xs 2).toInt = 7 ∨ (xs 2).toInt = 8 ∨ 8 < (xs 2).toInt by omega) with h2 | h2 | h2 | h2 | h2 | h2 | h2 | h2 | h2 | h2 | h2
    · skip
      exact la_15_42 F hX hbl hbA w hl x1 (by omega) kk
    · have x2 : xs 2 = 0 := Int32.toInt_inj.mp (h2.trans (by decide))
      exact la_15_43 F hX hbl hbA w hl x1 x2 kk
    · have x2 : xs 2 = 1 := Int32.toInt_inj.mp (h2.trans (by decide))
      exact la_15_44 F hX hbl hbA w hl x1 x2 kk
    · have x2 : xs 2 = 2 := Int32.toInt_inj.mp (h2.trans (by decide))
      exact la_15_45 F hX hbl hbA w hl x1 x2 kk
    · have x2 : xs 2 = 3 := Int32.toInt_inj.mp (h2.trans (by decide))
      exact la_15_46 F hX hbl hbA w hl x1 x2 kk
    · have x2 : xs 2 = 4 := Int32.toInt_inj.mp (h2.trans (by decide))
      exact la_15_47 F hX hbl hbA w hl x1 x2 kk
    · have x2 : xs 2 = 5 := Int32.toInt_inj.mp (h2.trans (by decide))
      exact la_15_48 F hX hbl hbA w hl x1 x2 kk
    · have x2 : xs 2 = 6 := Int32.toInt_inj.mp (h2.trans (by decide))
      exact la_15_49 F hX hbl hbA w hl x1 x2 kk
    · have x2 : xs 2 = 7 := Int32.toInt_inj.mp (h2.trans (by decide))
      exact la_15_50 F hX hbl hbA w hl x1 x2 kk
    · have x2 : xs 2 = 8 := Int32.toInt_inj.mp (h2.trans (by decide))
      exact la_15_51 F hX hbl hbA w hl x1 x2 kk
    · skip
      exact la_15_52 F hX hbl hbA w hl x1 (by omega) kk
  · skip
    exact la_15_53 F hX hbl hbA w hl (by rw [Int32.lt_iff_toInt_lt, show (0 : Int32).toInt = 0 from by decide]; omega) (by rw [Int32.lt_iff_toInt_lt, show (0 : Int32).toInt = 0 from by decide]; omega) kk
theorem dL_law_676 : decode cL_law 676 = .ok (.aload_n 1, 1) := by decide +kernel
theorem dL_law_677 : decode cL_law 677 = .ok (.aload_n 0, 1) := by decide +kernel
theorem dL_law_678 : decode cL_law 678 = .ok (.iload_n 3, 1) := by decide +kernel
theorem dL_law_679 : decode cL_law 679 = .ok (.iconst 1, 1) := by decide +kernel
theorem dL_law_680 : decode cL_law 680 = .ok (.iadd, 1) := by decide +kernel
theorem dL_law_681 : decode cL_law 681 = .ok (.iaload, 1) := by decide +kernel
theorem dL_law_682 : decode cL_law 682 = .ok (.aload_n 0, 1) := by decide +kernel
theorem dL_law_683 : decode cL_law 683 = .ok (.iload_n 3, 1) := by decide +kernel
theorem dL_law_684 : decode cL_law 684 = .ok (.iconst 2, 1) := by decide +kernel
theorem dL_law_685 : decode cL_law 685 = .ok (.iadd, 1) := by decide +kernel
theorem dL_law_686 : decode cL_law 686 = .ok (.iaload, 1) := by decide +kernel
theorem dL_law_687 : decode cL_law 687 = .ok (.aload_n 0, 1) := by decide +kernel
theorem dL_law_688 : decode cL_law 688 = .ok (.iload_n 3, 1) := by decide +kernel
theorem dL_law_689 : decode cL_law 689 = .ok (.iconst 3, 1) := by decide +kernel
theorem dL_law_690 : decode cL_law 690 = .ok (.iadd, 1) := by decide +kernel
theorem dL_law_691 : decode cL_law 691 = .ok (.iaload, 1) := by decide +kernel
theorem dL_law_692 : decode cL_law 692 = .ok (.invokevirtual 86, 3) := by decide +kernel
theorem dX11_toneAt_0 : decode cX11_toneAt 0 = .ok (.aload_n 0, 1) := by decide +kernel
theorem dX11_toneAt_1 : decode cX11_toneAt 1 = .ok (.getfield 35, 3) := by decide +kernel
theorem dX11_toneAt_4 : decode cX11_toneAt 4 = .ok (.iload_n 1, 1) := by decide +kernel
theorem dX11_toneAt_5 : decode cX11_toneAt 5 = .ok (.invokevirtual 193, 3) := by decide +kernel
theorem dX11_toneAt_8 : decode cX11_toneAt 8 = .ok (.ifCond .ne 5, 3) := by decide +kernel
theorem dX11_toneAt_11 : decode cX11_toneAt 11 = .ok (.iconst (-1), 1) := by decide +kernel
theorem dX11_toneAt_12 : decode cX11_toneAt 12 = .ok (.ireturn, 1) := by decide +kernel
set_option maxRecDepth 4000 in
theorem c_X11_toneAt_264 {l : Launch} {D : va_G} {B : Nat} {cy : Nat → ClassId} {M : Mem} {p1 : Int32} {p2 : Int32} {p3 : Int32} (h0 : p1 < 0) : Ci l D B cy yX11_toneAt cX11_toneAt 6 (some .int) 1 21 [.ref (B + 0), .int p1, .int p2, .int p3] M (fun r M1 => r = (-1) ∧ M1 = M) := by
  refine s_any (by decide) (Nat.le_of_ble_eq_true rfl) ?_
  intro p e s m below meth c ls F hr hlocks w hl
  have F : CallFix p m c cX11_toneAt 6 s _ TB RX11 := F
  have hx := F.1
  have hb := F.2.1
  have hl : lv_has ls 6 [(0, .ref (B + 0)), (1, .int p1), (2, .int p2), (3, .int p3)] := hl
  refine lv_aload_n hx hb dX11_toneAt_0 rfl (lv_at hl 0 rfl) ?_
  refine f_11_3 F w (a := 0) rfl tb_73 dX11_toneAt_1 ?_
  refine lv_iload_n hx hb dX11_toneAt_4 rfl (lv_at hl 1 rfl) ?_
  refine x_Vi F w (As := [.int p1]) (rest := []) (a := 22) (by decide) (sh_0 rfl _ _) rfl (c_X0_covers_203 h0) gv_X11_193 hv_X0_covers ⟨Nat.le_of_ble_eq_true rfl, Nat.le_of_ble_eq_true rfl⟩ hl.1 rfl (Nat.le_of_ble_eq_true rfl) ⟨Nat.zero_le _, Nat.zero_le _⟩ dX11_toneAt_5 (fun H locs w => ?_)
  refine lv_if_ne (tgt := 13) hx hb dX11_toneAt_8 (by decide) (fun c1 => absurd c1 (by decide)) (fun _ => ?_)
  refine lv_iconst (v := (-1)) hx hb dX11_toneAt_11 (by decide) ?_
  exact e_i F w hr hlocks ⟨rfl, rfl⟩ dX11_toneAt_12
theorem tk_X11_toneAt : Cond.code yX11_toneAt cX11_toneAt 6 (some .int) ∈ TB := tbm (tc4 (List.mem_of_getElem? (i := 157) rfl)) rfl
theorem gc_X11_toneAt : GoodIn TB (cw yX11_toneAt cX11_toneAt 6 (some .int)) := goodIn_c2 tk_X11_toneAt
theorem tb_434 : Cond.methodLink "ToneLinesLaw" 86 yX11_toneAt ∈ TB := tbm (tc4 (List.mem_of_getElem? (i := 154) rfl)) rfl
theorem tb_435 : Cond.instanceMethod yX11_toneAt ∈ TB := tbm (tc4 (List.mem_of_getElem? (i := 155) rfl)) rfl
theorem tb_436 : Cond.selects "ToneLines" yX11_toneAt yX11_toneAt ∈ TB := tbm (tc4 (List.mem_of_getElem? (i := 156) rfl)) rfl
theorem gv_L_86 : GoodIn TB (wsV RL 86 RX11 yX11_toneAt (cw yX11_toneAt cX11_toneAt 6 (some .int))) := goodIn_4 tb_434 tb_435 tb_436 tb_145 gc_X11_toneAt
theorem hv_X11_toneAt : yX11_toneAt.cls = RX11 ∧ yX11_toneAt.cls ≠ "java/lang/invoke/MethodHandle" ∧ yX11_toneAt.cls ≠ "java/lang/invoke/VarHandle" ∧ (parseMethodDescriptor yX11_toneAt.desc).map (fun d => d.parameters.length) = some 3 := by decide +kernel
theorem dL_law_695 : decode cL_law 695 = .ok (.aload_n 2, 1) := by decide +kernel
theorem dL_law_696 : decode cL_law 696 = .ok (.aload_n 0, 1) := by decide +kernel
theorem dL_law_697 : decode cL_law 697 = .ok (.iload_n 3, 1) := by decide +kernel
theorem dL_law_698 : decode cL_law 698 = .ok (.iconst 1, 1) := by decide +kernel
theorem dL_law_699 : decode cL_law 699 = .ok (.iadd, 1) := by decide +kernel
theorem dL_law_700 : decode cL_law 700 = .ok (.iaload, 1) := by decide +kernel
theorem dL_law_701 : decode cL_law 701 = .ok (.aload_n 0, 1) := by decide +kernel
theorem dL_law_702 : decode cL_law 702 = .ok (.iload_n 3, 1) := by decide +kernel
theorem dL_law_703 : decode cL_law 703 = .ok (.iconst 2, 1) := by decide +kernel
theorem dL_law_704 : decode cL_law 704 = .ok (.iadd, 1) := by decide +kernel
theorem dL_law_705 : decode cL_law 705 = .ok (.iaload, 1) := by decide +kernel
theorem dL_law_706 : decode cL_law 706 = .ok (.aload_n 0, 1) := by decide +kernel
theorem dL_law_707 : decode cL_law 707 = .ok (.iload_n 3, 1) := by decide +kernel
theorem dL_law_708 : decode cL_law 708 = .ok (.iconst 3, 1) := by decide +kernel
theorem dL_law_709 : decode cL_law 709 = .ok (.iadd, 1) := by decide +kernel
theorem dL_law_710 : decode cL_law 710 = .ok (.iaload, 1) := by decide +kernel
theorem dL_law_711 : decode cL_law 711 = .ok (.invokevirtual 90, 3) := by decide +kernel
theorem dX12_toneAt_0 : decode cX12_toneAt 0 = .ok (.aload_n 0, 1) := by decide +kernel
theorem dX12_toneAt_1 : decode cX12_toneAt 1 = .ok (.iload_n 1, 1) := by decide +kernel
theorem dX12_toneAt_2 : decode cX12_toneAt 2 = .ok (.invokevirtual 261, 3) := by decide +kernel
theorem dX12_toneAt_5 : decode cX12_toneAt 5 = .ok (.ifCond .ne 5, 3) := by decide +kernel
theorem dX12_toneAt_8 : decode cX12_toneAt 8 = .ok (.iconst (-1), 1) := by decide +kernel
theorem dX12_toneAt_9 : decode cX12_toneAt 9 = .ok (.ireturn, 1) := by decide +kernel
set_option maxRecDepth 4000 in
theorem c_X12_toneAt_265 {l : Launch} {D : va_G} {B : Nat} {cy : Nat → ClassId} {M : Mem} {p1 : Int32} {p2 : Int32} {p3 : Int32} (h0 : M.1 146 5 = 0) (h1 : p1 < 0) : Ci l D B cy yX12_toneAt cX12_toneAt 6 (some .int) 2 43 [.ref (B + 146), .int p1, .int p2, .int p3] M (fun r M1 => r = (-1) ∧ M1 = M) := by
  refine s_any (by decide) (Nat.le_of_ble_eq_true rfl) ?_
  intro p e s m below meth c ls F hr hlocks w hl
  have F : CallFix p m c cX12_toneAt 6 s _ TB RX12 := F
  have hx := F.1
  have hb := F.2.1
  have hl : lv_has ls 6 [(0, .ref (B + 146)), (1, .int p1), (2, .int p2), (3, .int p3)] := hl
  refine lv_aload_n hx hb dX12_toneAt_0 rfl (lv_at hl 0 rfl) ?_
  refine lv_iload_n hx hb dX12_toneAt_1 rfl (lv_at hl 1 rfl) ?_
  refine x_Vi F w (As := [.int p1]) (rest := []) (a := 146) (by decide) (sh_12 rfl _ _) rfl (c_X12_lays_221 (h0) h1) gv_X12_261 hv_X12_lays ⟨Nat.le_of_ble_eq_true rfl, Nat.le_of_ble_eq_true rfl⟩ hl.1 rfl (Nat.le_of_ble_eq_true rfl) ⟨Nat.zero_le _, Nat.zero_le _⟩ dX12_toneAt_2 (fun H locs w => ?_)
  refine lv_if_ne (tgt := 10) hx hb dX12_toneAt_5 (by decide) (fun c1 => absurd c1 (by decide)) (fun _ => ?_)
  refine lv_iconst (v := (-1)) hx hb dX12_toneAt_8 (by decide) ?_
  exact e_i F w hr hlocks ⟨rfl, rfl⟩ dX12_toneAt_9
theorem tk_X12_toneAt : Cond.code yX12_toneAt cX12_toneAt 6 (some .int) ∈ TB := tbm (tc6 (List.mem_of_getElem? (i := 189) rfl)) rfl
theorem gc_X12_toneAt : GoodIn TB (cw yX12_toneAt cX12_toneAt 6 (some .int)) := goodIn_c2 tk_X12_toneAt
theorem tb_437 : Cond.methodLink "ToneLinesLaw" 90 yX12_toneAt ∈ TB := tbm (tc6 (List.mem_of_getElem? (i := 186) rfl)) rfl
theorem tb_438 : Cond.instanceMethod yX12_toneAt ∈ TB := tbm (tc6 (List.mem_of_getElem? (i := 187) rfl)) rfl
theorem tb_439 : Cond.selects "ToneLinesModel" yX12_toneAt yX12_toneAt ∈ TB := tbm (tc6 (List.mem_of_getElem? (i := 188) rfl)) rfl
theorem gv_L_90 : GoodIn TB (wsV RL 90 RX12 yX12_toneAt (cw yX12_toneAt cX12_toneAt 6 (some .int))) := goodIn_4 tb_437 tb_438 tb_439 tb_150 gc_X12_toneAt
theorem hv_X12_toneAt : yX12_toneAt.cls = RX12 ∧ yX12_toneAt.cls ≠ "java/lang/invoke/MethodHandle" ∧ yX12_toneAt.cls ≠ "java/lang/invoke/VarHandle" ∧ (parseMethodDescriptor yX12_toneAt.desc).map (fun d => d.parameters.length) = some 3 := by decide +kernel
theorem dL_law_714 : decode cL_law 714 = .ok (.if_icmp .eq 351, 3) := by decide +kernel
set_option maxRecDepth 8000 in
theorem la_16_54 {p : Program} {l : Launch} {e : Env} {s : State} {m : MethodId} {below : List Frame} {meth : Method} {c : Code} {D : va_G} {B b : Nat} {cy : Nat → ClassId} {H : Heap} {locs : List Loc} {ls : Array Slot} {xs : Nat → Int32} {Q : State → Prop} (F : CallFix p m c code 4 s #[Value.ref b] TB RL) (hX : va_X b 6 xs s s.heap) (hbl : b < s.heap.size) (hbA : ¬ B ≤ b) (w : Wd D B cy s s.heap M0 H locs) (hl : lv_has ls 4 [(3, .int 0), (2, .ref (B + 146)), (1, .ref (B + 0)), (0, .ref b)]) (h0 : (xs 1) < 0) (kk : ∀ (M1 : Mem) (H1 : Heap) (locs1 : List Loc), Wd D B cy s s.heap M1 H1 locs1 → W p l e room_1 s m #[Value.ref b] below meth c H1 locs1 159 13107 Q (F0 m 1065 ls [])) : W p l e room_1 s m #[Value.ref b] below meth c H locs 159 13107 Q (F0 m 676 ls []) := by
  have hx := F.1
  have hb := F.2.1
  refine lv_aload_n hx hb dL_law_676 rfl (lv_at hl 2 rfl) ?_
  refine lv_aload_n hx hb dL_law_677 rfl (lv_at hl 3 rfl) ?_
  refine lv_iload_n hx hb dL_law_678 rfl (lv_at hl 0 rfl) ?_
  refine lv_iconst (v := 1) hx hb dL_law_679 (by decide) ?_
  refine lv_iadd hx hb dL_law_680 ?_
  refine r_val (v := 1) (by decide) ?_
  refine va_sld hx hb hX hbl hbA w.2.2.1 (vpi (by decide) (by decide)) dL_law_681 ?_
  refine r_val (v := xs 1) (congrArg xs (show (1 : Int32).toNatClampNeg = 1 by decide)) ?_
  refine lv_aload_n hx hb dL_law_682 rfl (lv_at hl 3 rfl) ?_
  refine lv_iload_n hx hb dL_law_683 rfl (lv_at hl 0 rfl) ?_
  refine lv_iconst (v := 2) hx hb dL_law_684 (by decide) ?_
  refine lv_iadd hx hb dL_law_685 ?_
  refine r_val (v := 2) (by decide) ?_
  refine va_sld hx hb hX hbl hbA w.2.2.1 (vpi (by decide) (by decide)) dL_law_686 ?_
  refine r_val (v := xs 2) (congrArg xs (show (2 : Int32).toNatClampNeg = 2 by decide)) ?_
  refine lv_aload_n hx hb dL_law_687 rfl (lv_at hl 3 rfl) ?_
  refine lv_iload_n hx hb dL_law_688 rfl (lv_at hl 0 rfl) ?_
  refine lv_iconst (v := 3) hx hb dL_law_689 (by decide) ?_
  refine lv_iadd hx hb dL_law_690 ?_
  refine r_val (v := 3) (by decide) ?_
  refine va_sld hx hb hX hbl hbA w.2.2.1 (vpi (by decide) (by decide)) dL_law_691 ?_
  refine r_val (v := xs 3) (congrArg xs (show (3 : Int32).toNatClampNeg = 3 by decide)) ?_
  refine x_Vi F w (As := [.int (xs 1), .int (xs 2), .int (xs 3)]) (rest := []) (a := 0) (by decide) (sh_11 rfl _ _) rfl (c_X11_toneAt_264 h0) gv_L_86 hv_X11_toneAt ⟨Nat.le_of_ble_eq_true rfl, Nat.le_of_ble_eq_true rfl⟩ hl.1 rfl (Nat.le_of_ble_eq_true rfl) ⟨Nat.le_of_ble_eq_true rfl, Nat.le_of_ble_eq_true rfl⟩ dL_law_692 (fun H locs w => ?_)
  refine lv_aload_n hx hb dL_law_695 rfl (lv_at hl 1 rfl) ?_
  refine lv_aload_n hx hb dL_law_696 rfl (lv_at hl 3 rfl) ?_
  refine lv_iload_n hx hb dL_law_697 rfl (lv_at hl 0 rfl) ?_
  refine lv_iconst (v := 1) hx hb dL_law_698 (by decide) ?_
  refine lv_iadd hx hb dL_law_699 ?_
  refine r_val (v := 1) (by decide) ?_
  refine va_sld hx hb hX hbl hbA w.2.2.1 (vpi (by decide) (by decide)) dL_law_700 ?_
  refine r_val (v := xs 1) (congrArg xs (show (1 : Int32).toNatClampNeg = 1 by decide)) ?_
  refine lv_aload_n hx hb dL_law_701 rfl (lv_at hl 3 rfl) ?_
  refine lv_iload_n hx hb dL_law_702 rfl (lv_at hl 0 rfl) ?_
  refine lv_iconst (v := 2) hx hb dL_law_703 (by decide) ?_
  refine lv_iadd hx hb dL_law_704 ?_
  refine r_val (v := 2) (by decide) ?_
  refine va_sld hx hb hX hbl hbA w.2.2.1 (vpi (by decide) (by decide)) dL_law_705 ?_
  refine r_val (v := xs 2) (congrArg xs (show (2 : Int32).toNatClampNeg = 2 by decide)) ?_
  refine lv_aload_n hx hb dL_law_706 rfl (lv_at hl 3 rfl) ?_
  refine lv_iload_n hx hb dL_law_707 rfl (lv_at hl 0 rfl) ?_
  refine lv_iconst (v := 3) hx hb dL_law_708 (by decide) ?_
  refine lv_iadd hx hb dL_law_709 ?_
  refine r_val (v := 3) (by decide) ?_
  refine va_sld hx hb hX hbl hbA w.2.2.1 (vpi (by decide) (by decide)) dL_law_710 ?_
  refine r_val (v := xs 3) (congrArg xs (show (3 : Int32).toNatClampNeg = 3 by decide)) ?_
  refine x_Vi F w (As := [.int (xs 1), .int (xs 2), .int (xs 3)]) (rest := [.int (-1)]) (a := 146) (by decide) (sh_12 rfl _ _) rfl (c_X12_toneAt_265 (rfl) h0) gv_L_90 hv_X12_toneAt ⟨Nat.le_of_ble_eq_true rfl, Nat.le_of_ble_eq_true rfl⟩ hl.1 rfl (Nat.le_of_ble_eq_true rfl) ⟨Nat.le_of_ble_eq_true rfl, Nat.le_of_ble_eq_true rfl⟩ dL_law_711 (fun H locs w => ?_)
  refine lv_icmp_eq (tgt := 1065) hx hb dL_law_714 (by decide) (fun _ => ?_) (fun c1 => absurd c1 (by decide))
  exact kk _ _ _ w
theorem dX11_toneAt_13 : decode cX11_toneAt 13 = .ok (.aload_n 0, 1) := by decide +kernel
theorem dX11_toneAt_14 : decode cX11_toneAt 14 = .ok (.getfield 35, 3) := by decide +kernel
theorem dX11_toneAt_17 : decode cX11_toneAt 17 = .ok (.iload_n 1, 1) := by decide +kernel
theorem dX11_toneAt_18 : decode cX11_toneAt 18 = .ok (.invokevirtual 196, 3) := by decide +kernel
theorem dX11_toneAt_21 : decode cX11_toneAt 21 = .ok (.astore 4, 2) := by decide +kernel
theorem dX11_toneAt_23 : decode cX11_toneAt 23 = .ok (.aload 4, 2) := by decide +kernel
theorem dX11_toneAt_25 : decode cX11_toneAt 25 = .ok (.iload_n 2, 1) := by decide +kernel
theorem dX11_toneAt_26 : decode cX11_toneAt 26 = .ok (.invokevirtual 141, 3) := by decide +kernel
theorem dX11_toneAt_29 : decode cX11_toneAt 29 = .ok (.ifCond .ne 15, 3) := by decide +kernel
theorem dX11_toneAt_32 : decode cX11_toneAt 32 = .ok (.iload_n 3, 1) := by decide +kernel
theorem dX11_toneAt_33 : decode cX11_toneAt 33 = .ok (.iconst 4, 1) := by decide +kernel
theorem dX11_toneAt_34 : decode cX11_toneAt 34 = .ok (.if_icmp .ne 8, 3) := by decide +kernel
theorem dX11_toneAt_37 : decode cX11_toneAt 37 = .ok (.bipush (-100), 2) := by decide +kernel
theorem dX11_toneAt_39 : decode cX11_toneAt 39 = .ok (.goto 4, 3) := by decide +kernel
theorem dX11_toneAt_43 : decode cX11_toneAt 43 = .ok (.ireturn, 1) := by decide +kernel
set_option maxRecDepth 4000 in
theorem c_X11_toneAt_266 {l : Launch} {D : va_G} {B : Nat} {cy : Nat → ClassId} {M : Mem} {p2 : Int32} (h0 : M.1 22 2 = 0) (h1 : M.1 22 7 = 0) (h2 : p2 < 0) : Ci l D B cy yX11_toneAt cX11_toneAt 6 (some .int) 2 43 [.ref (B + 0), .int 0, .int p2, .int 4] M (fun r M1 => r = (-100) ∧ M1 = M) := by
  refine s_any (by decide) (Nat.le_of_ble_eq_true rfl) ?_
  intro p e s m below meth c ls F hr hlocks w hl
  have F : CallFix p m c cX11_toneAt 6 s _ TB RX11 := F
  have hx := F.1
  have hb := F.2.1
  have hl : lv_has ls 6 [(0, .ref (B + 0)), (1, .int 0), (2, .int p2), (3, .int 4)] := hl
  refine lv_aload_n hx hb dX11_toneAt_0 rfl (lv_at hl 0 rfl) ?_
  refine f_11_3 F w (a := 0) rfl tb_73 dX11_toneAt_1 ?_
  refine lv_iload_n hx hb dX11_toneAt_4 rfl (lv_at hl 1 rfl) ?_
  refine x_Vi F w (As := [.int 0]) (rest := []) (a := 22) (by decide) (sh_0 rfl _ _) rfl (c_X0_covers_206 (h0)) gv_X11_193 hv_X0_covers ⟨Nat.le_of_ble_eq_true rfl, Nat.le_of_ble_eq_true rfl⟩ hl.1 rfl (Nat.le_of_ble_eq_true rfl) ⟨Nat.zero_le _, Nat.zero_le _⟩ dX11_toneAt_5 (fun H locs w => ?_)
  refine lv_if_ne (tgt := 13) hx hb dX11_toneAt_8 (by decide) (fun _ => ?_) (fun c1 => absurd c1 (by decide))
  refine lv_aload_n hx hb dX11_toneAt_13 rfl (lv_at hl 0 rfl) ?_
  refine f_11_3 F w (a := 0) rfl tb_73 dX11_toneAt_14 ?_
  refine lv_iload_n hx hb dX11_toneAt_17 rfl (lv_at hl 1 rfl) ?_
  refine x_Vr F w (As := [.int 0]) (rest := []) (a := 22) (by decide) (sh_0 rfl _ _) rfl (c_X0_stageOf_207 (h0) (h1)) gv_X11_196 hv_X0_stageOf ⟨Nat.le_of_ble_eq_true rfl, Nat.le_of_ble_eq_true rfl⟩ hl.1 rfl (Nat.le_of_ble_eq_true rfl) ⟨Nat.zero_le _, Nat.zero_le _⟩ dX11_toneAt_18 (fun H locs w => ?_)
  refine lv_astore (lv' := [(4, .ref (B + 44)), (0, .ref (B + 0)), (1, .int 0), (2, .int p2), (3, .int 4)]) hx hb dX11_toneAt_21 hl (by decide) rfl (fun ls hl => ?_)
  refine lv_aload hx hb dX11_toneAt_23 (lv_at hl 0 rfl) ?_
  refine lv_iload_n hx hb dX11_toneAt_25 rfl (lv_at hl 3 rfl) ?_
  refine x_Vi F w (As := [.int p2]) (rest := []) (a := 44) (by decide) (sh_9 rfl _ _) rfl (c_X9_hasTone_92 h2) gv_X11_141 hv_X9_hasTone ⟨Nat.le_of_ble_eq_true rfl, Nat.le_of_ble_eq_true rfl⟩ hl.1 rfl (Nat.le_of_ble_eq_true rfl) ⟨Nat.zero_le _, Nat.zero_le _⟩ dX11_toneAt_26 (fun H locs w => ?_)
  refine lv_if_ne (tgt := 44) hx hb dX11_toneAt_29 (by decide) (fun c1 => absurd c1 (by decide)) (fun _ => ?_)
  refine lv_iload_n hx hb dX11_toneAt_32 rfl (lv_at hl 4 rfl) ?_
  refine lv_iconst (v := 4) hx hb dX11_toneAt_33 (by decide) ?_
  refine lv_icmp_ne (tgt := 42) hx hb dX11_toneAt_34 (by decide) (fun c1 => absurd c1 (by decide)) (fun _ => ?_)
  refine lv_bipush (v := (-100)) hx hb dX11_toneAt_37 (by decide) ?_
  refine lv_goto (tgt := 43) hx hb dX11_toneAt_39 (by decide) ?_
  exact e_i F w hr hlocks ⟨rfl, rfl⟩ dX11_toneAt_43
theorem dX12_toneAt_10 : decode cX12_toneAt 10 = .ok (.aload_n 0, 1) := by decide +kernel
theorem dX12_toneAt_11 : decode cX12_toneAt 11 = .ok (.getfield 17, 3) := by decide +kernel
theorem dX12_toneAt_14 : decode cX12_toneAt 14 = .ok (.iload_n 2, 1) := by decide +kernel
theorem dX12_toneAt_15 : decode cX12_toneAt 15 = .ok (.invokestatic 105, 3) := by decide +kernel
set_option maxRecDepth 4000 in
theorem c_X12_isTone_267 {l : Launch} {D : va_G} {B : Nat} {cy : Nat → ClassId} {M : Mem} {p1 : Int32} (h0 : M.1 148 0 = 0) (h1 : p1 < 0) : Ci l D B cy yX12_isTone cX12_isTone 2 (some .boolean) 1 22 [.ref (B + 148), .int p1] M (fun r M1 => r = 0 ∧ M1 = M) := by
  refine s_any (by decide) (Nat.le_of_ble_eq_true rfl) ?_
  intro p e s m below meth c ls F hr hlocks w hl
  have F : CallFix p m c cX12_isTone 2 s _ TB RX12 := F
  have hx := F.1
  have hb := F.2.1
  have hl : lv_has ls 2 [(0, .ref (B + 148)), (1, .int p1)] := hl
  refine lv_iload_n hx hb dX12_isTone_0 rfl (lv_at hl 1 rfl) ?_
  refine lv_iconst (v := 0) hx hb dX12_isTone_1 (by decide) ?_
  refine lv_aload_n hx hb dX12_isTone_2 rfl (lv_at hl 0 rfl) ?_
  refine lv_iconst (v := 0) hx hb dX12_isTone_3 (by decide) ?_
  refine g_iald F w (a := 148) rfl (j := 0) ⟨by decide, by decide⟩ (by decide) dX12_isTone_4 ?_
  refine r_val (v := 0) (h0) ?_
  refine lv_iconst (v := 1) hx hb dX12_isTone_5 (by decide) ?_
  refine lv_isub hx hb dX12_isTone_6 ?_
  refine r_val (v := (-1)) (by decide) ?_
  refine x_Si F w (As := [.int p1, .int 0, .int (-1)]) (rest := []) (c_X12_in_95 h1) gs_X12_55 hs_X12_in ⟨Nat.le_of_ble_eq_true rfl, Nat.le_of_ble_eq_true rfl⟩ hl.1 rfl (Nat.le_of_ble_eq_true rfl) ⟨Nat.zero_le _, Nat.zero_le _⟩ dX12_isTone_7 (fun H locs w => ?_)
  exact e_z F w hr hlocks (by decide) ⟨rfl, rfl⟩ dX12_isTone_10
theorem dX12_toneAt_18 : decode cX12_toneAt 18 = .ok (.ifCond .ne 15, 3) := by decide +kernel
theorem dX12_toneAt_21 : decode cX12_toneAt 21 = .ok (.iload_n 3, 1) := by decide +kernel
theorem dX12_toneAt_22 : decode cX12_toneAt 22 = .ok (.iconst 4, 1) := by decide +kernel
theorem dX12_toneAt_23 : decode cX12_toneAt 23 = .ok (.if_icmp .ne 8, 3) := by decide +kernel
theorem dX12_toneAt_26 : decode cX12_toneAt 26 = .ok (.bipush (-100), 2) := by decide +kernel
theorem dX12_toneAt_28 : decode cX12_toneAt 28 = .ok (.goto 4, 3) := by decide +kernel
theorem dX12_toneAt_32 : decode cX12_toneAt 32 = .ok (.ireturn, 1) := by decide +kernel
set_option maxRecDepth 4000 in
theorem c_X12_toneAt_268 {l : Launch} {D : va_G} {B : Nat} {cy : Nat → ClassId} {M : Mem} {p2 : Int32} (h0 : M.1 146 5 = 0) (h1 : M.1 147 0 = 0) (h2 : M.1 148 0 = 0) (h3 : M.1 147 1 = 0) (h4 : M.1 148 1 = 0) (h5 : M.1 147 2 = 0) (h6 : M.1 148 2 = 0) (h7 : M.1 147 3 = 0) (h8 : M.1 148 3 = 0) (h9 : M.1 147 4 = 0) (h10 : M.1 148 4 = 0) (h11 : M.1 147 5 = 0) (h12 : M.1 148 5 = 0) (h13 : M.1 147 6 = 0) (h14 : M.1 148 6 = 0) (h15 : M.1 147 7 = 0) (h16 : M.1 148 7 = 0) (h17 : M.1 147 8 = 0) (h18 : M.1 148 8 = 0) (h19 : M.1 147 9 = 0) (h20 : M.1 148 9 = 0) (h21 : M.1 147 10 = 0) (h22 : M.1 148 10 = 0) (h23 : M.1 147 11 = 0) (h24 : M.1 148 11 = 0) (h25 : M.1 147 12 = 0) (h26 : M.1 148 12 = 0) (h27 : M.1 147 13 = 0) (h28 : M.1 148 13 = 0) (h29 : M.1 147 14 = 0) (h30 : M.1 148 14 = 0) (h31 : M.1 147 15 = 0) (h32 : M.1 148 15 = 0) (h33 : M.1 147 16 = 0) (h34 : M.1 148 16 = 0) (h35 : M.1 147 17 = 0) (h36 : M.1 148 17 = 0) (h37 : M.1 147 18 = 0) (h38 : M.1 148 18 = 0) (h39 : M.1 147 19 = 0) (h40 : M.1 148 19 = 0) (h41 : M.1 147 20 = 0) (h42 : M.1 148 20 = 0) (h43 : M.1 147 21 = 0) (h44 : M.1 148 21 = 0) (h45 : M.1 147 22 = 0) (h46 : M.1 148 22 = 0) (h47 : M.1 147 23 = 0) (h48 : M.1 148 23 = 0) (h49 : M.1 147 24 = 0) (h50 : M.1 148 24 = 0) (h51 : M.1 147 25 = 0) (h52 : M.1 148 25 = 0) (h53 : M.1 147 26 = 0) (h54 : M.1 148 26 = 0) (h55 : M.1 147 27 = 0) (h56 : M.1 148 27 = 0) (h57 : p2 < 0) : Ci l D B cy yX12_toneAt cX12_toneAt 6 (some .int) 3 66 [.ref (B + 146), .int 0, .int p2, .int 4] M (fun r M1 => r = (-100) ∧ M1 = M) := by
  refine s_any (by decide) (Nat.le_of_ble_eq_true rfl) ?_
  intro p e s m below meth c ls F hr hlocks w hl
  have F : CallFix p m c cX12_toneAt 6 s _ TB RX12 := F
  have hx := F.1
  have hb := F.2.1
  have hl : lv_has ls 6 [(0, .ref (B + 146)), (1, .int 0), (2, .int p2), (3, .int 4)] := hl
  refine lv_aload_n hx hb dX12_toneAt_0 rfl (lv_at hl 0 rfl) ?_
  refine lv_iload_n hx hb dX12_toneAt_1 rfl (lv_at hl 1 rfl) ?_
  refine x_Vi F w (As := [.int 0]) (rest := []) (a := 146) (by decide) (sh_12 rfl _ _) rfl (c_X12_lays_224 (h0) (h1) (h2) (h3) (h4) (h5) (h6) (h7) (h8) (h9) (h10) (h11) (h12) (h13) (h14) (h15) (h16) (h17) (h18) (h19) (h20) (h21) (h22) (h23) (h24) (h25) (h26) (h27) (h28) (h29) (h30) (h31) (h32) (h33) (h34) (h35) (h36) (h37) (h38) (h39) (h40) (h41) (h42) (h43) (h44) (h45) (h46) (h47) (h48) (h49) (h50) (h51) (h52) (h53) (h54) (h55) (h56)) gv_X12_261 hv_X12_lays ⟨Nat.le_of_ble_eq_true rfl, Nat.le_of_ble_eq_true rfl⟩ hl.1 rfl (Nat.le_of_ble_eq_true rfl) ⟨Nat.zero_le _, Nat.zero_le _⟩ dX12_toneAt_2 (fun H locs w => ?_)
  refine lv_if_ne (tgt := 10) hx hb dX12_toneAt_5 (by decide) (fun _ => ?_) (fun c1 => absurd c1 (by decide))
  refine lv_aload_n hx hb dX12_toneAt_10 rfl (lv_at hl 0 rfl) ?_
  refine f_12_2 F w (a := 146) rfl tb_127 dX12_toneAt_11 ?_
  refine lv_iload_n hx hb dX12_toneAt_14 rfl (lv_at hl 2 rfl) ?_
  refine x_Si F w (As := [.ref (B + 148), .int p2]) (rest := []) (c_X12_isTone_267 (h2) h57) gs_X12_105 hs_X12_isTone ⟨Nat.le_of_ble_eq_true rfl, Nat.le_of_ble_eq_true rfl⟩ hl.1 rfl (Nat.le_of_ble_eq_true rfl) ⟨Nat.zero_le _, Nat.zero_le _⟩ dX12_toneAt_15 (fun H locs w => ?_)
  refine lv_if_ne (tgt := 33) hx hb dX12_toneAt_18 (by decide) (fun c1 => absurd c1 (by decide)) (fun _ => ?_)
  refine lv_iload_n hx hb dX12_toneAt_21 rfl (lv_at hl 3 rfl) ?_
  refine lv_iconst (v := 4) hx hb dX12_toneAt_22 (by decide) ?_
  refine lv_icmp_ne (tgt := 31) hx hb dX12_toneAt_23 (by decide) (fun c1 => absurd c1 (by decide)) (fun _ => ?_)
  refine lv_bipush (v := (-100)) hx hb dX12_toneAt_26 (by decide) ?_
  refine lv_goto (tgt := 32) hx hb dX12_toneAt_28 (by decide) ?_
  exact e_i F w hr hlocks ⟨rfl, rfl⟩ dX12_toneAt_32
set_option maxRecDepth 8000 in
theorem la_16_55 {p : Program} {l : Launch} {e : Env} {s : State} {m : MethodId} {below : List Frame} {meth : Method} {c : Code} {D : va_G} {B b : Nat} {cy : Nat → ClassId} {H : Heap} {locs : List Loc} {ls : Array Slot} {xs : Nat → Int32} {Q : State → Prop} (F : CallFix p m c code 4 s #[Value.ref b] TB RL) (hX : va_X b 6 xs s s.heap) (hbl : b < s.heap.size) (hbA : ¬ B ≤ b) (w : Wd D B cy s s.heap M0 H locs) (hl : lv_has ls 4 [(3, .int 0), (2, .ref (B + 146)), (1, .ref (B + 0)), (0, .ref b)]) (x1 : xs 1 = 0) (x3 : xs 3 = 4) (h0 : (xs 2) < 0) (kk : ∀ (M1 : Mem) (H1 : Heap) (locs1 : List Loc), Wd D B cy s s.heap M1 H1 locs1 → W p l e room_1 s m #[Value.ref b] below meth c H1 locs1 159 13107 Q (F0 m 1065 ls [])) : W p l e room_1 s m #[Value.ref b] below meth c H locs 159 13107 Q (F0 m 676 ls []) := by
  have hx := F.1
  have hb := F.2.1
  refine lv_aload_n hx hb dL_law_676 rfl (lv_at hl 2 rfl) ?_
  refine lv_aload_n hx hb dL_law_677 rfl (lv_at hl 3 rfl) ?_
  refine lv_iload_n hx hb dL_law_678 rfl (lv_at hl 0 rfl) ?_
  refine lv_iconst (v := 1) hx hb dL_law_679 (by decide) ?_
  refine lv_iadd hx hb dL_law_680 ?_
  refine r_val (v := 1) (by decide) ?_
  refine va_sld hx hb hX hbl hbA w.2.2.1 (vpi (by decide) (by decide)) dL_law_681 ?_
  refine r_val (v := 0) ((congrArg xs (show (1 : Int32).toNatClampNeg = 1 by decide)).trans x1) ?_
  refine lv_aload_n hx hb dL_law_682 rfl (lv_at hl 3 rfl) ?_
  refine lv_iload_n hx hb dL_law_683 rfl (lv_at hl 0 rfl) ?_
  refine lv_iconst (v := 2) hx hb dL_law_684 (by decide) ?_
  refine lv_iadd hx hb dL_law_685 ?_
  refine r_val (v := 2) (by decide) ?_
  refine va_sld hx hb hX hbl hbA w.2.2.1 (vpi (by decide) (by decide)) dL_law_686 ?_
  refine r_val (v := xs 2) (congrArg xs (show (2 : Int32).toNatClampNeg = 2 by decide)) ?_
  refine lv_aload_n hx hb dL_law_687 rfl (lv_at hl 3 rfl) ?_
  refine lv_iload_n hx hb dL_law_688 rfl (lv_at hl 0 rfl) ?_
  refine lv_iconst (v := 3) hx hb dL_law_689 (by decide) ?_
  refine lv_iadd hx hb dL_law_690 ?_
  refine r_val (v := 3) (by decide) ?_
  refine va_sld hx hb hX hbl hbA w.2.2.1 (vpi (by decide) (by decide)) dL_law_691 ?_
  refine r_val (v := 4) ((congrArg xs (show (3 : Int32).toNatClampNeg = 3 by decide)).trans x3) ?_
  refine x_Vi F w (As := [.int 0, .int (xs 2), .int 4]) (rest := []) (a := 0) (by decide) (sh_11 rfl _ _) rfl (c_X11_toneAt_266 (rfl) (rfl) h0) gv_L_86 hv_X11_toneAt ⟨Nat.le_of_ble_eq_true rfl, Nat.le_of_ble_eq_true rfl⟩ hl.1 rfl (Nat.le_of_ble_eq_true rfl) ⟨Nat.le_of_ble_eq_true rfl, Nat.le_of_ble_eq_true rfl⟩ dL_law_692 (fun H locs w => ?_)
  refine lv_aload_n hx hb dL_law_695 rfl (lv_at hl 1 rfl) ?_
  refine lv_aload_n hx hb dL_law_696 rfl (lv_at hl 3 rfl) ?_
  refine lv_iload_n hx hb dL_law_697 rfl (lv_at hl 0 rfl) ?_
  refine lv_iconst (v := 1) hx hb dL_law_698 (by decide) ?_
  refine lv_iadd hx hb dL_law_699 ?_
  refine r_val (v := 1) (by decide) ?_
  refine va_sld hx hb hX hbl hbA w.2.2.1 (vpi (by decide) (by decide)) dL_law_700 ?_
  refine r_val (v := 0) ((congrArg xs (show (1 : Int32).toNatClampNeg = 1 by decide)).trans x1) ?_
  refine lv_aload_n hx hb dL_law_701 rfl (lv_at hl 3 rfl) ?_
  refine lv_iload_n hx hb dL_law_702 rfl (lv_at hl 0 rfl) ?_
  refine lv_iconst (v := 2) hx hb dL_law_703 (by decide) ?_
  refine lv_iadd hx hb dL_law_704 ?_
  refine r_val (v := 2) (by decide) ?_
  refine va_sld hx hb hX hbl hbA w.2.2.1 (vpi (by decide) (by decide)) dL_law_705 ?_
  refine r_val (v := xs 2) (congrArg xs (show (2 : Int32).toNatClampNeg = 2 by decide)) ?_
  refine lv_aload_n hx hb dL_law_706 rfl (lv_at hl 3 rfl) ?_
  refine lv_iload_n hx hb dL_law_707 rfl (lv_at hl 0 rfl) ?_
  refine lv_iconst (v := 3) hx hb dL_law_708 (by decide) ?_
  refine lv_iadd hx hb dL_law_709 ?_
  refine r_val (v := 3) (by decide) ?_
  refine va_sld hx hb hX hbl hbA w.2.2.1 (vpi (by decide) (by decide)) dL_law_710 ?_
  refine r_val (v := 4) ((congrArg xs (show (3 : Int32).toNatClampNeg = 3 by decide)).trans x3) ?_
  refine x_Vi F w (As := [.int 0, .int (xs 2), .int 4]) (rest := [.int (-100)]) (a := 146) (by decide) (sh_12 rfl _ _) rfl (c_X12_toneAt_268 (rfl) (rfl) (rfl) (rfl) (rfl) (rfl) (rfl) (rfl) (rfl) (rfl) (rfl) (rfl) (rfl) (rfl) (rfl) (rfl) (rfl) (rfl) (rfl) (rfl) (rfl) (rfl) (rfl) (rfl) (rfl) (rfl) (rfl) (rfl) (rfl) (rfl) (rfl) (rfl) (rfl) (rfl) (rfl) (rfl) (rfl) (rfl) (rfl) (rfl) (rfl) (rfl) (rfl) (rfl) (rfl) (rfl) (rfl) (rfl) (rfl) (rfl) (rfl) (rfl) (rfl) (rfl) (rfl) (rfl) (rfl) h0) gv_L_90 hv_X12_toneAt ⟨Nat.le_of_ble_eq_true rfl, Nat.le_of_ble_eq_true rfl⟩ hl.1 rfl (Nat.le_of_ble_eq_true rfl) ⟨Nat.le_of_ble_eq_true rfl, Nat.le_of_ble_eq_true rfl⟩ dL_law_711 (fun H locs w => ?_)
  refine lv_icmp_eq (tgt := 1065) hx hb dL_law_714 (by decide) (fun _ => ?_) (fun c1 => absurd c1 (by decide))
  exact kk _ _ _ w
theorem dX11_toneAt_42 : decode cX11_toneAt 42 = .ok (.iconst (-1), 1) := by decide +kernel
set_option maxRecDepth 4000 in
theorem c_X11_toneAt_269 {l : Launch} {D : va_G} {B : Nat} {cy : Nat → ClassId} {M : Mem} {p2 : Int32} {p3 : Int32} (h0 : M.1 22 2 = 0) (h1 : M.1 22 7 = 0) (h2 : p2 < 0) (h3 : ¬ p3 = 4) : Ci l D B cy yX11_toneAt cX11_toneAt 6 (some .int) 2 43 [.ref (B + 0), .int 0, .int p2, .int p3] M (fun r M1 => r = (-1) ∧ M1 = M) := by
  refine s_any (by decide) (Nat.le_of_ble_eq_true rfl) ?_
  intro p e s m below meth c ls F hr hlocks w hl
  have F : CallFix p m c cX11_toneAt 6 s _ TB RX11 := F
  have hx := F.1
  have hb := F.2.1
  have hl : lv_has ls 6 [(0, .ref (B + 0)), (1, .int 0), (2, .int p2), (3, .int p3)] := hl
  refine lv_aload_n hx hb dX11_toneAt_0 rfl (lv_at hl 0 rfl) ?_
  refine f_11_3 F w (a := 0) rfl tb_73 dX11_toneAt_1 ?_
  refine lv_iload_n hx hb dX11_toneAt_4 rfl (lv_at hl 1 rfl) ?_
  refine x_Vi F w (As := [.int 0]) (rest := []) (a := 22) (by decide) (sh_0 rfl _ _) rfl (c_X0_covers_206 (h0)) gv_X11_193 hv_X0_covers ⟨Nat.le_of_ble_eq_true rfl, Nat.le_of_ble_eq_true rfl⟩ hl.1 rfl (Nat.le_of_ble_eq_true rfl) ⟨Nat.zero_le _, Nat.zero_le _⟩ dX11_toneAt_5 (fun H locs w => ?_)
  refine lv_if_ne (tgt := 13) hx hb dX11_toneAt_8 (by decide) (fun _ => ?_) (fun c1 => absurd c1 (by decide))
  refine lv_aload_n hx hb dX11_toneAt_13 rfl (lv_at hl 0 rfl) ?_
  refine f_11_3 F w (a := 0) rfl tb_73 dX11_toneAt_14 ?_
  refine lv_iload_n hx hb dX11_toneAt_17 rfl (lv_at hl 1 rfl) ?_
  refine x_Vr F w (As := [.int 0]) (rest := []) (a := 22) (by decide) (sh_0 rfl _ _) rfl (c_X0_stageOf_207 (h0) (h1)) gv_X11_196 hv_X0_stageOf ⟨Nat.le_of_ble_eq_true rfl, Nat.le_of_ble_eq_true rfl⟩ hl.1 rfl (Nat.le_of_ble_eq_true rfl) ⟨Nat.zero_le _, Nat.zero_le _⟩ dX11_toneAt_18 (fun H locs w => ?_)
  refine lv_astore (lv' := [(4, .ref (B + 44)), (0, .ref (B + 0)), (1, .int 0), (2, .int p2), (3, .int p3)]) hx hb dX11_toneAt_21 hl (by decide) rfl (fun ls hl => ?_)
  refine lv_aload hx hb dX11_toneAt_23 (lv_at hl 0 rfl) ?_
  refine lv_iload_n hx hb dX11_toneAt_25 rfl (lv_at hl 3 rfl) ?_
  refine x_Vi F w (As := [.int p2]) (rest := []) (a := 44) (by decide) (sh_9 rfl _ _) rfl (c_X9_hasTone_92 h2) gv_X11_141 hv_X9_hasTone ⟨Nat.le_of_ble_eq_true rfl, Nat.le_of_ble_eq_true rfl⟩ hl.1 rfl (Nat.le_of_ble_eq_true rfl) ⟨Nat.zero_le _, Nat.zero_le _⟩ dX11_toneAt_26 (fun H locs w => ?_)
  refine lv_if_ne (tgt := 44) hx hb dX11_toneAt_29 (by decide) (fun c1 => absurd c1 (by decide)) (fun _ => ?_)
  refine lv_iload_n hx hb dX11_toneAt_32 rfl (lv_at hl 4 rfl) ?_
  refine lv_iconst (v := 4) hx hb dX11_toneAt_33 (by decide) ?_
  refine lv_icmp_ne (tgt := 42) hx hb dX11_toneAt_34 (by decide) (fun _ => ?_) (fun c1 => absurd c1 h3)
  refine lv_iconst (v := (-1)) hx hb dX11_toneAt_42 (by decide) ?_
  exact e_i F w hr hlocks ⟨rfl, rfl⟩ dX11_toneAt_43
theorem dX12_toneAt_31 : decode cX12_toneAt 31 = .ok (.iconst (-1), 1) := by decide +kernel
set_option maxRecDepth 4000 in
theorem c_X12_toneAt_270 {l : Launch} {D : va_G} {B : Nat} {cy : Nat → ClassId} {M : Mem} {p2 : Int32} {p3 : Int32} (h0 : M.1 146 5 = 0) (h1 : M.1 147 0 = 0) (h2 : M.1 148 0 = 0) (h3 : M.1 147 1 = 0) (h4 : M.1 148 1 = 0) (h5 : M.1 147 2 = 0) (h6 : M.1 148 2 = 0) (h7 : M.1 147 3 = 0) (h8 : M.1 148 3 = 0) (h9 : M.1 147 4 = 0) (h10 : M.1 148 4 = 0) (h11 : M.1 147 5 = 0) (h12 : M.1 148 5 = 0) (h13 : M.1 147 6 = 0) (h14 : M.1 148 6 = 0) (h15 : M.1 147 7 = 0) (h16 : M.1 148 7 = 0) (h17 : M.1 147 8 = 0) (h18 : M.1 148 8 = 0) (h19 : M.1 147 9 = 0) (h20 : M.1 148 9 = 0) (h21 : M.1 147 10 = 0) (h22 : M.1 148 10 = 0) (h23 : M.1 147 11 = 0) (h24 : M.1 148 11 = 0) (h25 : M.1 147 12 = 0) (h26 : M.1 148 12 = 0) (h27 : M.1 147 13 = 0) (h28 : M.1 148 13 = 0) (h29 : M.1 147 14 = 0) (h30 : M.1 148 14 = 0) (h31 : M.1 147 15 = 0) (h32 : M.1 148 15 = 0) (h33 : M.1 147 16 = 0) (h34 : M.1 148 16 = 0) (h35 : M.1 147 17 = 0) (h36 : M.1 148 17 = 0) (h37 : M.1 147 18 = 0) (h38 : M.1 148 18 = 0) (h39 : M.1 147 19 = 0) (h40 : M.1 148 19 = 0) (h41 : M.1 147 20 = 0) (h42 : M.1 148 20 = 0) (h43 : M.1 147 21 = 0) (h44 : M.1 148 21 = 0) (h45 : M.1 147 22 = 0) (h46 : M.1 148 22 = 0) (h47 : M.1 147 23 = 0) (h48 : M.1 148 23 = 0) (h49 : M.1 147 24 = 0) (h50 : M.1 148 24 = 0) (h51 : M.1 147 25 = 0) (h52 : M.1 148 25 = 0) (h53 : M.1 147 26 = 0) (h54 : M.1 148 26 = 0) (h55 : M.1 147 27 = 0) (h56 : M.1 148 27 = 0) (h57 : p2 < 0) (h58 : ¬ p3 = 4) : Ci l D B cy yX12_toneAt cX12_toneAt 6 (some .int) 3 66 [.ref (B + 146), .int 0, .int p2, .int p3] M (fun r M1 => r = (-1) ∧ M1 = M) := by
  refine s_any (by decide) (Nat.le_of_ble_eq_true rfl) ?_
  intro p e s m below meth c ls F hr hlocks w hl
  have F : CallFix p m c cX12_toneAt 6 s _ TB RX12 := F
  have hx := F.1
  have hb := F.2.1
  have hl : lv_has ls 6 [(0, .ref (B + 146)), (1, .int 0), (2, .int p2), (3, .int p3)] := hl
  refine lv_aload_n hx hb dX12_toneAt_0 rfl (lv_at hl 0 rfl) ?_
  refine lv_iload_n hx hb dX12_toneAt_1 rfl (lv_at hl 1 rfl) ?_
  refine x_Vi F w (As := [.int 0]) (rest := []) (a := 146) (by decide) (sh_12 rfl _ _) rfl (c_X12_lays_224 (h0) (h1) (h2) (h3) (h4) (h5) (h6) (h7) (h8) (h9) (h10) (h11) (h12) (h13) (h14) (h15) (h16) (h17) (h18) (h19) (h20) (h21) (h22) (h23) (h24) (h25) (h26) (h27) (h28) (h29) (h30) (h31) (h32) (h33) (h34) (h35) (h36) (h37) (h38) (h39) (h40) (h41) (h42) (h43) (h44) (h45) (h46) (h47) (h48) (h49) (h50) (h51) (h52) (h53) (h54) (h55) (h56)) gv_X12_261 hv_X12_lays ⟨Nat.le_of_ble_eq_true rfl, Nat.le_of_ble_eq_true rfl⟩ hl.1 rfl (Nat.le_of_ble_eq_true rfl) ⟨Nat.zero_le _, Nat.zero_le _⟩ dX12_toneAt_2 (fun H locs w => ?_)
  refine lv_if_ne (tgt := 10) hx hb dX12_toneAt_5 (by decide) (fun _ => ?_) (fun c1 => absurd c1 (by decide))
  refine lv_aload_n hx hb dX12_toneAt_10 rfl (lv_at hl 0 rfl) ?_
  refine f_12_2 F w (a := 146) rfl tb_127 dX12_toneAt_11 ?_
  refine lv_iload_n hx hb dX12_toneAt_14 rfl (lv_at hl 2 rfl) ?_
  refine x_Si F w (As := [.ref (B + 148), .int p2]) (rest := []) (c_X12_isTone_267 (h2) h57) gs_X12_105 hs_X12_isTone ⟨Nat.le_of_ble_eq_true rfl, Nat.le_of_ble_eq_true rfl⟩ hl.1 rfl (Nat.le_of_ble_eq_true rfl) ⟨Nat.zero_le _, Nat.zero_le _⟩ dX12_toneAt_15 (fun H locs w => ?_)
  refine lv_if_ne (tgt := 33) hx hb dX12_toneAt_18 (by decide) (fun c1 => absurd c1 (by decide)) (fun _ => ?_)
  refine lv_iload_n hx hb dX12_toneAt_21 rfl (lv_at hl 3 rfl) ?_
  refine lv_iconst (v := 4) hx hb dX12_toneAt_22 (by decide) ?_
  refine lv_icmp_ne (tgt := 31) hx hb dX12_toneAt_23 (by decide) (fun _ => ?_) (fun c1 => absurd c1 h58)
  refine lv_iconst (v := (-1)) hx hb dX12_toneAt_31 (by decide) ?_
  exact e_i F w hr hlocks ⟨rfl, rfl⟩ dX12_toneAt_32
set_option maxRecDepth 8000 in
theorem la_16_56 {p : Program} {l : Launch} {e : Env} {s : State} {m : MethodId} {below : List Frame} {meth : Method} {c : Code} {D : va_G} {B b : Nat} {cy : Nat → ClassId} {H : Heap} {locs : List Loc} {ls : Array Slot} {xs : Nat → Int32} {Q : State → Prop} (F : CallFix p m c code 4 s #[Value.ref b] TB RL) (hX : va_X b 6 xs s s.heap) (hbl : b < s.heap.size) (hbA : ¬ B ≤ b) (w : Wd D B cy s s.heap M0 H locs) (hl : lv_has ls 4 [(3, .int 0), (2, .ref (B + 146)), (1, .ref (B + 0)), (0, .ref b)]) (x1 : xs 1 = 0) (h0 : (xs 2) < 0) (h1 : ¬ (xs 3) = 4) (kk : ∀ (M1 : Mem) (H1 : Heap) (locs1 : List Loc), Wd D B cy s s.heap M1 H1 locs1 → W p l e room_1 s m #[Value.ref b] below meth c H1 locs1 159 13107 Q (F0 m 1065 ls [])) : W p l e room_1 s m #[Value.ref b] below meth c H locs 159 13107 Q (F0 m 676 ls []) := by
  have hx := F.1
  have hb := F.2.1
  refine lv_aload_n hx hb dL_law_676 rfl (lv_at hl 2 rfl) ?_
  refine lv_aload_n hx hb dL_law_677 rfl (lv_at hl 3 rfl) ?_
  refine lv_iload_n hx hb dL_law_678 rfl (lv_at hl 0 rfl) ?_
  refine lv_iconst (v := 1) hx hb dL_law_679 (by decide) ?_
  refine lv_iadd hx hb dL_law_680 ?_
  refine r_val (v := 1) (by decide) ?_
  refine va_sld hx hb hX hbl hbA w.2.2.1 (vpi (by decide) (by decide)) dL_law_681 ?_
  refine r_val (v := 0) ((congrArg xs (show (1 : Int32).toNatClampNeg = 1 by decide)).trans x1) ?_
  refine lv_aload_n hx hb dL_law_682 rfl (lv_at hl 3 rfl) ?_
  refine lv_iload_n hx hb dL_law_683 rfl (lv_at hl 0 rfl) ?_
  refine lv_iconst (v := 2) hx hb dL_law_684 (by decide) ?_
  refine lv_iadd hx hb dL_law_685 ?_
  refine r_val (v := 2) (by decide) ?_
  refine va_sld hx hb hX hbl hbA w.2.2.1 (vpi (by decide) (by decide)) dL_law_686 ?_
  refine r_val (v := xs 2) (congrArg xs (show (2 : Int32).toNatClampNeg = 2 by decide)) ?_
  refine lv_aload_n hx hb dL_law_687 rfl (lv_at hl 3 rfl) ?_
  refine lv_iload_n hx hb dL_law_688 rfl (lv_at hl 0 rfl) ?_
  refine lv_iconst (v := 3) hx hb dL_law_689 (by decide) ?_
  refine lv_iadd hx hb dL_law_690 ?_
  refine r_val (v := 3) (by decide) ?_
  refine va_sld hx hb hX hbl hbA w.2.2.1 (vpi (by decide) (by decide)) dL_law_691 ?_
  refine r_val (v := xs 3) (congrArg xs (show (3 : Int32).toNatClampNeg = 3 by decide)) ?_
  refine x_Vi F w (As := [.int 0, .int (xs 2), .int (xs 3)]) (rest := []) (a := 0) (by decide) (sh_11 rfl _ _) rfl (c_X11_toneAt_269 (rfl) (rfl) h0 h1) gv_L_86 hv_X11_toneAt ⟨Nat.le_of_ble_eq_true rfl, Nat.le_of_ble_eq_true rfl⟩ hl.1 rfl (Nat.le_of_ble_eq_true rfl) ⟨Nat.le_of_ble_eq_true rfl, Nat.le_of_ble_eq_true rfl⟩ dL_law_692 (fun H locs w => ?_)
  refine lv_aload_n hx hb dL_law_695 rfl (lv_at hl 1 rfl) ?_
  refine lv_aload_n hx hb dL_law_696 rfl (lv_at hl 3 rfl) ?_
  refine lv_iload_n hx hb dL_law_697 rfl (lv_at hl 0 rfl) ?_
  refine lv_iconst (v := 1) hx hb dL_law_698 (by decide) ?_
  refine lv_iadd hx hb dL_law_699 ?_
  refine r_val (v := 1) (by decide) ?_
  refine va_sld hx hb hX hbl hbA w.2.2.1 (vpi (by decide) (by decide)) dL_law_700 ?_
  refine r_val (v := 0) ((congrArg xs (show (1 : Int32).toNatClampNeg = 1 by decide)).trans x1) ?_
  refine lv_aload_n hx hb dL_law_701 rfl (lv_at hl 3 rfl) ?_
  refine lv_iload_n hx hb dL_law_702 rfl (lv_at hl 0 rfl) ?_
  refine lv_iconst (v := 2) hx hb dL_law_703 (by decide) ?_
  refine lv_iadd hx hb dL_law_704 ?_
  refine r_val (v := 2) (by decide) ?_
  refine va_sld hx hb hX hbl hbA w.2.2.1 (vpi (by decide) (by decide)) dL_law_705 ?_
  refine r_val (v := xs 2) (congrArg xs (show (2 : Int32).toNatClampNeg = 2 by decide)) ?_
  refine lv_aload_n hx hb dL_law_706 rfl (lv_at hl 3 rfl) ?_
  refine lv_iload_n hx hb dL_law_707 rfl (lv_at hl 0 rfl) ?_
  refine lv_iconst (v := 3) hx hb dL_law_708 (by decide) ?_
  refine lv_iadd hx hb dL_law_709 ?_
  refine r_val (v := 3) (by decide) ?_
  refine va_sld hx hb hX hbl hbA w.2.2.1 (vpi (by decide) (by decide)) dL_law_710 ?_
  refine r_val (v := xs 3) (congrArg xs (show (3 : Int32).toNatClampNeg = 3 by decide)) ?_
  refine x_Vi F w (As := [.int 0, .int (xs 2), .int (xs 3)]) (rest := [.int (-1)]) (a := 146) (by decide) (sh_12 rfl _ _) rfl (c_X12_toneAt_270 (rfl) (rfl) (rfl) (rfl) (rfl) (rfl) (rfl) (rfl) (rfl) (rfl) (rfl) (rfl) (rfl) (rfl) (rfl) (rfl) (rfl) (rfl) (rfl) (rfl) (rfl) (rfl) (rfl) (rfl) (rfl) (rfl) (rfl) (rfl) (rfl) (rfl) (rfl) (rfl) (rfl) (rfl) (rfl) (rfl) (rfl) (rfl) (rfl) (rfl) (rfl) (rfl) (rfl) (rfl) (rfl) (rfl) (rfl) (rfl) (rfl) (rfl) (rfl) (rfl) (rfl) (rfl) (rfl) (rfl) (rfl) h0 h1) gv_L_90 hv_X12_toneAt ⟨Nat.le_of_ble_eq_true rfl, Nat.le_of_ble_eq_true rfl⟩ hl.1 rfl (Nat.le_of_ble_eq_true rfl) ⟨Nat.le_of_ble_eq_true rfl, Nat.le_of_ble_eq_true rfl⟩ dL_law_711 (fun H locs w => ?_)
  refine lv_icmp_eq (tgt := 1065) hx hb dL_law_714 (by decide) (fun _ => ?_) (fun c1 => absurd c1 (by decide))
  exact kk _ _ _ w
set_option maxRecDepth 4000 in
theorem c_X11_toneAt_271 {l : Launch} {D : va_G} {B : Nat} {cy : Nat → ClassId} {M : Mem} {p2 : Int32} (h0 : M.1 22 2 = 0) (h1 : M.1 22 7 = 0) (h2 : ¬ p2 < 0) (h3 : M.1 44 0 = 0) (h4 : 0 ≤ p2) : Ci l D B cy yX11_toneAt cX11_toneAt 6 (some .int) 2 43 [.ref (B + 0), .int 0, .int p2, .int 4] M (fun r M1 => r = (-100) ∧ M1 = M) := by
  refine s_any (by decide) (Nat.le_of_ble_eq_true rfl) ?_
  intro p e s m below meth c ls F hr hlocks w hl
  have F : CallFix p m c cX11_toneAt 6 s _ TB RX11 := F
  have hx := F.1
  have hb := F.2.1
  have hl : lv_has ls 6 [(0, .ref (B + 0)), (1, .int 0), (2, .int p2), (3, .int 4)] := hl
  refine lv_aload_n hx hb dX11_toneAt_0 rfl (lv_at hl 0 rfl) ?_
  refine f_11_3 F w (a := 0) rfl tb_73 dX11_toneAt_1 ?_
  refine lv_iload_n hx hb dX11_toneAt_4 rfl (lv_at hl 1 rfl) ?_
  refine x_Vi F w (As := [.int 0]) (rest := []) (a := 22) (by decide) (sh_0 rfl _ _) rfl (c_X0_covers_206 (h0)) gv_X11_193 hv_X0_covers ⟨Nat.le_of_ble_eq_true rfl, Nat.le_of_ble_eq_true rfl⟩ hl.1 rfl (Nat.le_of_ble_eq_true rfl) ⟨Nat.zero_le _, Nat.zero_le _⟩ dX11_toneAt_5 (fun H locs w => ?_)
  refine lv_if_ne (tgt := 13) hx hb dX11_toneAt_8 (by decide) (fun _ => ?_) (fun c1 => absurd c1 (by decide))
  refine lv_aload_n hx hb dX11_toneAt_13 rfl (lv_at hl 0 rfl) ?_
  refine f_11_3 F w (a := 0) rfl tb_73 dX11_toneAt_14 ?_
  refine lv_iload_n hx hb dX11_toneAt_17 rfl (lv_at hl 1 rfl) ?_
  refine x_Vr F w (As := [.int 0]) (rest := []) (a := 22) (by decide) (sh_0 rfl _ _) rfl (c_X0_stageOf_207 (h0) (h1)) gv_X11_196 hv_X0_stageOf ⟨Nat.le_of_ble_eq_true rfl, Nat.le_of_ble_eq_true rfl⟩ hl.1 rfl (Nat.le_of_ble_eq_true rfl) ⟨Nat.zero_le _, Nat.zero_le _⟩ dX11_toneAt_18 (fun H locs w => ?_)
  refine lv_astore (lv' := [(4, .ref (B + 44)), (0, .ref (B + 0)), (1, .int 0), (2, .int p2), (3, .int 4)]) hx hb dX11_toneAt_21 hl (by decide) rfl (fun ls hl => ?_)
  refine lv_aload hx hb dX11_toneAt_23 (lv_at hl 0 rfl) ?_
  refine lv_iload_n hx hb dX11_toneAt_25 rfl (lv_at hl 3 rfl) ?_
  refine x_Vi F w (As := [.int p2]) (rest := []) (a := 44) (by decide) (sh_9 rfl _ _) rfl (c_X9_hasTone_98 h2 (h3) h4) gv_X11_141 hv_X9_hasTone ⟨Nat.le_of_ble_eq_true rfl, Nat.le_of_ble_eq_true rfl⟩ hl.1 rfl (Nat.le_of_ble_eq_true rfl) ⟨Nat.zero_le _, Nat.zero_le _⟩ dX11_toneAt_26 (fun H locs w => ?_)
  refine lv_if_ne (tgt := 44) hx hb dX11_toneAt_29 (by decide) (fun c1 => absurd c1 (by decide)) (fun _ => ?_)
  refine lv_iload_n hx hb dX11_toneAt_32 rfl (lv_at hl 4 rfl) ?_
  refine lv_iconst (v := 4) hx hb dX11_toneAt_33 (by decide) ?_
  refine lv_icmp_ne (tgt := 42) hx hb dX11_toneAt_34 (by decide) (fun c1 => absurd c1 (by decide)) (fun _ => ?_)
  refine lv_bipush (v := (-100)) hx hb dX11_toneAt_37 (by decide) ?_
  refine lv_goto (tgt := 43) hx hb dX11_toneAt_39 (by decide) ?_
  exact e_i F w hr hlocks ⟨rfl, rfl⟩ dX11_toneAt_43
set_option maxRecDepth 4000 in
theorem c_X12_isTone_272 {l : Launch} {D : va_G} {B : Nat} {cy : Nat → ClassId} {M : Mem} {p1 : Int32} (h0 : M.1 148 0 = 0) (h1 : ¬ p1 < 0) (h2 : (-1) < p1) : Ci l D B cy yX12_isTone cX12_isTone 2 (some .boolean) 1 22 [.ref (B + 148), .int p1] M (fun r M1 => r = 0 ∧ M1 = M) := by
  refine s_any (by decide) (Nat.le_of_ble_eq_true rfl) ?_
  intro p e s m below meth c ls F hr hlocks w hl
  have F : CallFix p m c cX12_isTone 2 s _ TB RX12 := F
  have hx := F.1
  have hb := F.2.1
  have hl : lv_has ls 2 [(0, .ref (B + 148)), (1, .int p1)] := hl
  refine lv_iload_n hx hb dX12_isTone_0 rfl (lv_at hl 1 rfl) ?_
  refine lv_iconst (v := 0) hx hb dX12_isTone_1 (by decide) ?_
  refine lv_aload_n hx hb dX12_isTone_2 rfl (lv_at hl 0 rfl) ?_
  refine lv_iconst (v := 0) hx hb dX12_isTone_3 (by decide) ?_
  refine g_iald F w (a := 148) rfl (j := 0) ⟨by decide, by decide⟩ (by decide) dX12_isTone_4 ?_
  refine r_val (v := 0) (h0) ?_
  refine lv_iconst (v := 1) hx hb dX12_isTone_5 (by decide) ?_
  refine lv_isub hx hb dX12_isTone_6 ?_
  refine r_val (v := (-1)) (by decide) ?_
  refine x_Si F w (As := [.int p1, .int 0, .int (-1)]) (rest := []) (c_X12_in_101 h1 h2) gs_X12_55 hs_X12_in ⟨Nat.le_of_ble_eq_true rfl, Nat.le_of_ble_eq_true rfl⟩ hl.1 rfl (Nat.le_of_ble_eq_true rfl) ⟨Nat.zero_le _, Nat.zero_le _⟩ dX12_isTone_7 (fun H locs w => ?_)
  exact e_z F w hr hlocks (by decide) ⟨rfl, rfl⟩ dX12_isTone_10
set_option maxRecDepth 4000 in
theorem c_X12_toneAt_273 {l : Launch} {D : va_G} {B : Nat} {cy : Nat → ClassId} {M : Mem} {p2 : Int32} (h0 : M.1 146 5 = 0) (h1 : M.1 147 0 = 0) (h2 : M.1 148 0 = 0) (h3 : M.1 147 1 = 0) (h4 : M.1 148 1 = 0) (h5 : M.1 147 2 = 0) (h6 : M.1 148 2 = 0) (h7 : M.1 147 3 = 0) (h8 : M.1 148 3 = 0) (h9 : M.1 147 4 = 0) (h10 : M.1 148 4 = 0) (h11 : M.1 147 5 = 0) (h12 : M.1 148 5 = 0) (h13 : M.1 147 6 = 0) (h14 : M.1 148 6 = 0) (h15 : M.1 147 7 = 0) (h16 : M.1 148 7 = 0) (h17 : M.1 147 8 = 0) (h18 : M.1 148 8 = 0) (h19 : M.1 147 9 = 0) (h20 : M.1 148 9 = 0) (h21 : M.1 147 10 = 0) (h22 : M.1 148 10 = 0) (h23 : M.1 147 11 = 0) (h24 : M.1 148 11 = 0) (h25 : M.1 147 12 = 0) (h26 : M.1 148 12 = 0) (h27 : M.1 147 13 = 0) (h28 : M.1 148 13 = 0) (h29 : M.1 147 14 = 0) (h30 : M.1 148 14 = 0) (h31 : M.1 147 15 = 0) (h32 : M.1 148 15 = 0) (h33 : M.1 147 16 = 0) (h34 : M.1 148 16 = 0) (h35 : M.1 147 17 = 0) (h36 : M.1 148 17 = 0) (h37 : M.1 147 18 = 0) (h38 : M.1 148 18 = 0) (h39 : M.1 147 19 = 0) (h40 : M.1 148 19 = 0) (h41 : M.1 147 20 = 0) (h42 : M.1 148 20 = 0) (h43 : M.1 147 21 = 0) (h44 : M.1 148 21 = 0) (h45 : M.1 147 22 = 0) (h46 : M.1 148 22 = 0) (h47 : M.1 147 23 = 0) (h48 : M.1 148 23 = 0) (h49 : M.1 147 24 = 0) (h50 : M.1 148 24 = 0) (h51 : M.1 147 25 = 0) (h52 : M.1 148 25 = 0) (h53 : M.1 147 26 = 0) (h54 : M.1 148 26 = 0) (h55 : M.1 147 27 = 0) (h56 : M.1 148 27 = 0) (h57 : ¬ p2 < 0) (h58 : (-1) < p2) : Ci l D B cy yX12_toneAt cX12_toneAt 6 (some .int) 3 66 [.ref (B + 146), .int 0, .int p2, .int 4] M (fun r M1 => r = (-100) ∧ M1 = M) := by
  refine s_any (by decide) (Nat.le_of_ble_eq_true rfl) ?_
  intro p e s m below meth c ls F hr hlocks w hl
  have F : CallFix p m c cX12_toneAt 6 s _ TB RX12 := F
  have hx := F.1
  have hb := F.2.1
  have hl : lv_has ls 6 [(0, .ref (B + 146)), (1, .int 0), (2, .int p2), (3, .int 4)] := hl
  refine lv_aload_n hx hb dX12_toneAt_0 rfl (lv_at hl 0 rfl) ?_
  refine lv_iload_n hx hb dX12_toneAt_1 rfl (lv_at hl 1 rfl) ?_
  refine x_Vi F w (As := [.int 0]) (rest := []) (a := 146) (by decide) (sh_12 rfl _ _) rfl (c_X12_lays_224 (h0) (h1) (h2) (h3) (h4) (h5) (h6) (h7) (h8) (h9) (h10) (h11) (h12) (h13) (h14) (h15) (h16) (h17) (h18) (h19) (h20) (h21) (h22) (h23) (h24) (h25) (h26) (h27) (h28) (h29) (h30) (h31) (h32) (h33) (h34) (h35) (h36) (h37) (h38) (h39) (h40) (h41) (h42) (h43) (h44) (h45) (h46) (h47) (h48) (h49) (h50) (h51) (h52) (h53) (h54) (h55) (h56)) gv_X12_261 hv_X12_lays ⟨Nat.le_of_ble_eq_true rfl, Nat.le_of_ble_eq_true rfl⟩ hl.1 rfl (Nat.le_of_ble_eq_true rfl) ⟨Nat.zero_le _, Nat.zero_le _⟩ dX12_toneAt_2 (fun H locs w => ?_)
  refine lv_if_ne (tgt := 10) hx hb dX12_toneAt_5 (by decide) (fun _ => ?_) (fun c1 => absurd c1 (by decide))
  refine lv_aload_n hx hb dX12_toneAt_10 rfl (lv_at hl 0 rfl) ?_
  refine f_12_2 F w (a := 146) rfl tb_127 dX12_toneAt_11 ?_
  refine lv_iload_n hx hb dX12_toneAt_14 rfl (lv_at hl 2 rfl) ?_
  refine x_Si F w (As := [.ref (B + 148), .int p2]) (rest := []) (c_X12_isTone_272 (h2) h57 h58) gs_X12_105 hs_X12_isTone ⟨Nat.le_of_ble_eq_true rfl, Nat.le_of_ble_eq_true rfl⟩ hl.1 rfl (Nat.le_of_ble_eq_true rfl) ⟨Nat.zero_le _, Nat.zero_le _⟩ dX12_toneAt_15 (fun H locs w => ?_)
  refine lv_if_ne (tgt := 33) hx hb dX12_toneAt_18 (by decide) (fun c1 => absurd c1 (by decide)) (fun _ => ?_)
  refine lv_iload_n hx hb dX12_toneAt_21 rfl (lv_at hl 3 rfl) ?_
  refine lv_iconst (v := 4) hx hb dX12_toneAt_22 (by decide) ?_
  refine lv_icmp_ne (tgt := 31) hx hb dX12_toneAt_23 (by decide) (fun c1 => absurd c1 (by decide)) (fun _ => ?_)
  refine lv_bipush (v := (-100)) hx hb dX12_toneAt_26 (by decide) ?_
  refine lv_goto (tgt := 32) hx hb dX12_toneAt_28 (by decide) ?_
  exact e_i F w hr hlocks ⟨rfl, rfl⟩ dX12_toneAt_32
set_option maxRecDepth 8000 in
theorem la_16_57 {p : Program} {l : Launch} {e : Env} {s : State} {m : MethodId} {below : List Frame} {meth : Method} {c : Code} {D : va_G} {B b : Nat} {cy : Nat → ClassId} {H : Heap} {locs : List Loc} {ls : Array Slot} {xs : Nat → Int32} {Q : State → Prop} (F : CallFix p m c code 4 s #[Value.ref b] TB RL) (hX : va_X b 6 xs s s.heap) (hbl : b < s.heap.size) (hbA : ¬ B ≤ b) (w : Wd D B cy s s.heap M0 H locs) (hl : lv_has ls 4 [(3, .int 0), (2, .ref (B + 146)), (1, .ref (B + 0)), (0, .ref b)]) (x1 : xs 1 = 0) (x3 : xs 3 = 4) (h0 : ¬ (xs 2) < 0) (h1 : 0 ≤ (xs 2)) (h2 : (-1) < (xs 2)) (kk : ∀ (M1 : Mem) (H1 : Heap) (locs1 : List Loc), Wd D B cy s s.heap M1 H1 locs1 → W p l e room_1 s m #[Value.ref b] below meth c H1 locs1 159 13107 Q (F0 m 1065 ls [])) : W p l e room_1 s m #[Value.ref b] below meth c H locs 159 13107 Q (F0 m 676 ls []) := by
  have hx := F.1
  have hb := F.2.1
  refine lv_aload_n hx hb dL_law_676 rfl (lv_at hl 2 rfl) ?_
  refine lv_aload_n hx hb dL_law_677 rfl (lv_at hl 3 rfl) ?_
  refine lv_iload_n hx hb dL_law_678 rfl (lv_at hl 0 rfl) ?_
  refine lv_iconst (v := 1) hx hb dL_law_679 (by decide) ?_
  refine lv_iadd hx hb dL_law_680 ?_
  refine r_val (v := 1) (by decide) ?_
  refine va_sld hx hb hX hbl hbA w.2.2.1 (vpi (by decide) (by decide)) dL_law_681 ?_
  refine r_val (v := 0) ((congrArg xs (show (1 : Int32).toNatClampNeg = 1 by decide)).trans x1) ?_
  refine lv_aload_n hx hb dL_law_682 rfl (lv_at hl 3 rfl) ?_
  refine lv_iload_n hx hb dL_law_683 rfl (lv_at hl 0 rfl) ?_
  refine lv_iconst (v := 2) hx hb dL_law_684 (by decide) ?_
  refine lv_iadd hx hb dL_law_685 ?_
  refine r_val (v := 2) (by decide) ?_
  refine va_sld hx hb hX hbl hbA w.2.2.1 (vpi (by decide) (by decide)) dL_law_686 ?_
  refine r_val (v := xs 2) (congrArg xs (show (2 : Int32).toNatClampNeg = 2 by decide)) ?_
  refine lv_aload_n hx hb dL_law_687 rfl (lv_at hl 3 rfl) ?_
  refine lv_iload_n hx hb dL_law_688 rfl (lv_at hl 0 rfl) ?_
  refine lv_iconst (v := 3) hx hb dL_law_689 (by decide) ?_
  refine lv_iadd hx hb dL_law_690 ?_
  refine r_val (v := 3) (by decide) ?_
  refine va_sld hx hb hX hbl hbA w.2.2.1 (vpi (by decide) (by decide)) dL_law_691 ?_
  refine r_val (v := 4) ((congrArg xs (show (3 : Int32).toNatClampNeg = 3 by decide)).trans x3) ?_
  refine x_Vi F w (As := [.int 0, .int (xs 2), .int 4]) (rest := []) (a := 0) (by decide) (sh_11 rfl _ _) rfl (c_X11_toneAt_271 (rfl) (rfl) h0 (rfl) h1) gv_L_86 hv_X11_toneAt ⟨Nat.le_of_ble_eq_true rfl, Nat.le_of_ble_eq_true rfl⟩ hl.1 rfl (Nat.le_of_ble_eq_true rfl) ⟨Nat.le_of_ble_eq_true rfl, Nat.le_of_ble_eq_true rfl⟩ dL_law_692 (fun H locs w => ?_)
  refine lv_aload_n hx hb dL_law_695 rfl (lv_at hl 1 rfl) ?_
  refine lv_aload_n hx hb dL_law_696 rfl (lv_at hl 3 rfl) ?_
  refine lv_iload_n hx hb dL_law_697 rfl (lv_at hl 0 rfl) ?_
  refine lv_iconst (v := 1) hx hb dL_law_698 (by decide) ?_
  refine lv_iadd hx hb dL_law_699 ?_
  refine r_val (v := 1) (by decide) ?_
  refine va_sld hx hb hX hbl hbA w.2.2.1 (vpi (by decide) (by decide)) dL_law_700 ?_
  refine r_val (v := 0) ((congrArg xs (show (1 : Int32).toNatClampNeg = 1 by decide)).trans x1) ?_
  refine lv_aload_n hx hb dL_law_701 rfl (lv_at hl 3 rfl) ?_
  refine lv_iload_n hx hb dL_law_702 rfl (lv_at hl 0 rfl) ?_
  refine lv_iconst (v := 2) hx hb dL_law_703 (by decide) ?_
  refine lv_iadd hx hb dL_law_704 ?_
  refine r_val (v := 2) (by decide) ?_
  refine va_sld hx hb hX hbl hbA w.2.2.1 (vpi (by decide) (by decide)) dL_law_705 ?_
  refine r_val (v := xs 2) (congrArg xs (show (2 : Int32).toNatClampNeg = 2 by decide)) ?_
  refine lv_aload_n hx hb dL_law_706 rfl (lv_at hl 3 rfl) ?_
  refine lv_iload_n hx hb dL_law_707 rfl (lv_at hl 0 rfl) ?_
  refine lv_iconst (v := 3) hx hb dL_law_708 (by decide) ?_
  refine lv_iadd hx hb dL_law_709 ?_
  refine r_val (v := 3) (by decide) ?_
  refine va_sld hx hb hX hbl hbA w.2.2.1 (vpi (by decide) (by decide)) dL_law_710 ?_
  refine r_val (v := 4) ((congrArg xs (show (3 : Int32).toNatClampNeg = 3 by decide)).trans x3) ?_
  refine x_Vi F w (As := [.int 0, .int (xs 2), .int 4]) (rest := [.int (-100)]) (a := 146) (by decide) (sh_12 rfl _ _) rfl (c_X12_toneAt_273 (rfl) (rfl) (rfl) (rfl) (rfl) (rfl) (rfl) (rfl) (rfl) (rfl) (rfl) (rfl) (rfl) (rfl) (rfl) (rfl) (rfl) (rfl) (rfl) (rfl) (rfl) (rfl) (rfl) (rfl) (rfl) (rfl) (rfl) (rfl) (rfl) (rfl) (rfl) (rfl) (rfl) (rfl) (rfl) (rfl) (rfl) (rfl) (rfl) (rfl) (rfl) (rfl) (rfl) (rfl) (rfl) (rfl) (rfl) (rfl) (rfl) (rfl) (rfl) (rfl) (rfl) (rfl) (rfl) (rfl) (rfl) h0 h2) gv_L_90 hv_X12_toneAt ⟨Nat.le_of_ble_eq_true rfl, Nat.le_of_ble_eq_true rfl⟩ hl.1 rfl (Nat.le_of_ble_eq_true rfl) ⟨Nat.le_of_ble_eq_true rfl, Nat.le_of_ble_eq_true rfl⟩ dL_law_711 (fun H locs w => ?_)
  refine lv_icmp_eq (tgt := 1065) hx hb dL_law_714 (by decide) (fun _ => ?_) (fun c1 => absurd c1 (by decide))
  exact kk _ _ _ w
set_option maxRecDepth 4000 in
theorem c_X11_toneAt_274 {l : Launch} {D : va_G} {B : Nat} {cy : Nat → ClassId} {M : Mem} {p2 : Int32} {p3 : Int32} (h0 : M.1 22 2 = 0) (h1 : M.1 22 7 = 0) (h2 : ¬ p2 < 0) (h3 : M.1 44 0 = 0) (h4 : 0 ≤ p2) (h5 : ¬ p3 = 4) : Ci l D B cy yX11_toneAt cX11_toneAt 6 (some .int) 2 43 [.ref (B + 0), .int 0, .int p2, .int p3] M (fun r M1 => r = (-1) ∧ M1 = M) := by
  refine s_any (by decide) (Nat.le_of_ble_eq_true rfl) ?_
  intro p e s m below meth c ls F hr hlocks w hl
  have F : CallFix p m c cX11_toneAt 6 s _ TB RX11 := F
  have hx := F.1
  have hb := F.2.1
  have hl : lv_has ls 6 [(0, .ref (B + 0)), (1, .int 0), (2, .int p2), (3, .int p3)] := hl
  refine lv_aload_n hx hb dX11_toneAt_0 rfl (lv_at hl 0 rfl) ?_
  refine f_11_3 F w (a := 0) rfl tb_73 dX11_toneAt_1 ?_
  refine lv_iload_n hx hb dX11_toneAt_4 rfl (lv_at hl 1 rfl) ?_
  refine x_Vi F w (As := [.int 0]) (rest := []) (a := 22) (by decide) (sh_0 rfl _ _) rfl (c_X0_covers_206 (h0)) gv_X11_193 hv_X0_covers ⟨Nat.le_of_ble_eq_true rfl, Nat.le_of_ble_eq_true rfl⟩ hl.1 rfl (Nat.le_of_ble_eq_true rfl) ⟨Nat.zero_le _, Nat.zero_le _⟩ dX11_toneAt_5 (fun H locs w => ?_)
  refine lv_if_ne (tgt := 13) hx hb dX11_toneAt_8 (by decide) (fun _ => ?_) (fun c1 => absurd c1 (by decide))
  refine lv_aload_n hx hb dX11_toneAt_13 rfl (lv_at hl 0 rfl) ?_
  refine f_11_3 F w (a := 0) rfl tb_73 dX11_toneAt_14 ?_
  refine lv_iload_n hx hb dX11_toneAt_17 rfl (lv_at hl 1 rfl) ?_
  refine x_Vr F w (As := [.int 0]) (rest := []) (a := 22) (by decide) (sh_0 rfl _ _) rfl (c_X0_stageOf_207 (h0) (h1)) gv_X11_196 hv_X0_stageOf ⟨Nat.le_of_ble_eq_true rfl, Nat.le_of_ble_eq_true rfl⟩ hl.1 rfl (Nat.le_of_ble_eq_true rfl) ⟨Nat.zero_le _, Nat.zero_le _⟩ dX11_toneAt_18 (fun H locs w => ?_)
  refine lv_astore (lv' := [(4, .ref (B + 44)), (0, .ref (B + 0)), (1, .int 0), (2, .int p2), (3, .int p3)]) hx hb dX11_toneAt_21 hl (by decide) rfl (fun ls hl => ?_)
  refine lv_aload hx hb dX11_toneAt_23 (lv_at hl 0 rfl) ?_
  refine lv_iload_n hx hb dX11_toneAt_25 rfl (lv_at hl 3 rfl) ?_
  refine x_Vi F w (As := [.int p2]) (rest := []) (a := 44) (by decide) (sh_9 rfl _ _) rfl (c_X9_hasTone_98 h2 (h3) h4) gv_X11_141 hv_X9_hasTone ⟨Nat.le_of_ble_eq_true rfl, Nat.le_of_ble_eq_true rfl⟩ hl.1 rfl (Nat.le_of_ble_eq_true rfl) ⟨Nat.zero_le _, Nat.zero_le _⟩ dX11_toneAt_26 (fun H locs w => ?_)
  refine lv_if_ne (tgt := 44) hx hb dX11_toneAt_29 (by decide) (fun c1 => absurd c1 (by decide)) (fun _ => ?_)
  refine lv_iload_n hx hb dX11_toneAt_32 rfl (lv_at hl 4 rfl) ?_
  refine lv_iconst (v := 4) hx hb dX11_toneAt_33 (by decide) ?_
  refine lv_icmp_ne (tgt := 42) hx hb dX11_toneAt_34 (by decide) (fun _ => ?_) (fun c1 => absurd c1 h5)
  refine lv_iconst (v := (-1)) hx hb dX11_toneAt_42 (by decide) ?_
  exact e_i F w hr hlocks ⟨rfl, rfl⟩ dX11_toneAt_43
set_option maxRecDepth 4000 in
theorem c_X12_toneAt_275 {l : Launch} {D : va_G} {B : Nat} {cy : Nat → ClassId} {M : Mem} {p2 : Int32} {p3 : Int32} (h0 : M.1 146 5 = 0) (h1 : M.1 147 0 = 0) (h2 : M.1 148 0 = 0) (h3 : M.1 147 1 = 0) (h4 : M.1 148 1 = 0) (h5 : M.1 147 2 = 0) (h6 : M.1 148 2 = 0) (h7 : M.1 147 3 = 0) (h8 : M.1 148 3 = 0) (h9 : M.1 147 4 = 0) (h10 : M.1 148 4 = 0) (h11 : M.1 147 5 = 0) (h12 : M.1 148 5 = 0) (h13 : M.1 147 6 = 0) (h14 : M.1 148 6 = 0) (h15 : M.1 147 7 = 0) (h16 : M.1 148 7 = 0) (h17 : M.1 147 8 = 0) (h18 : M.1 148 8 = 0) (h19 : M.1 147 9 = 0) (h20 : M.1 148 9 = 0) (h21 : M.1 147 10 = 0) (h22 : M.1 148 10 = 0) (h23 : M.1 147 11 = 0) (h24 : M.1 148 11 = 0) (h25 : M.1 147 12 = 0) (h26 : M.1 148 12 = 0) (h27 : M.1 147 13 = 0) (h28 : M.1 148 13 = 0) (h29 : M.1 147 14 = 0) (h30 : M.1 148 14 = 0) (h31 : M.1 147 15 = 0) (h32 : M.1 148 15 = 0) (h33 : M.1 147 16 = 0) (h34 : M.1 148 16 = 0) (h35 : M.1 147 17 = 0) (h36 : M.1 148 17 = 0) (h37 : M.1 147 18 = 0) (h38 : M.1 148 18 = 0) (h39 : M.1 147 19 = 0) (h40 : M.1 148 19 = 0) (h41 : M.1 147 20 = 0) (h42 : M.1 148 20 = 0) (h43 : M.1 147 21 = 0) (h44 : M.1 148 21 = 0) (h45 : M.1 147 22 = 0) (h46 : M.1 148 22 = 0) (h47 : M.1 147 23 = 0) (h48 : M.1 148 23 = 0) (h49 : M.1 147 24 = 0) (h50 : M.1 148 24 = 0) (h51 : M.1 147 25 = 0) (h52 : M.1 148 25 = 0) (h53 : M.1 147 26 = 0) (h54 : M.1 148 26 = 0) (h55 : M.1 147 27 = 0) (h56 : M.1 148 27 = 0) (h57 : ¬ p2 < 0) (h58 : (-1) < p2) (h59 : ¬ p3 = 4) : Ci l D B cy yX12_toneAt cX12_toneAt 6 (some .int) 3 66 [.ref (B + 146), .int 0, .int p2, .int p3] M (fun r M1 => r = (-1) ∧ M1 = M) := by
  refine s_any (by decide) (Nat.le_of_ble_eq_true rfl) ?_
  intro p e s m below meth c ls F hr hlocks w hl
  have F : CallFix p m c cX12_toneAt 6 s _ TB RX12 := F
  have hx := F.1
  have hb := F.2.1
  have hl : lv_has ls 6 [(0, .ref (B + 146)), (1, .int 0), (2, .int p2), (3, .int p3)] := hl
  refine lv_aload_n hx hb dX12_toneAt_0 rfl (lv_at hl 0 rfl) ?_
  refine lv_iload_n hx hb dX12_toneAt_1 rfl (lv_at hl 1 rfl) ?_
  refine x_Vi F w (As := [.int 0]) (rest := []) (a := 146) (by decide) (sh_12 rfl _ _) rfl (c_X12_lays_224 (h0) (h1) (h2) (h3) (h4) (h5) (h6) (h7) (h8) (h9) (h10) (h11) (h12) (h13) (h14) (h15) (h16) (h17) (h18) (h19) (h20) (h21) (h22) (h23) (h24) (h25) (h26) (h27) (h28) (h29) (h30) (h31) (h32) (h33) (h34) (h35) (h36) (h37) (h38) (h39) (h40) (h41) (h42) (h43) (h44) (h45) (h46) (h47) (h48) (h49) (h50) (h51) (h52) (h53) (h54) (h55) (h56)) gv_X12_261 hv_X12_lays ⟨Nat.le_of_ble_eq_true rfl, Nat.le_of_ble_eq_true rfl⟩ hl.1 rfl (Nat.le_of_ble_eq_true rfl) ⟨Nat.zero_le _, Nat.zero_le _⟩ dX12_toneAt_2 (fun H locs w => ?_)
  refine lv_if_ne (tgt := 10) hx hb dX12_toneAt_5 (by decide) (fun _ => ?_) (fun c1 => absurd c1 (by decide))
  refine lv_aload_n hx hb dX12_toneAt_10 rfl (lv_at hl 0 rfl) ?_
  refine f_12_2 F w (a := 146) rfl tb_127 dX12_toneAt_11 ?_
  refine lv_iload_n hx hb dX12_toneAt_14 rfl (lv_at hl 2 rfl) ?_
  refine x_Si F w (As := [.ref (B + 148), .int p2]) (rest := []) (c_X12_isTone_272 (h2) h57 h58) gs_X12_105 hs_X12_isTone ⟨Nat.le_of_ble_eq_true rfl, Nat.le_of_ble_eq_true rfl⟩ hl.1 rfl (Nat.le_of_ble_eq_true rfl) ⟨Nat.zero_le _, Nat.zero_le _⟩ dX12_toneAt_15 (fun H locs w => ?_)
  refine lv_if_ne (tgt := 33) hx hb dX12_toneAt_18 (by decide) (fun c1 => absurd c1 (by decide)) (fun _ => ?_)
  refine lv_iload_n hx hb dX12_toneAt_21 rfl (lv_at hl 3 rfl) ?_
  refine lv_iconst (v := 4) hx hb dX12_toneAt_22 (by decide) ?_
  refine lv_icmp_ne (tgt := 31) hx hb dX12_toneAt_23 (by decide) (fun _ => ?_) (fun c1 => absurd c1 h59)
  refine lv_iconst (v := (-1)) hx hb dX12_toneAt_31 (by decide) ?_
  exact e_i F w hr hlocks ⟨rfl, rfl⟩ dX12_toneAt_32
set_option maxRecDepth 8000 in
theorem la_16_58 {p : Program} {l : Launch} {e : Env} {s : State} {m : MethodId} {below : List Frame} {meth : Method} {c : Code} {D : va_G} {B b : Nat} {cy : Nat → ClassId} {H : Heap} {locs : List Loc} {ls : Array Slot} {xs : Nat → Int32} {Q : State → Prop} (F : CallFix p m c code 4 s #[Value.ref b] TB RL) (hX : va_X b 6 xs s s.heap) (hbl : b < s.heap.size) (hbA : ¬ B ≤ b) (w : Wd D B cy s s.heap M0 H locs) (hl : lv_has ls 4 [(3, .int 0), (2, .ref (B + 146)), (1, .ref (B + 0)), (0, .ref b)]) (x1 : xs 1 = 0) (h0 : ¬ (xs 2) < 0) (h1 : 0 ≤ (xs 2)) (h2 : ¬ (xs 3) = 4) (h3 : (-1) < (xs 2)) (kk : ∀ (M1 : Mem) (H1 : Heap) (locs1 : List Loc), Wd D B cy s s.heap M1 H1 locs1 → W p l e room_1 s m #[Value.ref b] below meth c H1 locs1 159 13107 Q (F0 m 1065 ls [])) : W p l e room_1 s m #[Value.ref b] below meth c H locs 159 13107 Q (F0 m 676 ls []) := by
  have hx := F.1
  have hb := F.2.1
  refine lv_aload_n hx hb dL_law_676 rfl (lv_at hl 2 rfl) ?_
  refine lv_aload_n hx hb dL_law_677 rfl (lv_at hl 3 rfl) ?_
  refine lv_iload_n hx hb dL_law_678 rfl (lv_at hl 0 rfl) ?_
  refine lv_iconst (v := 1) hx hb dL_law_679 (by decide) ?_
  refine lv_iadd hx hb dL_law_680 ?_
  refine r_val (v := 1) (by decide) ?_
  refine va_sld hx hb hX hbl hbA w.2.2.1 (vpi (by decide) (by decide)) dL_law_681 ?_
  refine r_val (v := 0) ((congrArg xs (show (1 : Int32).toNatClampNeg = 1 by decide)).trans x1) ?_
  refine lv_aload_n hx hb dL_law_682 rfl (lv_at hl 3 rfl) ?_
  refine lv_iload_n hx hb dL_law_683 rfl (lv_at hl 0 rfl) ?_
  refine lv_iconst (v := 2) hx hb dL_law_684 (by decide) ?_
  refine lv_iadd hx hb dL_law_685 ?_
  refine r_val (v := 2) (by decide) ?_
  refine va_sld hx hb hX hbl hbA w.2.2.1 (vpi (by decide) (by decide)) dL_law_686 ?_
  refine r_val (v := xs 2) (congrArg xs (show (2 : Int32).toNatClampNeg = 2 by decide)) ?_
  refine lv_aload_n hx hb dL_law_687 rfl (lv_at hl 3 rfl) ?_
  refine lv_iload_n hx hb dL_law_688 rfl (lv_at hl 0 rfl) ?_
  refine lv_iconst (v := 3) hx hb dL_law_689 (by decide) ?_
  refine lv_iadd hx hb dL_law_690 ?_
  refine r_val (v := 3) (by decide) ?_
  refine va_sld hx hb hX hbl hbA w.2.2.1 (vpi (by decide) (by decide)) dL_law_691 ?_
  refine r_val (v := xs 3) (congrArg xs (show (3 : Int32).toNatClampNeg = 3 by decide)) ?_
  refine x_Vi F w (As := [.int 0, .int (xs 2), .int (xs 3)]) (rest := []) (a := 0) (by decide) (sh_11 rfl _ _) rfl (c_X11_toneAt_274 (rfl) (rfl) h0 (rfl) h1 h2) gv_L_86 hv_X11_toneAt ⟨Nat.le_of_ble_eq_true rfl, Nat.le_of_ble_eq_true rfl⟩ hl.1 rfl (Nat.le_of_ble_eq_true rfl) ⟨Nat.le_of_ble_eq_true rfl, Nat.le_of_ble_eq_true rfl⟩ dL_law_692 (fun H locs w => ?_)
  refine lv_aload_n hx hb dL_law_695 rfl (lv_at hl 1 rfl) ?_
  refine lv_aload_n hx hb dL_law_696 rfl (lv_at hl 3 rfl) ?_
  refine lv_iload_n hx hb dL_law_697 rfl (lv_at hl 0 rfl) ?_
  refine lv_iconst (v := 1) hx hb dL_law_698 (by decide) ?_
  refine lv_iadd hx hb dL_law_699 ?_
  refine r_val (v := 1) (by decide) ?_
  refine va_sld hx hb hX hbl hbA w.2.2.1 (vpi (by decide) (by decide)) dL_law_700 ?_
  refine r_val (v := 0) ((congrArg xs (show (1 : Int32).toNatClampNeg = 1 by decide)).trans x1) ?_
  refine lv_aload_n hx hb dL_law_701 rfl (lv_at hl 3 rfl) ?_
  refine lv_iload_n hx hb dL_law_702 rfl (lv_at hl 0 rfl) ?_
  refine lv_iconst (v := 2) hx hb dL_law_703 (by decide) ?_
  refine lv_iadd hx hb dL_law_704 ?_
  refine r_val (v := 2) (by decide) ?_
  refine va_sld hx hb hX hbl hbA w.2.2.1 (vpi (by decide) (by decide)) dL_law_705 ?_
  refine r_val (v := xs 2) (congrArg xs (show (2 : Int32).toNatClampNeg = 2 by decide)) ?_
  refine lv_aload_n hx hb dL_law_706 rfl (lv_at hl 3 rfl) ?_
  refine lv_iload_n hx hb dL_law_707 rfl (lv_at hl 0 rfl) ?_
  refine lv_iconst (v := 3) hx hb dL_law_708 (by decide) ?_
  refine lv_iadd hx hb dL_law_709 ?_
  refine r_val (v := 3) (by decide) ?_
  refine va_sld hx hb hX hbl hbA w.2.2.1 (vpi (by decide) (by decide)) dL_law_710 ?_
  refine r_val (v := xs 3) (congrArg xs (show (3 : Int32).toNatClampNeg = 3 by decide)) ?_
  refine x_Vi F w (As := [.int 0, .int (xs 2), .int (xs 3)]) (rest := [.int (-1)]) (a := 146) (by decide) (sh_12 rfl _ _) rfl (c_X12_toneAt_275 (rfl) (rfl) (rfl) (rfl) (rfl) (rfl) (rfl) (rfl) (rfl) (rfl) (rfl) (rfl) (rfl) (rfl) (rfl) (rfl) (rfl) (rfl) (rfl) (rfl) (rfl) (rfl) (rfl) (rfl) (rfl) (rfl) (rfl) (rfl) (rfl) (rfl) (rfl) (rfl) (rfl) (rfl) (rfl) (rfl) (rfl) (rfl) (rfl) (rfl) (rfl) (rfl) (rfl) (rfl) (rfl) (rfl) (rfl) (rfl) (rfl) (rfl) (rfl) (rfl) (rfl) (rfl) (rfl) (rfl) (rfl) h0 h3 h2) gv_L_90 hv_X12_toneAt ⟨Nat.le_of_ble_eq_true rfl, Nat.le_of_ble_eq_true rfl⟩ hl.1 rfl (Nat.le_of_ble_eq_true rfl) ⟨Nat.le_of_ble_eq_true rfl, Nat.le_of_ble_eq_true rfl⟩ dL_law_711 (fun H locs w => ?_)
  refine lv_icmp_eq (tgt := 1065) hx hb dL_law_714 (by decide) (fun _ => ?_) (fun c1 => absurd c1 (by decide))
  exact kk _ _ _ w
set_option maxRecDepth 4000 in
theorem c_X11_toneAt_276 {l : Launch} {D : va_G} {B : Nat} {cy : Nat → ClassId} {M : Mem} {p1 : Int32} {p2 : Int32} {p3 : Int32} (h0 : ¬ p1 < 0) (h1 : M.1 22 2 = 0) (h2 : 0 < p1) : Ci l D B cy yX11_toneAt cX11_toneAt 6 (some .int) 1 21 [.ref (B + 0), .int p1, .int p2, .int p3] M (fun r M1 => r = (-1) ∧ M1 = M) := by
  refine s_any (by decide) (Nat.le_of_ble_eq_true rfl) ?_
  intro p e s m below meth c ls F hr hlocks w hl
  have F : CallFix p m c cX11_toneAt 6 s _ TB RX11 := F
  have hx := F.1
  have hb := F.2.1
  have hl : lv_has ls 6 [(0, .ref (B + 0)), (1, .int p1), (2, .int p2), (3, .int p3)] := hl
  refine lv_aload_n hx hb dX11_toneAt_0 rfl (lv_at hl 0 rfl) ?_
  refine f_11_3 F w (a := 0) rfl tb_73 dX11_toneAt_1 ?_
  refine lv_iload_n hx hb dX11_toneAt_4 rfl (lv_at hl 1 rfl) ?_
  refine x_Vi F w (As := [.int p1]) (rest := []) (a := 22) (by decide) (sh_0 rfl _ _) rfl (c_X0_covers_215 h0 (h1) h2) gv_X11_193 hv_X0_covers ⟨Nat.le_of_ble_eq_true rfl, Nat.le_of_ble_eq_true rfl⟩ hl.1 rfl (Nat.le_of_ble_eq_true rfl) ⟨Nat.zero_le _, Nat.zero_le _⟩ dX11_toneAt_5 (fun H locs w => ?_)
  refine lv_if_ne (tgt := 13) hx hb dX11_toneAt_8 (by decide) (fun c1 => absurd c1 (by decide)) (fun _ => ?_)
  refine lv_iconst (v := (-1)) hx hb dX11_toneAt_11 (by decide) ?_
  exact e_i F w hr hlocks ⟨rfl, rfl⟩ dX11_toneAt_12
set_option maxRecDepth 4000 in
theorem c_X12_toneAt_277 {l : Launch} {D : va_G} {B : Nat} {cy : Nat → ClassId} {M : Mem} {p1 : Int32} {p2 : Int32} {p3 : Int32} (h0 : M.1 146 5 = 0) (h1 : ¬ p1 < 0) (h2 : 0 < p1) : Ci l D B cy yX12_toneAt cX12_toneAt 6 (some .int) 2 43 [.ref (B + 146), .int p1, .int p2, .int p3] M (fun r M1 => r = (-1) ∧ M1 = M) := by
  refine s_any (by decide) (Nat.le_of_ble_eq_true rfl) ?_
  intro p e s m below meth c ls F hr hlocks w hl
  have F : CallFix p m c cX12_toneAt 6 s _ TB RX12 := F
  have hx := F.1
  have hb := F.2.1
  have hl : lv_has ls 6 [(0, .ref (B + 146)), (1, .int p1), (2, .int p2), (3, .int p3)] := hl
  refine lv_aload_n hx hb dX12_toneAt_0 rfl (lv_at hl 0 rfl) ?_
  refine lv_iload_n hx hb dX12_toneAt_1 rfl (lv_at hl 1 rfl) ?_
  refine x_Vi F w (As := [.int p1]) (rest := []) (a := 146) (by decide) (sh_12 rfl _ _) rfl (c_X12_lays_262 (h0) h1 h2) gv_X12_261 hv_X12_lays ⟨Nat.le_of_ble_eq_true rfl, Nat.le_of_ble_eq_true rfl⟩ hl.1 rfl (Nat.le_of_ble_eq_true rfl) ⟨Nat.zero_le _, Nat.zero_le _⟩ dX12_toneAt_2 (fun H locs w => ?_)
  refine lv_if_ne (tgt := 10) hx hb dX12_toneAt_5 (by decide) (fun c1 => absurd c1 (by decide)) (fun _ => ?_)
  refine lv_iconst (v := (-1)) hx hb dX12_toneAt_8 (by decide) ?_
  exact e_i F w hr hlocks ⟨rfl, rfl⟩ dX12_toneAt_9
set_option maxRecDepth 8000 in
theorem la_16_59 {p : Program} {l : Launch} {e : Env} {s : State} {m : MethodId} {below : List Frame} {meth : Method} {c : Code} {D : va_G} {B b : Nat} {cy : Nat → ClassId} {H : Heap} {locs : List Loc} {ls : Array Slot} {xs : Nat → Int32} {Q : State → Prop} (F : CallFix p m c code 4 s #[Value.ref b] TB RL) (hX : va_X b 6 xs s s.heap) (hbl : b < s.heap.size) (hbA : ¬ B ≤ b) (w : Wd D B cy s s.heap M0 H locs) (hl : lv_has ls 4 [(3, .int 0), (2, .ref (B + 146)), (1, .ref (B + 0)), (0, .ref b)]) (h0 : ¬ (xs 1) < 0) (h1 : 0 < (xs 1)) (kk : ∀ (M1 : Mem) (H1 : Heap) (locs1 : List Loc), Wd D B cy s s.heap M1 H1 locs1 → W p l e room_1 s m #[Value.ref b] below meth c H1 locs1 159 13107 Q (F0 m 1065 ls [])) : W p l e room_1 s m #[Value.ref b] below meth c H locs 159 13107 Q (F0 m 676 ls []) := by
  have hx := F.1
  have hb := F.2.1
  refine lv_aload_n hx hb dL_law_676 rfl (lv_at hl 2 rfl) ?_
  refine lv_aload_n hx hb dL_law_677 rfl (lv_at hl 3 rfl) ?_
  refine lv_iload_n hx hb dL_law_678 rfl (lv_at hl 0 rfl) ?_
  refine lv_iconst (v := 1) hx hb dL_law_679 (by decide) ?_
  refine lv_iadd hx hb dL_law_680 ?_
  refine r_val (v := 1) (by decide) ?_
  refine va_sld hx hb hX hbl hbA w.2.2.1 (vpi (by decide) (by decide)) dL_law_681 ?_
  refine r_val (v := xs 1) (congrArg xs (show (1 : Int32).toNatClampNeg = 1 by decide)) ?_
  refine lv_aload_n hx hb dL_law_682 rfl (lv_at hl 3 rfl) ?_
  refine lv_iload_n hx hb dL_law_683 rfl (lv_at hl 0 rfl) ?_
  refine lv_iconst (v := 2) hx hb dL_law_684 (by decide) ?_
  refine lv_iadd hx hb dL_law_685 ?_
  refine r_val (v := 2) (by decide) ?_
  refine va_sld hx hb hX hbl hbA w.2.2.1 (vpi (by decide) (by decide)) dL_law_686 ?_
  refine r_val (v := xs 2) (congrArg xs (show (2 : Int32).toNatClampNeg = 2 by decide)) ?_
  refine lv_aload_n hx hb dL_law_687 rfl (lv_at hl 3 rfl) ?_
  refine lv_iload_n hx hb dL_law_688 rfl (lv_at hl 0 rfl) ?_
  refine lv_iconst (v := 3) hx hb dL_law_689 (by decide) ?_
  refine lv_iadd hx hb dL_law_690 ?_
  refine r_val (v := 3) (by decide) ?_
  refine va_sld hx hb hX hbl hbA w.2.2.1 (vpi (by decide) (by decide)) dL_law_691 ?_
  refine r_val (v := xs 3) (congrArg xs (show (3 : Int32).toNatClampNeg = 3 by decide)) ?_
  refine x_Vi F w (As := [.int (xs 1), .int (xs 2), .int (xs 3)]) (rest := []) (a := 0) (by decide) (sh_11 rfl _ _) rfl (c_X11_toneAt_276 h0 (rfl) h1) gv_L_86 hv_X11_toneAt ⟨Nat.le_of_ble_eq_true rfl, Nat.le_of_ble_eq_true rfl⟩ hl.1 rfl (Nat.le_of_ble_eq_true rfl) ⟨Nat.le_of_ble_eq_true rfl, Nat.le_of_ble_eq_true rfl⟩ dL_law_692 (fun H locs w => ?_)
  refine lv_aload_n hx hb dL_law_695 rfl (lv_at hl 1 rfl) ?_
  refine lv_aload_n hx hb dL_law_696 rfl (lv_at hl 3 rfl) ?_
  refine lv_iload_n hx hb dL_law_697 rfl (lv_at hl 0 rfl) ?_
  refine lv_iconst (v := 1) hx hb dL_law_698 (by decide) ?_
  refine lv_iadd hx hb dL_law_699 ?_
  refine r_val (v := 1) (by decide) ?_
  refine va_sld hx hb hX hbl hbA w.2.2.1 (vpi (by decide) (by decide)) dL_law_700 ?_
  refine r_val (v := xs 1) (congrArg xs (show (1 : Int32).toNatClampNeg = 1 by decide)) ?_
  refine lv_aload_n hx hb dL_law_701 rfl (lv_at hl 3 rfl) ?_
  refine lv_iload_n hx hb dL_law_702 rfl (lv_at hl 0 rfl) ?_
  refine lv_iconst (v := 2) hx hb dL_law_703 (by decide) ?_
  refine lv_iadd hx hb dL_law_704 ?_
  refine r_val (v := 2) (by decide) ?_
  refine va_sld hx hb hX hbl hbA w.2.2.1 (vpi (by decide) (by decide)) dL_law_705 ?_
  refine r_val (v := xs 2) (congrArg xs (show (2 : Int32).toNatClampNeg = 2 by decide)) ?_
  refine lv_aload_n hx hb dL_law_706 rfl (lv_at hl 3 rfl) ?_
  refine lv_iload_n hx hb dL_law_707 rfl (lv_at hl 0 rfl) ?_
  refine lv_iconst (v := 3) hx hb dL_law_708 (by decide) ?_
  refine lv_iadd hx hb dL_law_709 ?_
  refine r_val (v := 3) (by decide) ?_
  refine va_sld hx hb hX hbl hbA w.2.2.1 (vpi (by decide) (by decide)) dL_law_710 ?_
  refine r_val (v := xs 3) (congrArg xs (show (3 : Int32).toNatClampNeg = 3 by decide)) ?_
  refine x_Vi F w (As := [.int (xs 1), .int (xs 2), .int (xs 3)]) (rest := [.int (-1)]) (a := 146) (by decide) (sh_12 rfl _ _) rfl (c_X12_toneAt_277 (rfl) h0 h1) gv_L_90 hv_X12_toneAt ⟨Nat.le_of_ble_eq_true rfl, Nat.le_of_ble_eq_true rfl⟩ hl.1 rfl (Nat.le_of_ble_eq_true rfl) ⟨Nat.le_of_ble_eq_true rfl, Nat.le_of_ble_eq_true rfl⟩ dL_law_711 (fun H locs w => ?_)
  refine lv_icmp_eq (tgt := 1065) hx hb dL_law_714 (by decide) (fun _ => ?_) (fun c1 => absurd c1 (by decide))
  exact kk _ _ _ w
set_option maxRecDepth 8000 in
theorem lc_16 {p : Program} {l : Launch} {e : Env} {s : State} {m : MethodId} {below : List Frame} {meth : Method} {c : Code} {D : va_G} {B b : Nat} {cy : Nat → ClassId} {H : Heap} {locs : List Loc} {ls : Array Slot} {xs : Nat → Int32} {Q : State → Prop} (F : CallFix p m c code 4 s #[Value.ref b] TB RL) (hX : va_X b 6 xs s s.heap) (hbl : b < s.heap.size) (hbA : ¬ B ≤ b) (w : Wd D B cy s s.heap M0 H locs) (hl : lv_has ls 4 [(3, .int 0), (2, .ref (B + 146)), (1, .ref (B + 0)), (0, .ref b)]) (kk : ∀ (M1 : Mem) (H1 : Heap) (locs1 : List Loc), Wd D B cy s s.heap M1 H1 locs1 → W p l e room_1 s m #[Value.ref b] below meth c H1 locs1 159 13107 Q (F0 m 1065 ls [])) : W p l e room_1 s m #[Value.ref b] below meth c H locs 159 13107 Q (F0 m 676 ls []) := by
  rcases (show (xs 1).toInt < 0 ∨ (xs 1).toInt = 0 ∨ 0 < (xs 1).toInt by omega) with h1 | h1 | h1
  · skip
    exact la_16_54 F hX hbl hbA w hl (by rw [Int32.lt_iff_toInt_lt, show (0 : Int32).toInt = 0 from by decide]; omega) kk
  · have x1 : xs 1 = 0 := Int32.toInt_inj.mp (h1.trans (by decide))
    rcases (show (xs 2).toInt < 0 ∨ 0 ≤ (xs 2).toInt by omega) with h2 | h2
    · skip
      rcases (show (xs 3).toInt = 4 ∨ (xs 3).toInt ≠ 4 by omega) with h3 | h3
      · have x3 : xs 3 = 4 := Int32.toInt_inj.mp (h3.trans (by decide))
        exact la_16_55 F hX hbl hbA w hl x1 x3 (by rw [Int32.lt_iff_toInt_lt, show (0 : Int32).toInt = 0 from by decide]; omega) kk
      · skip
        exact la_16_56 F hX hbl hbA w hl x1 (by rw [Int32.lt_iff_toInt_lt, show (0 : Int32).toInt = 0 from by decide]; omega) (fun h => absurd h3 (by rw [h]; decide)) kk
    · skip
      rcases (show (xs 3).toInt = 4 ∨ (xs 3).toInt ≠ 4 by omega) with h3 | h3
      · have x3 : xs 3 = 4 := Int32.toInt_inj.mp (h3.trans (by decide))
        exact la_16_57 F hX hbl hbA w hl x1 x3 (by rw [Int32.lt_iff_toInt_lt, show (0 : Int32).toInt = 0 from by decide]; omega) (by rw [Int32.le_iff_toInt_le, show (0 : Int32).toInt = 0 from by decide]; omega) (by rw [Int32.lt_iff_toInt_lt, show (-1 : Int32).toInt = -1 from by decide]; omega) kk
      · skip
        exact la_16_58 F hX hbl hbA w hl x1 (by rw [Int32.lt_iff_toInt_lt, show (0 : Int32).toInt = 0 from by decide]; omega) (by rw [Int32.le_iff_toInt_le, show (0 : Int32).toInt = 0 from by decide]; omega) (fun h => absurd h3 (by rw [h]; decide)) (by rw [Int32.lt_iff_toInt_lt, show (-1 : Int32).toInt = -1 from by decide]; omega) kk
  · skip
    exact la_16_59 F hX hbl hbA w hl (by rw [Int32.lt_iff_toInt_lt, show (0 : Int32).toInt = 0 from by decide]; omega) (by rw [Int32.lt_iff_toInt_lt, show (0 : Int32).toInt = 0 from by decide]; omega) kk
theorem dL_law_719 : decode cL_law 719 = .ok (.aload_n 1, 1) := by decide +kernel
theorem dL_law_720 : decode cL_law 720 = .ok (.aload_n 0, 1) := by decide +kernel
theorem dL_law_721 : decode cL_law 721 = .ok (.iload_n 3, 1) := by decide +kernel
theorem dL_law_722 : decode cL_law 722 = .ok (.iconst 1, 1) := by decide +kernel
theorem dL_law_723 : decode cL_law 723 = .ok (.iadd, 1) := by decide +kernel
theorem dL_law_724 : decode cL_law 724 = .ok (.iaload, 1) := by decide +kernel
theorem dL_law_725 : decode cL_law 725 = .ok (.aload_n 0, 1) := by decide +kernel
theorem dL_law_726 : decode cL_law 726 = .ok (.iload_n 3, 1) := by decide +kernel
theorem dL_law_727 : decode cL_law 727 = .ok (.iconst 2, 1) := by decide +kernel
theorem dL_law_728 : decode cL_law 728 = .ok (.iadd, 1) := by decide +kernel
theorem dL_law_729 : decode cL_law 729 = .ok (.iaload, 1) := by decide +kernel
theorem dL_law_730 : decode cL_law 730 = .ok (.aload_n 0, 1) := by decide +kernel
theorem dL_law_731 : decode cL_law 731 = .ok (.iload_n 3, 1) := by decide +kernel
theorem dL_law_732 : decode cL_law 732 = .ok (.iconst 3, 1) := by decide +kernel
theorem dL_law_733 : decode cL_law 733 = .ok (.iadd, 1) := by decide +kernel
theorem dL_law_734 : decode cL_law 734 = .ok (.iaload, 1) := by decide +kernel
theorem dL_law_735 : decode cL_law 735 = .ok (.invokevirtual 91, 3) := by decide +kernel
theorem dX11_syllableAt_0 : decode cX11_syllableAt 0 = .ok (.aload_n 0, 1) := by decide +kernel
theorem dX11_syllableAt_1 : decode cX11_syllableAt 1 = .ok (.getfield 35, 3) := by decide +kernel
theorem dX11_syllableAt_4 : decode cX11_syllableAt 4 = .ok (.iload_n 1, 1) := by decide +kernel
theorem dX11_syllableAt_5 : decode cX11_syllableAt 5 = .ok (.invokevirtual 193, 3) := by decide +kernel
theorem dX11_syllableAt_8 : decode cX11_syllableAt 8 = .ok (.ifCond .ne 5, 3) := by decide +kernel
theorem dX11_syllableAt_11 : decode cX11_syllableAt 11 = .ok (.iconst (-1), 1) := by decide +kernel
theorem dX11_syllableAt_12 : decode cX11_syllableAt 12 = .ok (.ireturn, 1) := by decide +kernel
set_option maxRecDepth 4000 in
theorem c_X11_syllableAt_278 {l : Launch} {D : va_G} {B : Nat} {cy : Nat → ClassId} {M : Mem} {p1 : Int32} {p2 : Int32} {p3 : Int32} (h0 : p1 < 0) : Ci l D B cy yX11_syllableAt cX11_syllableAt 6 (some .int) 1 21 [.ref (B + 0), .int p1, .int p2, .int p3] M (fun r M1 => r = (-1) ∧ M1 = M) := by
  refine s_any (by decide) (Nat.le_of_ble_eq_true rfl) ?_
  intro p e s m below meth c ls F hr hlocks w hl
  have F : CallFix p m c cX11_syllableAt 6 s _ TB RX11 := F
  have hx := F.1
  have hb := F.2.1
  have hl : lv_has ls 6 [(0, .ref (B + 0)), (1, .int p1), (2, .int p2), (3, .int p3)] := hl
  refine lv_aload_n hx hb dX11_syllableAt_0 rfl (lv_at hl 0 rfl) ?_
  refine f_11_3 F w (a := 0) rfl tb_73 dX11_syllableAt_1 ?_
  refine lv_iload_n hx hb dX11_syllableAt_4 rfl (lv_at hl 1 rfl) ?_
  refine x_Vi F w (As := [.int p1]) (rest := []) (a := 22) (by decide) (sh_0 rfl _ _) rfl (c_X0_covers_203 h0) gv_X11_193 hv_X0_covers ⟨Nat.le_of_ble_eq_true rfl, Nat.le_of_ble_eq_true rfl⟩ hl.1 rfl (Nat.le_of_ble_eq_true rfl) ⟨Nat.zero_le _, Nat.zero_le _⟩ dX11_syllableAt_5 (fun H locs w => ?_)
  refine lv_if_ne (tgt := 13) hx hb dX11_syllableAt_8 (by decide) (fun c1 => absurd c1 (by decide)) (fun _ => ?_)
  refine lv_iconst (v := (-1)) hx hb dX11_syllableAt_11 (by decide) ?_
  exact e_i F w hr hlocks ⟨rfl, rfl⟩ dX11_syllableAt_12
theorem tk_X11_syllableAt : Cond.code yX11_syllableAt cX11_syllableAt 6 (some .int) ∈ TB := tbm (tc4 (List.mem_of_getElem? (i := 163) rfl)) rfl
theorem gc_X11_syllableAt : GoodIn TB (cw yX11_syllableAt cX11_syllableAt 6 (some .int)) := goodIn_c2 tk_X11_syllableAt
theorem tb_440 : Cond.methodLink "ToneLinesLaw" 91 yX11_syllableAt ∈ TB := tbm (tc4 (List.mem_of_getElem? (i := 160) rfl)) rfl
theorem tb_441 : Cond.instanceMethod yX11_syllableAt ∈ TB := tbm (tc4 (List.mem_of_getElem? (i := 161) rfl)) rfl
theorem tb_442 : Cond.selects "ToneLines" yX11_syllableAt yX11_syllableAt ∈ TB := tbm (tc4 (List.mem_of_getElem? (i := 162) rfl)) rfl
theorem gv_L_91 : GoodIn TB (wsV RL 91 RX11 yX11_syllableAt (cw yX11_syllableAt cX11_syllableAt 6 (some .int))) := goodIn_4 tb_440 tb_441 tb_442 tb_145 gc_X11_syllableAt
theorem hv_X11_syllableAt : yX11_syllableAt.cls = RX11 ∧ yX11_syllableAt.cls ≠ "java/lang/invoke/MethodHandle" ∧ yX11_syllableAt.cls ≠ "java/lang/invoke/VarHandle" ∧ (parseMethodDescriptor yX11_syllableAt.desc).map (fun d => d.parameters.length) = some 3 := by decide +kernel
theorem dL_law_738 : decode cL_law 738 = .ok (.aload_n 2, 1) := by decide +kernel
theorem dL_law_739 : decode cL_law 739 = .ok (.aload_n 0, 1) := by decide +kernel
theorem dL_law_740 : decode cL_law 740 = .ok (.iload_n 3, 1) := by decide +kernel
theorem dL_law_741 : decode cL_law 741 = .ok (.iconst 1, 1) := by decide +kernel
theorem dL_law_742 : decode cL_law 742 = .ok (.iadd, 1) := by decide +kernel
theorem dL_law_743 : decode cL_law 743 = .ok (.iaload, 1) := by decide +kernel
theorem dL_law_744 : decode cL_law 744 = .ok (.aload_n 0, 1) := by decide +kernel
theorem dL_law_745 : decode cL_law 745 = .ok (.iload_n 3, 1) := by decide +kernel
theorem dL_law_746 : decode cL_law 746 = .ok (.iconst 2, 1) := by decide +kernel
theorem dL_law_747 : decode cL_law 747 = .ok (.iadd, 1) := by decide +kernel
theorem dL_law_748 : decode cL_law 748 = .ok (.iaload, 1) := by decide +kernel
theorem dL_law_749 : decode cL_law 749 = .ok (.aload_n 0, 1) := by decide +kernel
theorem dL_law_750 : decode cL_law 750 = .ok (.iload_n 3, 1) := by decide +kernel
theorem dL_law_751 : decode cL_law 751 = .ok (.iconst 3, 1) := by decide +kernel
theorem dL_law_752 : decode cL_law 752 = .ok (.iadd, 1) := by decide +kernel
theorem dL_law_753 : decode cL_law 753 = .ok (.iaload, 1) := by decide +kernel
theorem dL_law_754 : decode cL_law 754 = .ok (.invokevirtual 94, 3) := by decide +kernel
theorem dX12_syllableAt_0 : decode cX12_syllableAt 0 = .ok (.aload_n 0, 1) := by decide +kernel
theorem dX12_syllableAt_1 : decode cX12_syllableAt 1 = .ok (.iload_n 1, 1) := by decide +kernel
theorem dX12_syllableAt_2 : decode cX12_syllableAt 2 = .ok (.invokevirtual 261, 3) := by decide +kernel
theorem dX12_syllableAt_5 : decode cX12_syllableAt 5 = .ok (.ifCond .eq 14, 3) := by decide +kernel
theorem dX12_syllableAt_19 : decode cX12_syllableAt 19 = .ok (.iconst (-1), 1) := by decide +kernel
theorem dX12_syllableAt_20 : decode cX12_syllableAt 20 = .ok (.ireturn, 1) := by decide +kernel
set_option maxRecDepth 4000 in
theorem c_X12_syllableAt_279 {l : Launch} {D : va_G} {B : Nat} {cy : Nat → ClassId} {M : Mem} {p1 : Int32} {p2 : Int32} {p3 : Int32} (h0 : M.1 146 5 = 0) (h1 : p1 < 0) : Ci l D B cy yX12_syllableAt cX12_syllableAt 5 (some .int) 2 43 [.ref (B + 146), .int p1, .int p2, .int p3] M (fun r M1 => r = (-1) ∧ M1 = M) := by
  refine s_any (by decide) (Nat.le_of_ble_eq_true rfl) ?_
  intro p e s m below meth c ls F hr hlocks w hl
  have F : CallFix p m c cX12_syllableAt 5 s _ TB RX12 := F
  have hx := F.1
  have hb := F.2.1
  have hl : lv_has ls 5 [(0, .ref (B + 146)), (1, .int p1), (2, .int p2), (3, .int p3)] := hl
  refine lv_aload_n hx hb dX12_syllableAt_0 rfl (lv_at hl 0 rfl) ?_
  refine lv_iload_n hx hb dX12_syllableAt_1 rfl (lv_at hl 1 rfl) ?_
  refine x_Vi F w (As := [.int p1]) (rest := []) (a := 146) (by decide) (sh_12 rfl _ _) rfl (c_X12_lays_221 (h0) h1) gv_X12_261 hv_X12_lays ⟨Nat.le_of_ble_eq_true rfl, Nat.le_of_ble_eq_true rfl⟩ hl.1 rfl (Nat.le_of_ble_eq_true rfl) ⟨Nat.zero_le _, Nat.zero_le _⟩ dX12_syllableAt_2 (fun H locs w => ?_)
  refine lv_if_eq (tgt := 19) hx hb dX12_syllableAt_5 (by decide) (fun _ => ?_) (fun c1 => absurd c1 (by decide))
  refine lv_iconst (v := (-1)) hx hb dX12_syllableAt_19 (by decide) ?_
  exact e_i F w hr hlocks ⟨rfl, rfl⟩ dX12_syllableAt_20
theorem tk_X12_syllableAt : Cond.code yX12_syllableAt cX12_syllableAt 5 (some .int) ∈ TB := tbm (tc6 (List.mem_of_getElem? (i := 196) rfl)) rfl
theorem gc_X12_syllableAt : GoodIn TB (cw yX12_syllableAt cX12_syllableAt 5 (some .int)) := goodIn_c2 tk_X12_syllableAt
theorem tb_443 : Cond.methodLink "ToneLinesLaw" 94 yX12_syllableAt ∈ TB := tbm (tc6 (List.mem_of_getElem? (i := 193) rfl)) rfl
theorem tb_444 : Cond.instanceMethod yX12_syllableAt ∈ TB := tbm (tc6 (List.mem_of_getElem? (i := 194) rfl)) rfl
theorem tb_445 : Cond.selects "ToneLinesModel" yX12_syllableAt yX12_syllableAt ∈ TB := tbm (tc6 (List.mem_of_getElem? (i := 195) rfl)) rfl
theorem gv_L_94 : GoodIn TB (wsV RL 94 RX12 yX12_syllableAt (cw yX12_syllableAt cX12_syllableAt 5 (some .int))) := goodIn_4 tb_443 tb_444 tb_445 tb_150 gc_X12_syllableAt
theorem hv_X12_syllableAt : yX12_syllableAt.cls = RX12 ∧ yX12_syllableAt.cls ≠ "java/lang/invoke/MethodHandle" ∧ yX12_syllableAt.cls ≠ "java/lang/invoke/VarHandle" ∧ (parseMethodDescriptor yX12_syllableAt.desc).map (fun d => d.parameters.length) = some 3 := by decide +kernel
theorem dL_law_757 : decode cL_law 757 = .ok (.if_icmp .eq 308, 3) := by decide +kernel
set_option maxRecDepth 8000 in
theorem la_17_60 {p : Program} {l : Launch} {e : Env} {s : State} {m : MethodId} {below : List Frame} {meth : Method} {c : Code} {D : va_G} {B b : Nat} {cy : Nat → ClassId} {H : Heap} {locs : List Loc} {ls : Array Slot} {xs : Nat → Int32} {Q : State → Prop} (F : CallFix p m c code 4 s #[Value.ref b] TB RL) (hX : va_X b 6 xs s s.heap) (hbl : b < s.heap.size) (hbA : ¬ B ≤ b) (w : Wd D B cy s s.heap M0 H locs) (hl : lv_has ls 4 [(3, .int 0), (2, .ref (B + 146)), (1, .ref (B + 0)), (0, .ref b)]) (h0 : (xs 1) < 0) (kk : ∀ (M1 : Mem) (H1 : Heap) (locs1 : List Loc), Wd D B cy s s.heap M1 H1 locs1 → W p l e room_1 s m #[Value.ref b] below meth c H1 locs1 159 13107 Q (F0 m 1065 ls [])) : W p l e room_1 s m #[Value.ref b] below meth c H locs 159 13107 Q (F0 m 719 ls []) := by
  have hx := F.1
  have hb := F.2.1
  refine lv_aload_n hx hb dL_law_719 rfl (lv_at hl 2 rfl) ?_
  refine lv_aload_n hx hb dL_law_720 rfl (lv_at hl 3 rfl) ?_
  refine lv_iload_n hx hb dL_law_721 rfl (lv_at hl 0 rfl) ?_
  refine lv_iconst (v := 1) hx hb dL_law_722 (by decide) ?_
  refine lv_iadd hx hb dL_law_723 ?_
  refine r_val (v := 1) (by decide) ?_
  refine va_sld hx hb hX hbl hbA w.2.2.1 (vpi (by decide) (by decide)) dL_law_724 ?_
  refine r_val (v := xs 1) (congrArg xs (show (1 : Int32).toNatClampNeg = 1 by decide)) ?_
  refine lv_aload_n hx hb dL_law_725 rfl (lv_at hl 3 rfl) ?_
  refine lv_iload_n hx hb dL_law_726 rfl (lv_at hl 0 rfl) ?_
  refine lv_iconst (v := 2) hx hb dL_law_727 (by decide) ?_
  refine lv_iadd hx hb dL_law_728 ?_
  refine r_val (v := 2) (by decide) ?_
  refine va_sld hx hb hX hbl hbA w.2.2.1 (vpi (by decide) (by decide)) dL_law_729 ?_
  refine r_val (v := xs 2) (congrArg xs (show (2 : Int32).toNatClampNeg = 2 by decide)) ?_
  refine lv_aload_n hx hb dL_law_730 rfl (lv_at hl 3 rfl) ?_
  refine lv_iload_n hx hb dL_law_731 rfl (lv_at hl 0 rfl) ?_
  refine lv_iconst (v := 3) hx hb dL_law_732 (by decide) ?_
  refine lv_iadd hx hb dL_law_733 ?_
  refine r_val (v := 3) (by decide) ?_
  refine va_sld hx hb hX hbl hbA w.2.2.1 (vpi (by decide) (by decide)) dL_law_734 ?_
  refine r_val (v := xs 3) (congrArg xs (show (3 : Int32).toNatClampNeg = 3 by decide)) ?_
  refine x_Vi F w (As := [.int (xs 1), .int (xs 2), .int (xs 3)]) (rest := []) (a := 0) (by decide) (sh_11 rfl _ _) rfl (c_X11_syllableAt_278 h0) gv_L_91 hv_X11_syllableAt ⟨Nat.le_of_ble_eq_true rfl, Nat.le_of_ble_eq_true rfl⟩ hl.1 rfl (Nat.le_of_ble_eq_true rfl) ⟨Nat.le_of_ble_eq_true rfl, Nat.le_of_ble_eq_true rfl⟩ dL_law_735 (fun H locs w => ?_)
  refine lv_aload_n hx hb dL_law_738 rfl (lv_at hl 1 rfl) ?_
  refine lv_aload_n hx hb dL_law_739 rfl (lv_at hl 3 rfl) ?_
  refine lv_iload_n hx hb dL_law_740 rfl (lv_at hl 0 rfl) ?_
  refine lv_iconst (v := 1) hx hb dL_law_741 (by decide) ?_
  refine lv_iadd hx hb dL_law_742 ?_
  refine r_val (v := 1) (by decide) ?_
  refine va_sld hx hb hX hbl hbA w.2.2.1 (vpi (by decide) (by decide)) dL_law_743 ?_
  refine r_val (v := xs 1) (congrArg xs (show (1 : Int32).toNatClampNeg = 1 by decide)) ?_
  refine lv_aload_n hx hb dL_law_744 rfl (lv_at hl 3 rfl) ?_
  refine lv_iload_n hx hb dL_law_745 rfl (lv_at hl 0 rfl) ?_
  refine lv_iconst (v := 2) hx hb dL_law_746 (by decide) ?_
  refine lv_iadd hx hb dL_law_747 ?_
  refine r_val (v := 2) (by decide) ?_
  refine va_sld hx hb hX hbl hbA w.2.2.1 (vpi (by decide) (by decide)) dL_law_748 ?_
  refine r_val (v := xs 2) (congrArg xs (show (2 : Int32).toNatClampNeg = 2 by decide)) ?_
  refine lv_aload_n hx hb dL_law_749 rfl (lv_at hl 3 rfl) ?_
  refine lv_iload_n hx hb dL_law_750 rfl (lv_at hl 0 rfl) ?_
  refine lv_iconst (v := 3) hx hb dL_law_751 (by decide) ?_
  refine lv_iadd hx hb dL_law_752 ?_
  refine r_val (v := 3) (by decide) ?_
  refine va_sld hx hb hX hbl hbA w.2.2.1 (vpi (by decide) (by decide)) dL_law_753 ?_
  refine r_val (v := xs 3) (congrArg xs (show (3 : Int32).toNatClampNeg = 3 by decide)) ?_
  refine x_Vi F w (As := [.int (xs 1), .int (xs 2), .int (xs 3)]) (rest := [.int (-1)]) (a := 146) (by decide) (sh_12 rfl _ _) rfl (c_X12_syllableAt_279 (rfl) h0) gv_L_94 hv_X12_syllableAt ⟨Nat.le_of_ble_eq_true rfl, Nat.le_of_ble_eq_true rfl⟩ hl.1 rfl (Nat.le_of_ble_eq_true rfl) ⟨Nat.le_of_ble_eq_true rfl, Nat.le_of_ble_eq_true rfl⟩ dL_law_754 (fun H locs w => ?_)
  refine lv_icmp_eq (tgt := 1065) hx hb dL_law_757 (by decide) (fun _ => ?_) (fun c1 => absurd c1 (by decide))
  exact kk _ _ _ w
theorem dX11_syllableAt_13 : decode cX11_syllableAt 13 = .ok (.aload_n 0, 1) := by decide +kernel
theorem dX11_syllableAt_14 : decode cX11_syllableAt 14 = .ok (.getfield 35, 3) := by decide +kernel
theorem dX11_syllableAt_17 : decode cX11_syllableAt 17 = .ok (.iload_n 1, 1) := by decide +kernel
theorem dX11_syllableAt_18 : decode cX11_syllableAt 18 = .ok (.invokevirtual 196, 3) := by decide +kernel
theorem dX11_syllableAt_21 : decode cX11_syllableAt 21 = .ok (.astore 4, 2) := by decide +kernel
theorem dX11_syllableAt_23 : decode cX11_syllableAt 23 = .ok (.aload 4, 2) := by decide +kernel
theorem dX11_syllableAt_25 : decode cX11_syllableAt 25 = .ok (.iload_n 2, 1) := by decide +kernel
theorem dX11_syllableAt_26 : decode cX11_syllableAt 26 = .ok (.invokevirtual 160, 3) := by decide +kernel
theorem dX11_syllableAt_29 : decode cX11_syllableAt 29 = .ok (.ifCond .ne 5, 3) := by decide +kernel
theorem dX11_syllableAt_32 : decode cX11_syllableAt 32 = .ok (.iconst (-1), 1) := by decide +kernel
theorem dX11_syllableAt_33 : decode cX11_syllableAt 33 = .ok (.ireturn, 1) := by decide +kernel
set_option maxRecDepth 4000 in
theorem c_X11_syllableAt_280 {l : Launch} {D : va_G} {B : Nat} {cy : Nat → ClassId} {M : Mem} {p2 : Int32} {p3 : Int32} (h0 : M.1 22 2 = 0) (h1 : M.1 22 7 = 0) (h2 : p2 < 0) : Ci l D B cy yX11_syllableAt cX11_syllableAt 6 (some .int) 2 43 [.ref (B + 0), .int 0, .int p2, .int p3] M (fun r M1 => r = (-1) ∧ M1 = M) := by
  refine s_any (by decide) (Nat.le_of_ble_eq_true rfl) ?_
  intro p e s m below meth c ls F hr hlocks w hl
  have F : CallFix p m c cX11_syllableAt 6 s _ TB RX11 := F
  have hx := F.1
  have hb := F.2.1
  have hl : lv_has ls 6 [(0, .ref (B + 0)), (1, .int 0), (2, .int p2), (3, .int p3)] := hl
  refine lv_aload_n hx hb dX11_syllableAt_0 rfl (lv_at hl 0 rfl) ?_
  refine f_11_3 F w (a := 0) rfl tb_73 dX11_syllableAt_1 ?_
  refine lv_iload_n hx hb dX11_syllableAt_4 rfl (lv_at hl 1 rfl) ?_
  refine x_Vi F w (As := [.int 0]) (rest := []) (a := 22) (by decide) (sh_0 rfl _ _) rfl (c_X0_covers_206 (h0)) gv_X11_193 hv_X0_covers ⟨Nat.le_of_ble_eq_true rfl, Nat.le_of_ble_eq_true rfl⟩ hl.1 rfl (Nat.le_of_ble_eq_true rfl) ⟨Nat.zero_le _, Nat.zero_le _⟩ dX11_syllableAt_5 (fun H locs w => ?_)
  refine lv_if_ne (tgt := 13) hx hb dX11_syllableAt_8 (by decide) (fun _ => ?_) (fun c1 => absurd c1 (by decide))
  refine lv_aload_n hx hb dX11_syllableAt_13 rfl (lv_at hl 0 rfl) ?_
  refine f_11_3 F w (a := 0) rfl tb_73 dX11_syllableAt_14 ?_
  refine lv_iload_n hx hb dX11_syllableAt_17 rfl (lv_at hl 1 rfl) ?_
  refine x_Vr F w (As := [.int 0]) (rest := []) (a := 22) (by decide) (sh_0 rfl _ _) rfl (c_X0_stageOf_207 (h0) (h1)) gv_X11_196 hv_X0_stageOf ⟨Nat.le_of_ble_eq_true rfl, Nat.le_of_ble_eq_true rfl⟩ hl.1 rfl (Nat.le_of_ble_eq_true rfl) ⟨Nat.zero_le _, Nat.zero_le _⟩ dX11_syllableAt_18 (fun H locs w => ?_)
  refine lv_astore (lv' := [(4, .ref (B + 44)), (0, .ref (B + 0)), (1, .int 0), (2, .int p2), (3, .int p3)]) hx hb dX11_syllableAt_21 hl (by decide) rfl (fun ls hl => ?_)
  refine lv_aload hx hb dX11_syllableAt_23 (lv_at hl 0 rfl) ?_
  refine lv_iload_n hx hb dX11_syllableAt_25 rfl (lv_at hl 3 rfl) ?_
  refine x_Vi F w (As := [.int p2]) (rest := []) (a := 44) (by decide) (sh_9 rfl _ _) rfl (c_X9_hasSyllable_175 h2) gv_X11_160 hv_X9_hasSyllable ⟨Nat.le_of_ble_eq_true rfl, Nat.le_of_ble_eq_true rfl⟩ hl.1 rfl (Nat.le_of_ble_eq_true rfl) ⟨Nat.zero_le _, Nat.zero_le _⟩ dX11_syllableAt_26 (fun H locs w => ?_)
  refine lv_if_ne (tgt := 34) hx hb dX11_syllableAt_29 (by decide) (fun c1 => absurd c1 (by decide)) (fun _ => ?_)
  refine lv_iconst (v := (-1)) hx hb dX11_syllableAt_32 (by decide) ?_
  exact e_i F w hr hlocks ⟨rfl, rfl⟩ dX11_syllableAt_33
theorem dX12_syllableAt_8 : decode cX12_syllableAt 8 = .ok (.aload_n 0, 1) := by decide +kernel
theorem dX12_syllableAt_9 : decode cX12_syllableAt 9 = .ok (.getfield 17, 3) := by decide +kernel
theorem dX12_syllableAt_12 : decode cX12_syllableAt 12 = .ok (.iload_n 2, 1) := by decide +kernel
theorem dX12_syllableAt_13 : decode cX12_syllableAt 13 = .ok (.invokestatic 94, 3) := by decide +kernel
set_option maxRecDepth 4000 in
theorem c_X12_isSyllable_281 {l : Launch} {D : va_G} {B : Nat} {cy : Nat → ClassId} {M : Mem} {p1 : Int32} (h0 : M.1 148 25 = 0) (h1 : p1 < 0) : Ci l D B cy yX12_isSyllable cX12_isSyllable 2 (some .boolean) 1 22 [.ref (B + 148), .int p1] M (fun r M1 => r = 0 ∧ M1 = M) := by
  refine s_any (by decide) (Nat.le_of_ble_eq_true rfl) ?_
  intro p e s m below meth c ls F hr hlocks w hl
  have F : CallFix p m c cX12_isSyllable 2 s _ TB RX12 := F
  have hx := F.1
  have hb := F.2.1
  have hl : lv_has ls 2 [(0, .ref (B + 148)), (1, .int p1)] := hl
  refine lv_iload_n hx hb dX12_isSyllable_0 rfl (lv_at hl 1 rfl) ?_
  refine lv_iconst (v := 0) hx hb dX12_isSyllable_1 (by decide) ?_
  refine lv_aload_n hx hb dX12_isSyllable_2 rfl (lv_at hl 0 rfl) ?_
  refine lv_bipush (v := 25) hx hb dX12_isSyllable_3 (by decide) ?_
  refine g_iald F w (a := 148) rfl (j := 25) ⟨by decide, by decide⟩ (by decide) dX12_isSyllable_5 ?_
  refine r_val (v := 0) (h0) ?_
  refine lv_iconst (v := 1) hx hb dX12_isSyllable_6 (by decide) ?_
  refine lv_isub hx hb dX12_isSyllable_7 ?_
  refine r_val (v := (-1)) (by decide) ?_
  refine x_Si F w (As := [.int p1, .int 0, .int (-1)]) (rest := []) (c_X12_in_95 h1) gs_X12_55 hs_X12_in ⟨Nat.le_of_ble_eq_true rfl, Nat.le_of_ble_eq_true rfl⟩ hl.1 rfl (Nat.le_of_ble_eq_true rfl) ⟨Nat.zero_le _, Nat.zero_le _⟩ dX12_isSyllable_8 (fun H locs w => ?_)
  exact e_z F w hr hlocks (by decide) ⟨rfl, rfl⟩ dX12_isSyllable_11
theorem dX12_syllableAt_16 : decode cX12_syllableAt 16 = .ok (.ifCond .ne 5, 3) := by decide +kernel
set_option maxRecDepth 4000 in
theorem c_X12_syllableAt_282 {l : Launch} {D : va_G} {B : Nat} {cy : Nat → ClassId} {M : Mem} {p2 : Int32} {p3 : Int32} (h0 : M.1 146 5 = 0) (h1 : M.1 147 0 = 0) (h2 : M.1 148 0 = 0) (h3 : M.1 147 1 = 0) (h4 : M.1 148 1 = 0) (h5 : M.1 147 2 = 0) (h6 : M.1 148 2 = 0) (h7 : M.1 147 3 = 0) (h8 : M.1 148 3 = 0) (h9 : M.1 147 4 = 0) (h10 : M.1 148 4 = 0) (h11 : M.1 147 5 = 0) (h12 : M.1 148 5 = 0) (h13 : M.1 147 6 = 0) (h14 : M.1 148 6 = 0) (h15 : M.1 147 7 = 0) (h16 : M.1 148 7 = 0) (h17 : M.1 147 8 = 0) (h18 : M.1 148 8 = 0) (h19 : M.1 147 9 = 0) (h20 : M.1 148 9 = 0) (h21 : M.1 147 10 = 0) (h22 : M.1 148 10 = 0) (h23 : M.1 147 11 = 0) (h24 : M.1 148 11 = 0) (h25 : M.1 147 12 = 0) (h26 : M.1 148 12 = 0) (h27 : M.1 147 13 = 0) (h28 : M.1 148 13 = 0) (h29 : M.1 147 14 = 0) (h30 : M.1 148 14 = 0) (h31 : M.1 147 15 = 0) (h32 : M.1 148 15 = 0) (h33 : M.1 147 16 = 0) (h34 : M.1 148 16 = 0) (h35 : M.1 147 17 = 0) (h36 : M.1 148 17 = 0) (h37 : M.1 147 18 = 0) (h38 : M.1 148 18 = 0) (h39 : M.1 147 19 = 0) (h40 : M.1 148 19 = 0) (h41 : M.1 147 20 = 0) (h42 : M.1 148 20 = 0) (h43 : M.1 147 21 = 0) (h44 : M.1 148 21 = 0) (h45 : M.1 147 22 = 0) (h46 : M.1 148 22 = 0) (h47 : M.1 147 23 = 0) (h48 : M.1 148 23 = 0) (h49 : M.1 147 24 = 0) (h50 : M.1 148 24 = 0) (h51 : M.1 147 25 = 0) (h52 : M.1 148 25 = 0) (h53 : M.1 147 26 = 0) (h54 : M.1 148 26 = 0) (h55 : M.1 147 27 = 0) (h56 : M.1 148 27 = 0) (h57 : p2 < 0) : Ci l D B cy yX12_syllableAt cX12_syllableAt 5 (some .int) 3 66 [.ref (B + 146), .int 0, .int p2, .int p3] M (fun r M1 => r = (-1) ∧ M1 = M) := by
  refine s_any (by decide) (Nat.le_of_ble_eq_true rfl) ?_
  intro p e s m below meth c ls F hr hlocks w hl
  have F : CallFix p m c cX12_syllableAt 5 s _ TB RX12 := F
  have hx := F.1
  have hb := F.2.1
  have hl : lv_has ls 5 [(0, .ref (B + 146)), (1, .int 0), (2, .int p2), (3, .int p3)] := hl
  refine lv_aload_n hx hb dX12_syllableAt_0 rfl (lv_at hl 0 rfl) ?_
  refine lv_iload_n hx hb dX12_syllableAt_1 rfl (lv_at hl 1 rfl) ?_
  refine x_Vi F w (As := [.int 0]) (rest := []) (a := 146) (by decide) (sh_12 rfl _ _) rfl (c_X12_lays_224 (h0) (h1) (h2) (h3) (h4) (h5) (h6) (h7) (h8) (h9) (h10) (h11) (h12) (h13) (h14) (h15) (h16) (h17) (h18) (h19) (h20) (h21) (h22) (h23) (h24) (h25) (h26) (h27) (h28) (h29) (h30) (h31) (h32) (h33) (h34) (h35) (h36) (h37) (h38) (h39) (h40) (h41) (h42) (h43) (h44) (h45) (h46) (h47) (h48) (h49) (h50) (h51) (h52) (h53) (h54) (h55) (h56)) gv_X12_261 hv_X12_lays ⟨Nat.le_of_ble_eq_true rfl, Nat.le_of_ble_eq_true rfl⟩ hl.1 rfl (Nat.le_of_ble_eq_true rfl) ⟨Nat.zero_le _, Nat.zero_le _⟩ dX12_syllableAt_2 (fun H locs w => ?_)
  refine lv_if_eq (tgt := 19) hx hb dX12_syllableAt_5 (by decide) (fun c1 => absurd c1 (by decide)) (fun _ => ?_)
  refine lv_aload_n hx hb dX12_syllableAt_8 rfl (lv_at hl 0 rfl) ?_
  refine f_12_2 F w (a := 146) rfl tb_127 dX12_syllableAt_9 ?_
  refine lv_iload_n hx hb dX12_syllableAt_12 rfl (lv_at hl 2 rfl) ?_
  refine x_Si F w (As := [.ref (B + 148), .int p2]) (rest := []) (c_X12_isSyllable_281 (h52) h57) gs_X12_94 hs_X12_isSyllable ⟨Nat.le_of_ble_eq_true rfl, Nat.le_of_ble_eq_true rfl⟩ hl.1 rfl (Nat.le_of_ble_eq_true rfl) ⟨Nat.zero_le _, Nat.zero_le _⟩ dX12_syllableAt_13 (fun H locs w => ?_)
  refine lv_if_ne (tgt := 21) hx hb dX12_syllableAt_16 (by decide) (fun c1 => absurd c1 (by decide)) (fun _ => ?_)
  refine lv_iconst (v := (-1)) hx hb dX12_syllableAt_19 (by decide) ?_
  exact e_i F w hr hlocks ⟨rfl, rfl⟩ dX12_syllableAt_20
set_option maxRecDepth 8000 in
theorem la_17_61 {p : Program} {l : Launch} {e : Env} {s : State} {m : MethodId} {below : List Frame} {meth : Method} {c : Code} {D : va_G} {B b : Nat} {cy : Nat → ClassId} {H : Heap} {locs : List Loc} {ls : Array Slot} {xs : Nat → Int32} {Q : State → Prop} (F : CallFix p m c code 4 s #[Value.ref b] TB RL) (hX : va_X b 6 xs s s.heap) (hbl : b < s.heap.size) (hbA : ¬ B ≤ b) (w : Wd D B cy s s.heap M0 H locs) (hl : lv_has ls 4 [(3, .int 0), (2, .ref (B + 146)), (1, .ref (B + 0)), (0, .ref b)]) (x1 : xs 1 = 0) (h0 : (xs 2) < 0) (kk : ∀ (M1 : Mem) (H1 : Heap) (locs1 : List Loc), Wd D B cy s s.heap M1 H1 locs1 → W p l e room_1 s m #[Value.ref b] below meth c H1 locs1 159 13107 Q (F0 m 1065 ls [])) : W p l e room_1 s m #[Value.ref b] below meth c H locs 159 13107 Q (F0 m 719 ls []) := by
  have hx := F.1
  have hb := F.2.1
  refine lv_aload_n hx hb dL_law_719 rfl (lv_at hl 2 rfl) ?_
  refine lv_aload_n hx hb dL_law_720 rfl (lv_at hl 3 rfl) ?_
  refine lv_iload_n hx hb dL_law_721 rfl (lv_at hl 0 rfl) ?_
  refine lv_iconst (v := 1) hx hb dL_law_722 (by decide) ?_
  refine lv_iadd hx hb dL_law_723 ?_
  refine r_val (v := 1) (by decide) ?_
  refine va_sld hx hb hX hbl hbA w.2.2.1 (vpi (by decide) (by decide)) dL_law_724 ?_
  refine r_val (v := 0) ((congrArg xs (show (1 : Int32).toNatClampNeg = 1 by decide)).trans x1) ?_
  refine lv_aload_n hx hb dL_law_725 rfl (lv_at hl 3 rfl) ?_
  refine lv_iload_n hx hb dL_law_726 rfl (lv_at hl 0 rfl) ?_
  refine lv_iconst (v := 2) hx hb dL_law_727 (by decide) ?_
  refine lv_iadd hx hb dL_law_728 ?_
  refine r_val (v := 2) (by decide) ?_
  refine va_sld hx hb hX hbl hbA w.2.2.1 (vpi (by decide) (by decide)) dL_law_729 ?_
  refine r_val (v := xs 2) (congrArg xs (show (2 : Int32).toNatClampNeg = 2 by decide)) ?_
  refine lv_aload_n hx hb dL_law_730 rfl (lv_at hl 3 rfl) ?_
  refine lv_iload_n hx hb dL_law_731 rfl (lv_at hl 0 rfl) ?_
  refine lv_iconst (v := 3) hx hb dL_law_732 (by decide) ?_
  refine lv_iadd hx hb dL_law_733 ?_
  refine r_val (v := 3) (by decide) ?_
  refine va_sld hx hb hX hbl hbA w.2.2.1 (vpi (by decide) (by decide)) dL_law_734 ?_
  refine r_val (v := xs 3) (congrArg xs (show (3 : Int32).toNatClampNeg = 3 by decide)) ?_
  refine x_Vi F w (As := [.int 0, .int (xs 2), .int (xs 3)]) (rest := []) (a := 0) (by decide) (sh_11 rfl _ _) rfl (c_X11_syllableAt_280 (rfl) (rfl) h0) gv_L_91 hv_X11_syllableAt ⟨Nat.le_of_ble_eq_true rfl, Nat.le_of_ble_eq_true rfl⟩ hl.1 rfl (Nat.le_of_ble_eq_true rfl) ⟨Nat.le_of_ble_eq_true rfl, Nat.le_of_ble_eq_true rfl⟩ dL_law_735 (fun H locs w => ?_)
  refine lv_aload_n hx hb dL_law_738 rfl (lv_at hl 1 rfl) ?_
  refine lv_aload_n hx hb dL_law_739 rfl (lv_at hl 3 rfl) ?_
  refine lv_iload_n hx hb dL_law_740 rfl (lv_at hl 0 rfl) ?_
  refine lv_iconst (v := 1) hx hb dL_law_741 (by decide) ?_
  refine lv_iadd hx hb dL_law_742 ?_
  refine r_val (v := 1) (by decide) ?_
  refine va_sld hx hb hX hbl hbA w.2.2.1 (vpi (by decide) (by decide)) dL_law_743 ?_
  refine r_val (v := 0) ((congrArg xs (show (1 : Int32).toNatClampNeg = 1 by decide)).trans x1) ?_
  refine lv_aload_n hx hb dL_law_744 rfl (lv_at hl 3 rfl) ?_
  refine lv_iload_n hx hb dL_law_745 rfl (lv_at hl 0 rfl) ?_
  refine lv_iconst (v := 2) hx hb dL_law_746 (by decide) ?_
  refine lv_iadd hx hb dL_law_747 ?_
  refine r_val (v := 2) (by decide) ?_
  refine va_sld hx hb hX hbl hbA w.2.2.1 (vpi (by decide) (by decide)) dL_law_748 ?_
  refine r_val (v := xs 2) (congrArg xs (show (2 : Int32).toNatClampNeg = 2 by decide)) ?_
  refine lv_aload_n hx hb dL_law_749 rfl (lv_at hl 3 rfl) ?_
  refine lv_iload_n hx hb dL_law_750 rfl (lv_at hl 0 rfl) ?_
  refine lv_iconst (v := 3) hx hb dL_law_751 (by decide) ?_
  refine lv_iadd hx hb dL_law_752 ?_
  refine r_val (v := 3) (by decide) ?_
  refine va_sld hx hb hX hbl hbA w.2.2.1 (vpi (by decide) (by decide)) dL_law_753 ?_
  refine r_val (v := xs 3) (congrArg xs (show (3 : Int32).toNatClampNeg = 3 by decide)) ?_
  refine x_Vi F w (As := [.int 0, .int (xs 2), .int (xs 3)]) (rest := [.int (-1)]) (a := 146) (by decide) (sh_12 rfl _ _) rfl (c_X12_syllableAt_282 (rfl) (rfl) (rfl) (rfl) (rfl) (rfl) (rfl) (rfl) (rfl) (rfl) (rfl) (rfl) (rfl) (rfl) (rfl) (rfl) (rfl) (rfl) (rfl) (rfl) (rfl) (rfl) (rfl) (rfl) (rfl) (rfl) (rfl) (rfl) (rfl) (rfl) (rfl) (rfl) (rfl) (rfl) (rfl) (rfl) (rfl) (rfl) (rfl) (rfl) (rfl) (rfl) (rfl) (rfl) (rfl) (rfl) (rfl) (rfl) (rfl) (rfl) (rfl) (rfl) (rfl) (rfl) (rfl) (rfl) (rfl) h0) gv_L_94 hv_X12_syllableAt ⟨Nat.le_of_ble_eq_true rfl, Nat.le_of_ble_eq_true rfl⟩ hl.1 rfl (Nat.le_of_ble_eq_true rfl) ⟨Nat.le_of_ble_eq_true rfl, Nat.le_of_ble_eq_true rfl⟩ dL_law_754 (fun H locs w => ?_)
  refine lv_icmp_eq (tgt := 1065) hx hb dL_law_757 (by decide) (fun _ => ?_) (fun c1 => absurd c1 (by decide))
  exact kk _ _ _ w
set_option maxRecDepth 4000 in
theorem c_X11_syllableAt_283 {l : Launch} {D : va_G} {B : Nat} {cy : Nat → ClassId} {M : Mem} {p2 : Int32} {p3 : Int32} (h0 : M.1 22 2 = 0) (h1 : M.1 22 7 = 0) (h2 : ¬ p2 < 0) (h3 : M.1 44 1 = 0) (h4 : 0 ≤ p2) : Ci l D B cy yX11_syllableAt cX11_syllableAt 6 (some .int) 2 43 [.ref (B + 0), .int 0, .int p2, .int p3] M (fun r M1 => r = (-1) ∧ M1 = M) := by
  refine s_any (by decide) (Nat.le_of_ble_eq_true rfl) ?_
  intro p e s m below meth c ls F hr hlocks w hl
  have F : CallFix p m c cX11_syllableAt 6 s _ TB RX11 := F
  have hx := F.1
  have hb := F.2.1
  have hl : lv_has ls 6 [(0, .ref (B + 0)), (1, .int 0), (2, .int p2), (3, .int p3)] := hl
  refine lv_aload_n hx hb dX11_syllableAt_0 rfl (lv_at hl 0 rfl) ?_
  refine f_11_3 F w (a := 0) rfl tb_73 dX11_syllableAt_1 ?_
  refine lv_iload_n hx hb dX11_syllableAt_4 rfl (lv_at hl 1 rfl) ?_
  refine x_Vi F w (As := [.int 0]) (rest := []) (a := 22) (by decide) (sh_0 rfl _ _) rfl (c_X0_covers_206 (h0)) gv_X11_193 hv_X0_covers ⟨Nat.le_of_ble_eq_true rfl, Nat.le_of_ble_eq_true rfl⟩ hl.1 rfl (Nat.le_of_ble_eq_true rfl) ⟨Nat.zero_le _, Nat.zero_le _⟩ dX11_syllableAt_5 (fun H locs w => ?_)
  refine lv_if_ne (tgt := 13) hx hb dX11_syllableAt_8 (by decide) (fun _ => ?_) (fun c1 => absurd c1 (by decide))
  refine lv_aload_n hx hb dX11_syllableAt_13 rfl (lv_at hl 0 rfl) ?_
  refine f_11_3 F w (a := 0) rfl tb_73 dX11_syllableAt_14 ?_
  refine lv_iload_n hx hb dX11_syllableAt_17 rfl (lv_at hl 1 rfl) ?_
  refine x_Vr F w (As := [.int 0]) (rest := []) (a := 22) (by decide) (sh_0 rfl _ _) rfl (c_X0_stageOf_207 (h0) (h1)) gv_X11_196 hv_X0_stageOf ⟨Nat.le_of_ble_eq_true rfl, Nat.le_of_ble_eq_true rfl⟩ hl.1 rfl (Nat.le_of_ble_eq_true rfl) ⟨Nat.zero_le _, Nat.zero_le _⟩ dX11_syllableAt_18 (fun H locs w => ?_)
  refine lv_astore (lv' := [(4, .ref (B + 44)), (0, .ref (B + 0)), (1, .int 0), (2, .int p2), (3, .int p3)]) hx hb dX11_syllableAt_21 hl (by decide) rfl (fun ls hl => ?_)
  refine lv_aload hx hb dX11_syllableAt_23 (lv_at hl 0 rfl) ?_
  refine lv_iload_n hx hb dX11_syllableAt_25 rfl (lv_at hl 3 rfl) ?_
  refine x_Vi F w (As := [.int p2]) (rest := []) (a := 44) (by decide) (sh_9 rfl _ _) rfl (c_X9_hasSyllable_185 h2 (h3) h4) gv_X11_160 hv_X9_hasSyllable ⟨Nat.le_of_ble_eq_true rfl, Nat.le_of_ble_eq_true rfl⟩ hl.1 rfl (Nat.le_of_ble_eq_true rfl) ⟨Nat.zero_le _, Nat.zero_le _⟩ dX11_syllableAt_26 (fun H locs w => ?_)
  refine lv_if_ne (tgt := 34) hx hb dX11_syllableAt_29 (by decide) (fun c1 => absurd c1 (by decide)) (fun _ => ?_)
  refine lv_iconst (v := (-1)) hx hb dX11_syllableAt_32 (by decide) ?_
  exact e_i F w hr hlocks ⟨rfl, rfl⟩ dX11_syllableAt_33
set_option maxRecDepth 4000 in
theorem c_X12_isSyllable_284 {l : Launch} {D : va_G} {B : Nat} {cy : Nat → ClassId} {M : Mem} {p1 : Int32} (h0 : M.1 148 25 = 0) (h1 : ¬ p1 < 0) (h2 : (-1) < p1) : Ci l D B cy yX12_isSyllable cX12_isSyllable 2 (some .boolean) 1 22 [.ref (B + 148), .int p1] M (fun r M1 => r = 0 ∧ M1 = M) := by
  refine s_any (by decide) (Nat.le_of_ble_eq_true rfl) ?_
  intro p e s m below meth c ls F hr hlocks w hl
  have F : CallFix p m c cX12_isSyllable 2 s _ TB RX12 := F
  have hx := F.1
  have hb := F.2.1
  have hl : lv_has ls 2 [(0, .ref (B + 148)), (1, .int p1)] := hl
  refine lv_iload_n hx hb dX12_isSyllable_0 rfl (lv_at hl 1 rfl) ?_
  refine lv_iconst (v := 0) hx hb dX12_isSyllable_1 (by decide) ?_
  refine lv_aload_n hx hb dX12_isSyllable_2 rfl (lv_at hl 0 rfl) ?_
  refine lv_bipush (v := 25) hx hb dX12_isSyllable_3 (by decide) ?_
  refine g_iald F w (a := 148) rfl (j := 25) ⟨by decide, by decide⟩ (by decide) dX12_isSyllable_5 ?_
  refine r_val (v := 0) (h0) ?_
  refine lv_iconst (v := 1) hx hb dX12_isSyllable_6 (by decide) ?_
  refine lv_isub hx hb dX12_isSyllable_7 ?_
  refine r_val (v := (-1)) (by decide) ?_
  refine x_Si F w (As := [.int p1, .int 0, .int (-1)]) (rest := []) (c_X12_in_101 h1 h2) gs_X12_55 hs_X12_in ⟨Nat.le_of_ble_eq_true rfl, Nat.le_of_ble_eq_true rfl⟩ hl.1 rfl (Nat.le_of_ble_eq_true rfl) ⟨Nat.zero_le _, Nat.zero_le _⟩ dX12_isSyllable_8 (fun H locs w => ?_)
  exact e_z F w hr hlocks (by decide) ⟨rfl, rfl⟩ dX12_isSyllable_11
set_option maxRecDepth 4000 in
theorem c_X12_syllableAt_285 {l : Launch} {D : va_G} {B : Nat} {cy : Nat → ClassId} {M : Mem} {p2 : Int32} {p3 : Int32} (h0 : M.1 146 5 = 0) (h1 : M.1 147 0 = 0) (h2 : M.1 148 0 = 0) (h3 : M.1 147 1 = 0) (h4 : M.1 148 1 = 0) (h5 : M.1 147 2 = 0) (h6 : M.1 148 2 = 0) (h7 : M.1 147 3 = 0) (h8 : M.1 148 3 = 0) (h9 : M.1 147 4 = 0) (h10 : M.1 148 4 = 0) (h11 : M.1 147 5 = 0) (h12 : M.1 148 5 = 0) (h13 : M.1 147 6 = 0) (h14 : M.1 148 6 = 0) (h15 : M.1 147 7 = 0) (h16 : M.1 148 7 = 0) (h17 : M.1 147 8 = 0) (h18 : M.1 148 8 = 0) (h19 : M.1 147 9 = 0) (h20 : M.1 148 9 = 0) (h21 : M.1 147 10 = 0) (h22 : M.1 148 10 = 0) (h23 : M.1 147 11 = 0) (h24 : M.1 148 11 = 0) (h25 : M.1 147 12 = 0) (h26 : M.1 148 12 = 0) (h27 : M.1 147 13 = 0) (h28 : M.1 148 13 = 0) (h29 : M.1 147 14 = 0) (h30 : M.1 148 14 = 0) (h31 : M.1 147 15 = 0) (h32 : M.1 148 15 = 0) (h33 : M.1 147 16 = 0) (h34 : M.1 148 16 = 0) (h35 : M.1 147 17 = 0) (h36 : M.1 148 17 = 0) (h37 : M.1 147 18 = 0) (h38 : M.1 148 18 = 0) (h39 : M.1 147 19 = 0) (h40 : M.1 148 19 = 0) (h41 : M.1 147 20 = 0) (h42 : M.1 148 20 = 0) (h43 : M.1 147 21 = 0) (h44 : M.1 148 21 = 0) (h45 : M.1 147 22 = 0) (h46 : M.1 148 22 = 0) (h47 : M.1 147 23 = 0) (h48 : M.1 148 23 = 0) (h49 : M.1 147 24 = 0) (h50 : M.1 148 24 = 0) (h51 : M.1 147 25 = 0) (h52 : M.1 148 25 = 0) (h53 : M.1 147 26 = 0) (h54 : M.1 148 26 = 0) (h55 : M.1 147 27 = 0) (h56 : M.1 148 27 = 0) (h57 : ¬ p2 < 0) (h58 : (-1) < p2) : Ci l D B cy yX12_syllableAt cX12_syllableAt 5 (some .int) 3 66 [.ref (B + 146), .int 0, .int p2, .int p3] M (fun r M1 => r = (-1) ∧ M1 = M) := by
  refine s_any (by decide) (Nat.le_of_ble_eq_true rfl) ?_
  intro p e s m below meth c ls F hr hlocks w hl
  have F : CallFix p m c cX12_syllableAt 5 s _ TB RX12 := F
  have hx := F.1
  have hb := F.2.1
  have hl : lv_has ls 5 [(0, .ref (B + 146)), (1, .int 0), (2, .int p2), (3, .int p3)] := hl
  refine lv_aload_n hx hb dX12_syllableAt_0 rfl (lv_at hl 0 rfl) ?_
  refine lv_iload_n hx hb dX12_syllableAt_1 rfl (lv_at hl 1 rfl) ?_
  refine x_Vi F w (As := [.int 0]) (rest := []) (a := 146) (by decide) (sh_12 rfl _ _) rfl (c_X12_lays_224 (h0) (h1) (h2) (h3) (h4) (h5) (h6) (h7) (h8) (h9) (h10) (h11) (h12) (h13) (h14) (h15) (h16) (h17) (h18) (h19) (h20) (h21) (h22) (h23) (h24) (h25) (h26) (h27) (h28) (h29) (h30) (h31) (h32) (h33) (h34) (h35) (h36) (h37) (h38) (h39) (h40) (h41) (h42) (h43) (h44) (h45) (h46) (h47) (h48) (h49) (h50) (h51) (h52) (h53) (h54) (h55) (h56)) gv_X12_261 hv_X12_lays ⟨Nat.le_of_ble_eq_true rfl, Nat.le_of_ble_eq_true rfl⟩ hl.1 rfl (Nat.le_of_ble_eq_true rfl) ⟨Nat.zero_le _, Nat.zero_le _⟩ dX12_syllableAt_2 (fun H locs w => ?_)
  refine lv_if_eq (tgt := 19) hx hb dX12_syllableAt_5 (by decide) (fun c1 => absurd c1 (by decide)) (fun _ => ?_)
  refine lv_aload_n hx hb dX12_syllableAt_8 rfl (lv_at hl 0 rfl) ?_
  refine f_12_2 F w (a := 146) rfl tb_127 dX12_syllableAt_9 ?_
  refine lv_iload_n hx hb dX12_syllableAt_12 rfl (lv_at hl 2 rfl) ?_
  refine x_Si F w (As := [.ref (B + 148), .int p2]) (rest := []) (c_X12_isSyllable_284 (h52) h57 h58) gs_X12_94 hs_X12_isSyllable ⟨Nat.le_of_ble_eq_true rfl, Nat.le_of_ble_eq_true rfl⟩ hl.1 rfl (Nat.le_of_ble_eq_true rfl) ⟨Nat.zero_le _, Nat.zero_le _⟩ dX12_syllableAt_13 (fun H locs w => ?_)
  refine lv_if_ne (tgt := 21) hx hb dX12_syllableAt_16 (by decide) (fun c1 => absurd c1 (by decide)) (fun _ => ?_)
  refine lv_iconst (v := (-1)) hx hb dX12_syllableAt_19 (by decide) ?_
  exact e_i F w hr hlocks ⟨rfl, rfl⟩ dX12_syllableAt_20
set_option maxRecDepth 8000 in
theorem la_17_62 {p : Program} {l : Launch} {e : Env} {s : State} {m : MethodId} {below : List Frame} {meth : Method} {c : Code} {D : va_G} {B b : Nat} {cy : Nat → ClassId} {H : Heap} {locs : List Loc} {ls : Array Slot} {xs : Nat → Int32} {Q : State → Prop} (F : CallFix p m c code 4 s #[Value.ref b] TB RL) (hX : va_X b 6 xs s s.heap) (hbl : b < s.heap.size) (hbA : ¬ B ≤ b) (w : Wd D B cy s s.heap M0 H locs) (hl : lv_has ls 4 [(3, .int 0), (2, .ref (B + 146)), (1, .ref (B + 0)), (0, .ref b)]) (x1 : xs 1 = 0) (h0 : ¬ (xs 2) < 0) (h1 : 0 ≤ (xs 2)) (h2 : (-1) < (xs 2)) (kk : ∀ (M1 : Mem) (H1 : Heap) (locs1 : List Loc), Wd D B cy s s.heap M1 H1 locs1 → W p l e room_1 s m #[Value.ref b] below meth c H1 locs1 159 13107 Q (F0 m 1065 ls [])) : W p l e room_1 s m #[Value.ref b] below meth c H locs 159 13107 Q (F0 m 719 ls []) := by
  have hx := F.1
  have hb := F.2.1
  refine lv_aload_n hx hb dL_law_719 rfl (lv_at hl 2 rfl) ?_
  refine lv_aload_n hx hb dL_law_720 rfl (lv_at hl 3 rfl) ?_
  refine lv_iload_n hx hb dL_law_721 rfl (lv_at hl 0 rfl) ?_
  refine lv_iconst (v := 1) hx hb dL_law_722 (by decide) ?_
  refine lv_iadd hx hb dL_law_723 ?_
  refine r_val (v := 1) (by decide) ?_
  refine va_sld hx hb hX hbl hbA w.2.2.1 (vpi (by decide) (by decide)) dL_law_724 ?_
  refine r_val (v := 0) ((congrArg xs (show (1 : Int32).toNatClampNeg = 1 by decide)).trans x1) ?_
  refine lv_aload_n hx hb dL_law_725 rfl (lv_at hl 3 rfl) ?_
  refine lv_iload_n hx hb dL_law_726 rfl (lv_at hl 0 rfl) ?_
  refine lv_iconst (v := 2) hx hb dL_law_727 (by decide) ?_
  refine lv_iadd hx hb dL_law_728 ?_
  refine r_val (v := 2) (by decide) ?_
  refine va_sld hx hb hX hbl hbA w.2.2.1 (vpi (by decide) (by decide)) dL_law_729 ?_
  refine r_val (v := xs 2) (congrArg xs (show (2 : Int32).toNatClampNeg = 2 by decide)) ?_
  refine lv_aload_n hx hb dL_law_730 rfl (lv_at hl 3 rfl) ?_
  refine lv_iload_n hx hb dL_law_731 rfl (lv_at hl 0 rfl) ?_
  refine lv_iconst (v := 3) hx hb dL_law_732 (by decide) ?_
  refine lv_iadd hx hb dL_law_733 ?_
  refine r_val (v := 3) (by decide) ?_
  refine va_sld hx hb hX hbl hbA w.2.2.1 (vpi (by decide) (by decide)) dL_law_734 ?_
  refine r_val (v := xs 3) (congrArg xs (show (3 : Int32).toNatClampNeg = 3 by decide)) ?_
  refine x_Vi F w (As := [.int 0, .int (xs 2), .int (xs 3)]) (rest := []) (a := 0) (by decide) (sh_11 rfl _ _) rfl (c_X11_syllableAt_283 (rfl) (rfl) h0 (rfl) h1) gv_L_91 hv_X11_syllableAt ⟨Nat.le_of_ble_eq_true rfl, Nat.le_of_ble_eq_true rfl⟩ hl.1 rfl (Nat.le_of_ble_eq_true rfl) ⟨Nat.le_of_ble_eq_true rfl, Nat.le_of_ble_eq_true rfl⟩ dL_law_735 (fun H locs w => ?_)
  refine lv_aload_n hx hb dL_law_738 rfl (lv_at hl 1 rfl) ?_
  refine lv_aload_n hx hb dL_law_739 rfl (lv_at hl 3 rfl) ?_
  refine lv_iload_n hx hb dL_law_740 rfl (lv_at hl 0 rfl) ?_
  refine lv_iconst (v := 1) hx hb dL_law_741 (by decide) ?_
  refine lv_iadd hx hb dL_law_742 ?_
  refine r_val (v := 1) (by decide) ?_
  refine va_sld hx hb hX hbl hbA w.2.2.1 (vpi (by decide) (by decide)) dL_law_743 ?_
  refine r_val (v := 0) ((congrArg xs (show (1 : Int32).toNatClampNeg = 1 by decide)).trans x1) ?_
  refine lv_aload_n hx hb dL_law_744 rfl (lv_at hl 3 rfl) ?_
  refine lv_iload_n hx hb dL_law_745 rfl (lv_at hl 0 rfl) ?_
  refine lv_iconst (v := 2) hx hb dL_law_746 (by decide) ?_
  refine lv_iadd hx hb dL_law_747 ?_
  refine r_val (v := 2) (by decide) ?_
  refine va_sld hx hb hX hbl hbA w.2.2.1 (vpi (by decide) (by decide)) dL_law_748 ?_
  refine r_val (v := xs 2) (congrArg xs (show (2 : Int32).toNatClampNeg = 2 by decide)) ?_
  refine lv_aload_n hx hb dL_law_749 rfl (lv_at hl 3 rfl) ?_
  refine lv_iload_n hx hb dL_law_750 rfl (lv_at hl 0 rfl) ?_
  refine lv_iconst (v := 3) hx hb dL_law_751 (by decide) ?_
  refine lv_iadd hx hb dL_law_752 ?_
  refine r_val (v := 3) (by decide) ?_
  refine va_sld hx hb hX hbl hbA w.2.2.1 (vpi (by decide) (by decide)) dL_law_753 ?_
  refine r_val (v := xs 3) (congrArg xs (show (3 : Int32).toNatClampNeg = 3 by decide)) ?_
  refine x_Vi F w (As := [.int 0, .int (xs 2), .int (xs 3)]) (rest := [.int (-1)]) (a := 146) (by decide) (sh_12 rfl _ _) rfl (c_X12_syllableAt_285 (rfl) (rfl) (rfl) (rfl) (rfl) (rfl) (rfl) (rfl) (rfl) (rfl) (rfl) (rfl) (rfl) (rfl) (rfl) (rfl) (rfl) (rfl) (rfl) (rfl) (rfl) (rfl) (rfl) (rfl) (rfl) (rfl) (rfl) (rfl) (rfl) (rfl) (rfl) (rfl) (rfl) (rfl) (rfl) (rfl) (rfl) (rfl) (rfl) (rfl) (rfl) (rfl) (rfl) (rfl) (rfl) (rfl) (rfl) (rfl) (rfl) (rfl) (rfl) (rfl) (rfl) (rfl) (rfl) (rfl) (rfl) h0 h2) gv_L_94 hv_X12_syllableAt ⟨Nat.le_of_ble_eq_true rfl, Nat.le_of_ble_eq_true rfl⟩ hl.1 rfl (Nat.le_of_ble_eq_true rfl) ⟨Nat.le_of_ble_eq_true rfl, Nat.le_of_ble_eq_true rfl⟩ dL_law_754 (fun H locs w => ?_)
  refine lv_icmp_eq (tgt := 1065) hx hb dL_law_757 (by decide) (fun _ => ?_) (fun c1 => absurd c1 (by decide))
  exact kk _ _ _ w
set_option maxRecDepth 4000 in
theorem c_X11_syllableAt_286 {l : Launch} {D : va_G} {B : Nat} {cy : Nat → ClassId} {M : Mem} {p1 : Int32} {p2 : Int32} {p3 : Int32} (h0 : ¬ p1 < 0) (h1 : M.1 22 2 = 0) (h2 : 0 < p1) : Ci l D B cy yX11_syllableAt cX11_syllableAt 6 (some .int) 1 21 [.ref (B + 0), .int p1, .int p2, .int p3] M (fun r M1 => r = (-1) ∧ M1 = M) := by
  refine s_any (by decide) (Nat.le_of_ble_eq_true rfl) ?_
  intro p e s m below meth c ls F hr hlocks w hl
  have F : CallFix p m c cX11_syllableAt 6 s _ TB RX11 := F
  have hx := F.1
  have hb := F.2.1
  have hl : lv_has ls 6 [(0, .ref (B + 0)), (1, .int p1), (2, .int p2), (3, .int p3)] := hl
  refine lv_aload_n hx hb dX11_syllableAt_0 rfl (lv_at hl 0 rfl) ?_
  refine f_11_3 F w (a := 0) rfl tb_73 dX11_syllableAt_1 ?_
  refine lv_iload_n hx hb dX11_syllableAt_4 rfl (lv_at hl 1 rfl) ?_
  refine x_Vi F w (As := [.int p1]) (rest := []) (a := 22) (by decide) (sh_0 rfl _ _) rfl (c_X0_covers_215 h0 (h1) h2) gv_X11_193 hv_X0_covers ⟨Nat.le_of_ble_eq_true rfl, Nat.le_of_ble_eq_true rfl⟩ hl.1 rfl (Nat.le_of_ble_eq_true rfl) ⟨Nat.zero_le _, Nat.zero_le _⟩ dX11_syllableAt_5 (fun H locs w => ?_)
  refine lv_if_ne (tgt := 13) hx hb dX11_syllableAt_8 (by decide) (fun c1 => absurd c1 (by decide)) (fun _ => ?_)
  refine lv_iconst (v := (-1)) hx hb dX11_syllableAt_11 (by decide) ?_
  exact e_i F w hr hlocks ⟨rfl, rfl⟩ dX11_syllableAt_12
set_option maxRecDepth 4000 in
theorem c_X12_syllableAt_287 {l : Launch} {D : va_G} {B : Nat} {cy : Nat → ClassId} {M : Mem} {p1 : Int32} {p2 : Int32} {p3 : Int32} (h0 : M.1 146 5 = 0) (h1 : ¬ p1 < 0) (h2 : 0 < p1) : Ci l D B cy yX12_syllableAt cX12_syllableAt 5 (some .int) 2 43 [.ref (B + 146), .int p1, .int p2, .int p3] M (fun r M1 => r = (-1) ∧ M1 = M) := by
  refine s_any (by decide) (Nat.le_of_ble_eq_true rfl) ?_
  intro p e s m below meth c ls F hr hlocks w hl
  have F : CallFix p m c cX12_syllableAt 5 s _ TB RX12 := F
  have hx := F.1
  have hb := F.2.1
  have hl : lv_has ls 5 [(0, .ref (B + 146)), (1, .int p1), (2, .int p2), (3, .int p3)] := hl
  refine lv_aload_n hx hb dX12_syllableAt_0 rfl (lv_at hl 0 rfl) ?_
  refine lv_iload_n hx hb dX12_syllableAt_1 rfl (lv_at hl 1 rfl) ?_
  refine x_Vi F w (As := [.int p1]) (rest := []) (a := 146) (by decide) (sh_12 rfl _ _) rfl (c_X12_lays_262 (h0) h1 h2) gv_X12_261 hv_X12_lays ⟨Nat.le_of_ble_eq_true rfl, Nat.le_of_ble_eq_true rfl⟩ hl.1 rfl (Nat.le_of_ble_eq_true rfl) ⟨Nat.zero_le _, Nat.zero_le _⟩ dX12_syllableAt_2 (fun H locs w => ?_)
  refine lv_if_eq (tgt := 19) hx hb dX12_syllableAt_5 (by decide) (fun _ => ?_) (fun c1 => absurd c1 (by decide))
  refine lv_iconst (v := (-1)) hx hb dX12_syllableAt_19 (by decide) ?_
  exact e_i F w hr hlocks ⟨rfl, rfl⟩ dX12_syllableAt_20
set_option maxRecDepth 8000 in
theorem la_17_63 {p : Program} {l : Launch} {e : Env} {s : State} {m : MethodId} {below : List Frame} {meth : Method} {c : Code} {D : va_G} {B b : Nat} {cy : Nat → ClassId} {H : Heap} {locs : List Loc} {ls : Array Slot} {xs : Nat → Int32} {Q : State → Prop} (F : CallFix p m c code 4 s #[Value.ref b] TB RL) (hX : va_X b 6 xs s s.heap) (hbl : b < s.heap.size) (hbA : ¬ B ≤ b) (w : Wd D B cy s s.heap M0 H locs) (hl : lv_has ls 4 [(3, .int 0), (2, .ref (B + 146)), (1, .ref (B + 0)), (0, .ref b)]) (h0 : ¬ (xs 1) < 0) (h1 : 0 < (xs 1)) (kk : ∀ (M1 : Mem) (H1 : Heap) (locs1 : List Loc), Wd D B cy s s.heap M1 H1 locs1 → W p l e room_1 s m #[Value.ref b] below meth c H1 locs1 159 13107 Q (F0 m 1065 ls [])) : W p l e room_1 s m #[Value.ref b] below meth c H locs 159 13107 Q (F0 m 719 ls []) := by
  have hx := F.1
  have hb := F.2.1
  refine lv_aload_n hx hb dL_law_719 rfl (lv_at hl 2 rfl) ?_
  refine lv_aload_n hx hb dL_law_720 rfl (lv_at hl 3 rfl) ?_
  refine lv_iload_n hx hb dL_law_721 rfl (lv_at hl 0 rfl) ?_
  refine lv_iconst (v := 1) hx hb dL_law_722 (by decide) ?_
  refine lv_iadd hx hb dL_law_723 ?_
  refine r_val (v := 1) (by decide) ?_
  refine va_sld hx hb hX hbl hbA w.2.2.1 (vpi (by decide) (by decide)) dL_law_724 ?_
  refine r_val (v := xs 1) (congrArg xs (show (1 : Int32).toNatClampNeg = 1 by decide)) ?_
  refine lv_aload_n hx hb dL_law_725 rfl (lv_at hl 3 rfl) ?_
  refine lv_iload_n hx hb dL_law_726 rfl (lv_at hl 0 rfl) ?_
  refine lv_iconst (v := 2) hx hb dL_law_727 (by decide) ?_
  refine lv_iadd hx hb dL_law_728 ?_
  refine r_val (v := 2) (by decide) ?_
  refine va_sld hx hb hX hbl hbA w.2.2.1 (vpi (by decide) (by decide)) dL_law_729 ?_
  refine r_val (v := xs 2) (congrArg xs (show (2 : Int32).toNatClampNeg = 2 by decide)) ?_
  refine lv_aload_n hx hb dL_law_730 rfl (lv_at hl 3 rfl) ?_
  refine lv_iload_n hx hb dL_law_731 rfl (lv_at hl 0 rfl) ?_
  refine lv_iconst (v := 3) hx hb dL_law_732 (by decide) ?_
  refine lv_iadd hx hb dL_law_733 ?_
  refine r_val (v := 3) (by decide) ?_
  refine va_sld hx hb hX hbl hbA w.2.2.1 (vpi (by decide) (by decide)) dL_law_734 ?_
  refine r_val (v := xs 3) (congrArg xs (show (3 : Int32).toNatClampNeg = 3 by decide)) ?_
  refine x_Vi F w (As := [.int (xs 1), .int (xs 2), .int (xs 3)]) (rest := []) (a := 0) (by decide) (sh_11 rfl _ _) rfl (c_X11_syllableAt_286 h0 (rfl) h1) gv_L_91 hv_X11_syllableAt ⟨Nat.le_of_ble_eq_true rfl, Nat.le_of_ble_eq_true rfl⟩ hl.1 rfl (Nat.le_of_ble_eq_true rfl) ⟨Nat.le_of_ble_eq_true rfl, Nat.le_of_ble_eq_true rfl⟩ dL_law_735 (fun H locs w => ?_)
  refine lv_aload_n hx hb dL_law_738 rfl (lv_at hl 1 rfl) ?_
  refine lv_aload_n hx hb dL_law_739 rfl (lv_at hl 3 rfl) ?_
  refine lv_iload_n hx hb dL_law_740 rfl (lv_at hl 0 rfl) ?_
  refine lv_iconst (v := 1) hx hb dL_law_741 (by decide) ?_
  refine lv_iadd hx hb dL_law_742 ?_
  refine r_val (v := 1) (by decide) ?_
  refine va_sld hx hb hX hbl hbA w.2.2.1 (vpi (by decide) (by decide)) dL_law_743 ?_
  refine r_val (v := xs 1) (congrArg xs (show (1 : Int32).toNatClampNeg = 1 by decide)) ?_
  refine lv_aload_n hx hb dL_law_744 rfl (lv_at hl 3 rfl) ?_
  refine lv_iload_n hx hb dL_law_745 rfl (lv_at hl 0 rfl) ?_
  refine lv_iconst (v := 2) hx hb dL_law_746 (by decide) ?_
  refine lv_iadd hx hb dL_law_747 ?_
  refine r_val (v := 2) (by decide) ?_
  refine va_sld hx hb hX hbl hbA w.2.2.1 (vpi (by decide) (by decide)) dL_law_748 ?_
  refine r_val (v := xs 2) (congrArg xs (show (2 : Int32).toNatClampNeg = 2 by decide)) ?_
  refine lv_aload_n hx hb dL_law_749 rfl (lv_at hl 3 rfl) ?_
  refine lv_iload_n hx hb dL_law_750 rfl (lv_at hl 0 rfl) ?_
  refine lv_iconst (v := 3) hx hb dL_law_751 (by decide) ?_
  refine lv_iadd hx hb dL_law_752 ?_
  refine r_val (v := 3) (by decide) ?_
  refine va_sld hx hb hX hbl hbA w.2.2.1 (vpi (by decide) (by decide)) dL_law_753 ?_
  refine r_val (v := xs 3) (congrArg xs (show (3 : Int32).toNatClampNeg = 3 by decide)) ?_
  refine x_Vi F w (As := [.int (xs 1), .int (xs 2), .int (xs 3)]) (rest := [.int (-1)]) (a := 146) (by decide) (sh_12 rfl _ _) rfl (c_X12_syllableAt_287 (rfl) h0 h1) gv_L_94 hv_X12_syllableAt ⟨Nat.le_of_ble_eq_true rfl, Nat.le_of_ble_eq_true rfl⟩ hl.1 rfl (Nat.le_of_ble_eq_true rfl) ⟨Nat.le_of_ble_eq_true rfl, Nat.le_of_ble_eq_true rfl⟩ dL_law_754 (fun H locs w => ?_)
  refine lv_icmp_eq (tgt := 1065) hx hb dL_law_757 (by decide) (fun _ => ?_) (fun c1 => absurd c1 (by decide))
  exact kk _ _ _ w
set_option maxRecDepth 8000 in
theorem lc_17 {p : Program} {l : Launch} {e : Env} {s : State} {m : MethodId} {below : List Frame} {meth : Method} {c : Code} {D : va_G} {B b : Nat} {cy : Nat → ClassId} {H : Heap} {locs : List Loc} {ls : Array Slot} {xs : Nat → Int32} {Q : State → Prop} (F : CallFix p m c code 4 s #[Value.ref b] TB RL) (hX : va_X b 6 xs s s.heap) (hbl : b < s.heap.size) (hbA : ¬ B ≤ b) (w : Wd D B cy s s.heap M0 H locs) (hl : lv_has ls 4 [(3, .int 0), (2, .ref (B + 146)), (1, .ref (B + 0)), (0, .ref b)]) (kk : ∀ (M1 : Mem) (H1 : Heap) (locs1 : List Loc), Wd D B cy s s.heap M1 H1 locs1 → W p l e room_1 s m #[Value.ref b] below meth c H1 locs1 159 13107 Q (F0 m 1065 ls [])) : W p l e room_1 s m #[Value.ref b] below meth c H locs 159 13107 Q (F0 m 719 ls []) := by
  rcases (show (xs 1).toInt < 0 ∨ (xs 1).toInt = 0 ∨ 0 < (xs 1).toInt by omega) with h1 | h1 | h1
  · skip
    exact la_17_60 F hX hbl hbA w hl (by rw [Int32.lt_iff_toInt_lt, show (0 : Int32).toInt = 0 from by decide]; omega) kk
  · have x1 : xs 1 = 0 := Int32.toInt_inj.mp (h1.trans (by decide))
    rcases (show (xs 2).toInt < 0 ∨ 0 ≤ (xs 2).toInt by omega) with h2 | h2
    · skip
      exact la_17_61 F hX hbl hbA w hl x1 (by rw [Int32.lt_iff_toInt_lt, show (0 : Int32).toInt = 0 from by decide]; omega) kk
    · skip
      exact la_17_62 F hX hbl hbA w hl x1 (by rw [Int32.lt_iff_toInt_lt, show (0 : Int32).toInt = 0 from by decide]; omega) (by rw [Int32.le_iff_toInt_le, show (0 : Int32).toInt = 0 from by decide]; omega) (by rw [Int32.lt_iff_toInt_lt, show (-1 : Int32).toInt = -1 from by decide]; omega) kk
  · skip
    exact la_17_63 F hX hbl hbA w hl (by rw [Int32.lt_iff_toInt_lt, show (0 : Int32).toInt = 0 from by decide]; omega) (by rw [Int32.lt_iff_toInt_lt, show (0 : Int32).toInt = 0 from by decide]; omega) kk
theorem dL_law_762 : decode cL_law 762 = .ok (.aload_n 1, 1) := by decide +kernel
theorem dL_law_763 : decode cL_law 763 = .ok (.aload_n 0, 1) := by decide +kernel
theorem dL_law_764 : decode cL_law 764 = .ok (.iload_n 3, 1) := by decide +kernel
theorem dL_law_765 : decode cL_law 765 = .ok (.iconst 1, 1) := by decide +kernel
theorem dL_law_766 : decode cL_law 766 = .ok (.iadd, 1) := by decide +kernel
theorem dL_law_767 : decode cL_law 767 = .ok (.iaload, 1) := by decide +kernel
theorem dL_law_768 : decode cL_law 768 = .ok (.aload_n 0, 1) := by decide +kernel
theorem dL_law_769 : decode cL_law 769 = .ok (.iload_n 3, 1) := by decide +kernel
theorem dL_law_770 : decode cL_law 770 = .ok (.iconst 2, 1) := by decide +kernel
theorem dL_law_771 : decode cL_law 771 = .ok (.iadd, 1) := by decide +kernel
theorem dL_law_772 : decode cL_law 772 = .ok (.iaload, 1) := by decide +kernel
theorem dL_law_773 : decode cL_law 773 = .ok (.invokevirtual 95, 3) := by decide +kernel
theorem dX11_linesOf_0 : decode cX11_linesOf 0 = .ok (.aload_n 0, 1) := by decide +kernel
theorem dX11_linesOf_1 : decode cX11_linesOf 1 = .ok (.getfield 35, 3) := by decide +kernel
theorem dX11_linesOf_4 : decode cX11_linesOf 4 = .ok (.iload_n 1, 1) := by decide +kernel
theorem dX11_linesOf_5 : decode cX11_linesOf 5 = .ok (.invokevirtual 193, 3) := by decide +kernel
theorem dX11_linesOf_8 : decode cX11_linesOf 8 = .ok (.ifCond .ne 5, 3) := by decide +kernel
theorem dX11_linesOf_11 : decode cX11_linesOf 11 = .ok (.iconst (-1), 1) := by decide +kernel
theorem dX11_linesOf_12 : decode cX11_linesOf 12 = .ok (.ireturn, 1) := by decide +kernel
set_option maxRecDepth 4000 in
theorem c_X11_linesOf_288 {l : Launch} {D : va_G} {B : Nat} {cy : Nat → ClassId} {M : Mem} {p1 : Int32} {p2 : Int32} (h0 : p1 < 0) : Ci l D B cy yX11_linesOf cX11_linesOf 4 (some .int) 1 21 [.ref (B + 0), .int p1, .int p2] M (fun r M1 => r = (-1) ∧ M1 = M) := by
  refine s_any (by decide) (Nat.le_of_ble_eq_true rfl) ?_
  intro p e s m below meth c ls F hr hlocks w hl
  have F : CallFix p m c cX11_linesOf 4 s _ TB RX11 := F
  have hx := F.1
  have hb := F.2.1
  have hl : lv_has ls 4 [(0, .ref (B + 0)), (1, .int p1), (2, .int p2)] := hl
  refine lv_aload_n hx hb dX11_linesOf_0 rfl (lv_at hl 0 rfl) ?_
  refine f_11_3 F w (a := 0) rfl tb_73 dX11_linesOf_1 ?_
  refine lv_iload_n hx hb dX11_linesOf_4 rfl (lv_at hl 1 rfl) ?_
  refine x_Vi F w (As := [.int p1]) (rest := []) (a := 22) (by decide) (sh_0 rfl _ _) rfl (c_X0_covers_203 h0) gv_X11_193 hv_X0_covers ⟨Nat.le_of_ble_eq_true rfl, Nat.le_of_ble_eq_true rfl⟩ hl.1 rfl (Nat.le_of_ble_eq_true rfl) ⟨Nat.zero_le _, Nat.zero_le _⟩ dX11_linesOf_5 (fun H locs w => ?_)
  refine lv_if_ne (tgt := 13) hx hb dX11_linesOf_8 (by decide) (fun c1 => absurd c1 (by decide)) (fun _ => ?_)
  refine lv_iconst (v := (-1)) hx hb dX11_linesOf_11 (by decide) ?_
  exact e_i F w hr hlocks ⟨rfl, rfl⟩ dX11_linesOf_12
theorem tk_X11_linesOf : Cond.code yX11_linesOf cX11_linesOf 4 (some .int) ∈ TB := tbm (tc4 (List.mem_of_getElem? (i := 172) rfl)) rfl
theorem gc_X11_linesOf : GoodIn TB (cw yX11_linesOf cX11_linesOf 4 (some .int)) := goodIn_c2 tk_X11_linesOf
theorem tb_446 : Cond.methodLink "ToneLinesLaw" 95 yX11_linesOf ∈ TB := tbm (tc4 (List.mem_of_getElem? (i := 169) rfl)) rfl
theorem tb_447 : Cond.instanceMethod yX11_linesOf ∈ TB := tbm (tc4 (List.mem_of_getElem? (i := 170) rfl)) rfl
theorem tb_448 : Cond.selects "ToneLines" yX11_linesOf yX11_linesOf ∈ TB := tbm (tc4 (List.mem_of_getElem? (i := 171) rfl)) rfl
theorem gv_L_95 : GoodIn TB (wsV RL 95 RX11 yX11_linesOf (cw yX11_linesOf cX11_linesOf 4 (some .int))) := goodIn_4 tb_446 tb_447 tb_448 tb_145 gc_X11_linesOf
theorem hv_X11_linesOf : yX11_linesOf.cls = RX11 ∧ yX11_linesOf.cls ≠ "java/lang/invoke/MethodHandle" ∧ yX11_linesOf.cls ≠ "java/lang/invoke/VarHandle" ∧ (parseMethodDescriptor yX11_linesOf.desc).map (fun d => d.parameters.length) = some 2 := by decide +kernel
theorem dL_law_776 : decode cL_law 776 = .ok (.aload_n 2, 1) := by decide +kernel
theorem dL_law_777 : decode cL_law 777 = .ok (.aload_n 0, 1) := by decide +kernel
theorem dL_law_778 : decode cL_law 778 = .ok (.iload_n 3, 1) := by decide +kernel
theorem dL_law_779 : decode cL_law 779 = .ok (.iconst 1, 1) := by decide +kernel
theorem dL_law_780 : decode cL_law 780 = .ok (.iadd, 1) := by decide +kernel
theorem dL_law_781 : decode cL_law 781 = .ok (.iaload, 1) := by decide +kernel
theorem dL_law_782 : decode cL_law 782 = .ok (.aload_n 0, 1) := by decide +kernel
theorem dL_law_783 : decode cL_law 783 = .ok (.iload_n 3, 1) := by decide +kernel
theorem dL_law_784 : decode cL_law 784 = .ok (.iconst 2, 1) := by decide +kernel
theorem dL_law_785 : decode cL_law 785 = .ok (.iadd, 1) := by decide +kernel
theorem dL_law_786 : decode cL_law 786 = .ok (.iaload, 1) := by decide +kernel
theorem dL_law_787 : decode cL_law 787 = .ok (.invokevirtual 98, 3) := by decide +kernel
theorem dX12_linesOf_0 : decode cX12_linesOf 0 = .ok (.aload_n 0, 1) := by decide +kernel
theorem dX12_linesOf_1 : decode cX12_linesOf 1 = .ok (.iload_n 1, 1) := by decide +kernel
theorem dX12_linesOf_2 : decode cX12_linesOf 2 = .ok (.invokevirtual 261, 3) := by decide +kernel
theorem dX12_linesOf_5 : decode cX12_linesOf 5 = .ok (.ifCond .eq 26, 3) := by decide +kernel
theorem dX12_linesOf_31 : decode cX12_linesOf 31 = .ok (.iconst (-1), 1) := by decide +kernel
theorem dX12_linesOf_32 : decode cX12_linesOf 32 = .ok (.ireturn, 1) := by decide +kernel
set_option maxRecDepth 4000 in
theorem c_X12_linesOf_289 {l : Launch} {D : va_G} {B : Nat} {cy : Nat → ClassId} {M : Mem} {p1 : Int32} {p2 : Int32} (h0 : M.1 146 5 = 0) (h1 : p1 < 0) : Ci l D B cy yX12_linesOf cX12_linesOf 3 (some .int) 2 43 [.ref (B + 146), .int p1, .int p2] M (fun r M1 => r = (-1) ∧ M1 = M) := by
  refine s_any (by decide) (Nat.le_of_ble_eq_true rfl) ?_
  intro p e s m below meth c ls F hr hlocks w hl
  have F : CallFix p m c cX12_linesOf 3 s _ TB RX12 := F
  have hx := F.1
  have hb := F.2.1
  have hl : lv_has ls 3 [(0, .ref (B + 146)), (1, .int p1), (2, .int p2)] := hl
  refine lv_aload_n hx hb dX12_linesOf_0 rfl (lv_at hl 0 rfl) ?_
  refine lv_iload_n hx hb dX12_linesOf_1 rfl (lv_at hl 1 rfl) ?_
  refine x_Vi F w (As := [.int p1]) (rest := []) (a := 146) (by decide) (sh_12 rfl _ _) rfl (c_X12_lays_221 (h0) h1) gv_X12_261 hv_X12_lays ⟨Nat.le_of_ble_eq_true rfl, Nat.le_of_ble_eq_true rfl⟩ hl.1 rfl (Nat.le_of_ble_eq_true rfl) ⟨Nat.zero_le _, Nat.zero_le _⟩ dX12_linesOf_2 (fun H locs w => ?_)
  refine lv_if_eq (tgt := 31) hx hb dX12_linesOf_5 (by decide) (fun _ => ?_) (fun c1 => absurd c1 (by decide))
  refine lv_iconst (v := (-1)) hx hb dX12_linesOf_31 (by decide) ?_
  exact e_i F w hr hlocks ⟨rfl, rfl⟩ dX12_linesOf_32
theorem tk_X12_linesOf : Cond.code yX12_linesOf cX12_linesOf 3 (some .int) ∈ TB := tbm (tc6 (List.mem_of_getElem? (i := 204) rfl)) rfl
theorem gc_X12_linesOf : GoodIn TB (cw yX12_linesOf cX12_linesOf 3 (some .int)) := goodIn_c2 tk_X12_linesOf
theorem tb_449 : Cond.methodLink "ToneLinesLaw" 98 yX12_linesOf ∈ TB := tbm (tc6 (List.mem_of_getElem? (i := 201) rfl)) rfl
theorem tb_450 : Cond.instanceMethod yX12_linesOf ∈ TB := tbm (tc6 (List.mem_of_getElem? (i := 202) rfl)) rfl
theorem tb_451 : Cond.selects "ToneLinesModel" yX12_linesOf yX12_linesOf ∈ TB := tbm (tc6 (List.mem_of_getElem? (i := 203) rfl)) rfl
theorem gv_L_98 : GoodIn TB (wsV RL 98 RX12 yX12_linesOf (cw yX12_linesOf cX12_linesOf 3 (some .int))) := goodIn_4 tb_449 tb_450 tb_451 tb_150 gc_X12_linesOf
theorem hv_X12_linesOf : yX12_linesOf.cls = RX12 ∧ yX12_linesOf.cls ≠ "java/lang/invoke/MethodHandle" ∧ yX12_linesOf.cls ≠ "java/lang/invoke/VarHandle" ∧ (parseMethodDescriptor yX12_linesOf.desc).map (fun d => d.parameters.length) = some 2 := by decide +kernel
theorem dL_law_790 : decode cL_law 790 = .ok (.if_icmp .eq 275, 3) := by decide +kernel
set_option maxRecDepth 8000 in
theorem la_18_64 {p : Program} {l : Launch} {e : Env} {s : State} {m : MethodId} {below : List Frame} {meth : Method} {c : Code} {D : va_G} {B b : Nat} {cy : Nat → ClassId} {H : Heap} {locs : List Loc} {ls : Array Slot} {xs : Nat → Int32} {Q : State → Prop} (F : CallFix p m c code 4 s #[Value.ref b] TB RL) (hX : va_X b 6 xs s s.heap) (hbl : b < s.heap.size) (hbA : ¬ B ≤ b) (w : Wd D B cy s s.heap M0 H locs) (hl : lv_has ls 4 [(3, .int 0), (2, .ref (B + 146)), (1, .ref (B + 0)), (0, .ref b)]) (h0 : (xs 1) < 0) (kk : ∀ (M1 : Mem) (H1 : Heap) (locs1 : List Loc), Wd D B cy s s.heap M1 H1 locs1 → W p l e room_1 s m #[Value.ref b] below meth c H1 locs1 159 13107 Q (F0 m 1065 ls [])) : W p l e room_1 s m #[Value.ref b] below meth c H locs 159 13107 Q (F0 m 762 ls []) := by
  have hx := F.1
  have hb := F.2.1
  refine lv_aload_n hx hb dL_law_762 rfl (lv_at hl 2 rfl) ?_
  refine lv_aload_n hx hb dL_law_763 rfl (lv_at hl 3 rfl) ?_
  refine lv_iload_n hx hb dL_law_764 rfl (lv_at hl 0 rfl) ?_
  refine lv_iconst (v := 1) hx hb dL_law_765 (by decide) ?_
  refine lv_iadd hx hb dL_law_766 ?_
  refine r_val (v := 1) (by decide) ?_
  refine va_sld hx hb hX hbl hbA w.2.2.1 (vpi (by decide) (by decide)) dL_law_767 ?_
  refine r_val (v := xs 1) (congrArg xs (show (1 : Int32).toNatClampNeg = 1 by decide)) ?_
  refine lv_aload_n hx hb dL_law_768 rfl (lv_at hl 3 rfl) ?_
  refine lv_iload_n hx hb dL_law_769 rfl (lv_at hl 0 rfl) ?_
  refine lv_iconst (v := 2) hx hb dL_law_770 (by decide) ?_
  refine lv_iadd hx hb dL_law_771 ?_
  refine r_val (v := 2) (by decide) ?_
  refine va_sld hx hb hX hbl hbA w.2.2.1 (vpi (by decide) (by decide)) dL_law_772 ?_
  refine r_val (v := xs 2) (congrArg xs (show (2 : Int32).toNatClampNeg = 2 by decide)) ?_
  refine x_Vi F w (As := [.int (xs 1), .int (xs 2)]) (rest := []) (a := 0) (by decide) (sh_11 rfl _ _) rfl (c_X11_linesOf_288 h0) gv_L_95 hv_X11_linesOf ⟨Nat.le_of_ble_eq_true rfl, Nat.le_of_ble_eq_true rfl⟩ hl.1 rfl (Nat.le_of_ble_eq_true rfl) ⟨Nat.le_of_ble_eq_true rfl, Nat.le_of_ble_eq_true rfl⟩ dL_law_773 (fun H locs w => ?_)
  refine lv_aload_n hx hb dL_law_776 rfl (lv_at hl 1 rfl) ?_
  refine lv_aload_n hx hb dL_law_777 rfl (lv_at hl 3 rfl) ?_
  refine lv_iload_n hx hb dL_law_778 rfl (lv_at hl 0 rfl) ?_
  refine lv_iconst (v := 1) hx hb dL_law_779 (by decide) ?_
  refine lv_iadd hx hb dL_law_780 ?_
  refine r_val (v := 1) (by decide) ?_
  refine va_sld hx hb hX hbl hbA w.2.2.1 (vpi (by decide) (by decide)) dL_law_781 ?_
  refine r_val (v := xs 1) (congrArg xs (show (1 : Int32).toNatClampNeg = 1 by decide)) ?_
  refine lv_aload_n hx hb dL_law_782 rfl (lv_at hl 3 rfl) ?_
  refine lv_iload_n hx hb dL_law_783 rfl (lv_at hl 0 rfl) ?_
  refine lv_iconst (v := 2) hx hb dL_law_784 (by decide) ?_
  refine lv_iadd hx hb dL_law_785 ?_
  refine r_val (v := 2) (by decide) ?_
  refine va_sld hx hb hX hbl hbA w.2.2.1 (vpi (by decide) (by decide)) dL_law_786 ?_
  refine r_val (v := xs 2) (congrArg xs (show (2 : Int32).toNatClampNeg = 2 by decide)) ?_
  refine x_Vi F w (As := [.int (xs 1), .int (xs 2)]) (rest := [.int (-1)]) (a := 146) (by decide) (sh_12 rfl _ _) rfl (c_X12_linesOf_289 (rfl) h0) gv_L_98 hv_X12_linesOf ⟨Nat.le_of_ble_eq_true rfl, Nat.le_of_ble_eq_true rfl⟩ hl.1 rfl (Nat.le_of_ble_eq_true rfl) ⟨Nat.le_of_ble_eq_true rfl, Nat.le_of_ble_eq_true rfl⟩ dL_law_787 (fun H locs w => ?_)
  refine lv_icmp_eq (tgt := 1065) hx hb dL_law_790 (by decide) (fun _ => ?_) (fun c1 => absurd c1 (by decide))
  exact kk _ _ _ w
theorem dX11_linesOf_13 : decode cX11_linesOf 13 = .ok (.aload_n 0, 1) := by decide +kernel
theorem dX11_linesOf_14 : decode cX11_linesOf 14 = .ok (.getfield 35, 3) := by decide +kernel
theorem dX11_linesOf_17 : decode cX11_linesOf 17 = .ok (.iload_n 1, 1) := by decide +kernel
theorem dX11_linesOf_18 : decode cX11_linesOf 18 = .ok (.invokevirtual 196, 3) := by decide +kernel
theorem dX11_linesOf_21 : decode cX11_linesOf 21 = .ok (.astore_n 3, 1) := by decide +kernel
theorem dX11_linesOf_22 : decode cX11_linesOf 22 = .ok (.aload_n 3, 1) := by decide +kernel
theorem dX11_linesOf_23 : decode cX11_linesOf 23 = .ok (.iload_n 2, 1) := by decide +kernel
theorem dX11_linesOf_24 : decode cX11_linesOf 24 = .ok (.invokevirtual 141, 3) := by decide +kernel
theorem dX11_linesOf_27 : decode cX11_linesOf 27 = .ok (.ifCond .eq 12, 3) := by decide +kernel
theorem dX11_linesOf_39 : decode cX11_linesOf 39 = .ok (.iconst (-1), 1) := by decide +kernel
theorem dX11_linesOf_40 : decode cX11_linesOf 40 = .ok (.ireturn, 1) := by decide +kernel
set_option maxRecDepth 4000 in
theorem c_X11_linesOf_290 {l : Launch} {D : va_G} {B : Nat} {cy : Nat → ClassId} {M : Mem} {p2 : Int32} (h0 : M.1 22 2 = 0) (h1 : M.1 22 7 = 0) (h2 : p2 < 0) : Ci l D B cy yX11_linesOf cX11_linesOf 4 (some .int) 2 43 [.ref (B + 0), .int 0, .int p2] M (fun r M1 => r = (-1) ∧ M1 = M) := by
  refine s_any (by decide) (Nat.le_of_ble_eq_true rfl) ?_
  intro p e s m below meth c ls F hr hlocks w hl
  have F : CallFix p m c cX11_linesOf 4 s _ TB RX11 := F
  have hx := F.1
  have hb := F.2.1
  have hl : lv_has ls 4 [(0, .ref (B + 0)), (1, .int 0), (2, .int p2)] := hl
  refine lv_aload_n hx hb dX11_linesOf_0 rfl (lv_at hl 0 rfl) ?_
  refine f_11_3 F w (a := 0) rfl tb_73 dX11_linesOf_1 ?_
  refine lv_iload_n hx hb dX11_linesOf_4 rfl (lv_at hl 1 rfl) ?_
  refine x_Vi F w (As := [.int 0]) (rest := []) (a := 22) (by decide) (sh_0 rfl _ _) rfl (c_X0_covers_206 (h0)) gv_X11_193 hv_X0_covers ⟨Nat.le_of_ble_eq_true rfl, Nat.le_of_ble_eq_true rfl⟩ hl.1 rfl (Nat.le_of_ble_eq_true rfl) ⟨Nat.zero_le _, Nat.zero_le _⟩ dX11_linesOf_5 (fun H locs w => ?_)
  refine lv_if_ne (tgt := 13) hx hb dX11_linesOf_8 (by decide) (fun _ => ?_) (fun c1 => absurd c1 (by decide))
  refine lv_aload_n hx hb dX11_linesOf_13 rfl (lv_at hl 0 rfl) ?_
  refine f_11_3 F w (a := 0) rfl tb_73 dX11_linesOf_14 ?_
  refine lv_iload_n hx hb dX11_linesOf_17 rfl (lv_at hl 1 rfl) ?_
  refine x_Vr F w (As := [.int 0]) (rest := []) (a := 22) (by decide) (sh_0 rfl _ _) rfl (c_X0_stageOf_207 (h0) (h1)) gv_X11_196 hv_X0_stageOf ⟨Nat.le_of_ble_eq_true rfl, Nat.le_of_ble_eq_true rfl⟩ hl.1 rfl (Nat.le_of_ble_eq_true rfl) ⟨Nat.zero_le _, Nat.zero_le _⟩ dX11_linesOf_18 (fun H locs w => ?_)
  refine lv_astore_n (lv' := [(3, .ref (B + 44)), (0, .ref (B + 0)), (1, .int 0), (2, .int p2)]) hx hb dX11_linesOf_21 rfl hl (by decide) rfl (fun ls hl => ?_)
  refine lv_aload_n hx hb dX11_linesOf_22 rfl (lv_at hl 0 rfl) ?_
  refine lv_iload_n hx hb dX11_linesOf_23 rfl (lv_at hl 3 rfl) ?_
  refine x_Vi F w (As := [.int p2]) (rest := []) (a := 44) (by decide) (sh_9 rfl _ _) rfl (c_X9_hasTone_92 h2) gv_X11_141 hv_X9_hasTone ⟨Nat.le_of_ble_eq_true rfl, Nat.le_of_ble_eq_true rfl⟩ hl.1 rfl (Nat.le_of_ble_eq_true rfl) ⟨Nat.zero_le _, Nat.zero_le _⟩ dX11_linesOf_24 (fun H locs w => ?_)
  refine lv_if_eq (tgt := 39) hx hb dX11_linesOf_27 (by decide) (fun _ => ?_) (fun c1 => absurd c1 (by decide))
  refine lv_iconst (v := (-1)) hx hb dX11_linesOf_39 (by decide) ?_
  exact e_i F w hr hlocks ⟨rfl, rfl⟩ dX11_linesOf_40
theorem dX12_linesOf_8 : decode cX12_linesOf 8 = .ok (.aload_n 0, 1) := by decide +kernel
theorem dX12_linesOf_9 : decode cX12_linesOf 9 = .ok (.getfield 17, 3) := by decide +kernel
theorem dX12_linesOf_12 : decode cX12_linesOf 12 = .ok (.iload_n 2, 1) := by decide +kernel
theorem dX12_linesOf_13 : decode cX12_linesOf 13 = .ok (.invokestatic 105, 3) := by decide +kernel
theorem dX12_linesOf_16 : decode cX12_linesOf 16 = .ok (.ifCond .eq 15, 3) := by decide +kernel
set_option maxRecDepth 4000 in
theorem c_X12_linesOf_291 {l : Launch} {D : va_G} {B : Nat} {cy : Nat → ClassId} {M : Mem} {p2 : Int32} (h0 : M.1 146 5 = 0) (h1 : M.1 147 0 = 0) (h2 : M.1 148 0 = 0) (h3 : M.1 147 1 = 0) (h4 : M.1 148 1 = 0) (h5 : M.1 147 2 = 0) (h6 : M.1 148 2 = 0) (h7 : M.1 147 3 = 0) (h8 : M.1 148 3 = 0) (h9 : M.1 147 4 = 0) (h10 : M.1 148 4 = 0) (h11 : M.1 147 5 = 0) (h12 : M.1 148 5 = 0) (h13 : M.1 147 6 = 0) (h14 : M.1 148 6 = 0) (h15 : M.1 147 7 = 0) (h16 : M.1 148 7 = 0) (h17 : M.1 147 8 = 0) (h18 : M.1 148 8 = 0) (h19 : M.1 147 9 = 0) (h20 : M.1 148 9 = 0) (h21 : M.1 147 10 = 0) (h22 : M.1 148 10 = 0) (h23 : M.1 147 11 = 0) (h24 : M.1 148 11 = 0) (h25 : M.1 147 12 = 0) (h26 : M.1 148 12 = 0) (h27 : M.1 147 13 = 0) (h28 : M.1 148 13 = 0) (h29 : M.1 147 14 = 0) (h30 : M.1 148 14 = 0) (h31 : M.1 147 15 = 0) (h32 : M.1 148 15 = 0) (h33 : M.1 147 16 = 0) (h34 : M.1 148 16 = 0) (h35 : M.1 147 17 = 0) (h36 : M.1 148 17 = 0) (h37 : M.1 147 18 = 0) (h38 : M.1 148 18 = 0) (h39 : M.1 147 19 = 0) (h40 : M.1 148 19 = 0) (h41 : M.1 147 20 = 0) (h42 : M.1 148 20 = 0) (h43 : M.1 147 21 = 0) (h44 : M.1 148 21 = 0) (h45 : M.1 147 22 = 0) (h46 : M.1 148 22 = 0) (h47 : M.1 147 23 = 0) (h48 : M.1 148 23 = 0) (h49 : M.1 147 24 = 0) (h50 : M.1 148 24 = 0) (h51 : M.1 147 25 = 0) (h52 : M.1 148 25 = 0) (h53 : M.1 147 26 = 0) (h54 : M.1 148 26 = 0) (h55 : M.1 147 27 = 0) (h56 : M.1 148 27 = 0) (h57 : p2 < 0) : Ci l D B cy yX12_linesOf cX12_linesOf 3 (some .int) 3 66 [.ref (B + 146), .int 0, .int p2] M (fun r M1 => r = (-1) ∧ M1 = M) := by
  refine s_any (by decide) (Nat.le_of_ble_eq_true rfl) ?_
  intro p e s m below meth c ls F hr hlocks w hl
  have F : CallFix p m c cX12_linesOf 3 s _ TB RX12 := F
  have hx := F.1
  have hb := F.2.1
  have hl : lv_has ls 3 [(0, .ref (B + 146)), (1, .int 0), (2, .int p2)] := hl
  refine lv_aload_n hx hb dX12_linesOf_0 rfl (lv_at hl 0 rfl) ?_
  refine lv_iload_n hx hb dX12_linesOf_1 rfl (lv_at hl 1 rfl) ?_
  refine x_Vi F w (As := [.int 0]) (rest := []) (a := 146) (by decide) (sh_12 rfl _ _) rfl (c_X12_lays_224 (h0) (h1) (h2) (h3) (h4) (h5) (h6) (h7) (h8) (h9) (h10) (h11) (h12) (h13) (h14) (h15) (h16) (h17) (h18) (h19) (h20) (h21) (h22) (h23) (h24) (h25) (h26) (h27) (h28) (h29) (h30) (h31) (h32) (h33) (h34) (h35) (h36) (h37) (h38) (h39) (h40) (h41) (h42) (h43) (h44) (h45) (h46) (h47) (h48) (h49) (h50) (h51) (h52) (h53) (h54) (h55) (h56)) gv_X12_261 hv_X12_lays ⟨Nat.le_of_ble_eq_true rfl, Nat.le_of_ble_eq_true rfl⟩ hl.1 rfl (Nat.le_of_ble_eq_true rfl) ⟨Nat.zero_le _, Nat.zero_le _⟩ dX12_linesOf_2 (fun H locs w => ?_)
  refine lv_if_eq (tgt := 31) hx hb dX12_linesOf_5 (by decide) (fun c1 => absurd c1 (by decide)) (fun _ => ?_)
  refine lv_aload_n hx hb dX12_linesOf_8 rfl (lv_at hl 0 rfl) ?_
  refine f_12_2 F w (a := 146) rfl tb_127 dX12_linesOf_9 ?_
  refine lv_iload_n hx hb dX12_linesOf_12 rfl (lv_at hl 2 rfl) ?_
  refine x_Si F w (As := [.ref (B + 148), .int p2]) (rest := []) (c_X12_isTone_267 (h2) h57) gs_X12_105 hs_X12_isTone ⟨Nat.le_of_ble_eq_true rfl, Nat.le_of_ble_eq_true rfl⟩ hl.1 rfl (Nat.le_of_ble_eq_true rfl) ⟨Nat.zero_le _, Nat.zero_le _⟩ dX12_linesOf_13 (fun H locs w => ?_)
  refine lv_if_eq (tgt := 31) hx hb dX12_linesOf_16 (by decide) (fun _ => ?_) (fun c1 => absurd c1 (by decide))
  refine lv_iconst (v := (-1)) hx hb dX12_linesOf_31 (by decide) ?_
  exact e_i F w hr hlocks ⟨rfl, rfl⟩ dX12_linesOf_32
set_option maxRecDepth 8000 in
theorem la_18_65 {p : Program} {l : Launch} {e : Env} {s : State} {m : MethodId} {below : List Frame} {meth : Method} {c : Code} {D : va_G} {B b : Nat} {cy : Nat → ClassId} {H : Heap} {locs : List Loc} {ls : Array Slot} {xs : Nat → Int32} {Q : State → Prop} (F : CallFix p m c code 4 s #[Value.ref b] TB RL) (hX : va_X b 6 xs s s.heap) (hbl : b < s.heap.size) (hbA : ¬ B ≤ b) (w : Wd D B cy s s.heap M0 H locs) (hl : lv_has ls 4 [(3, .int 0), (2, .ref (B + 146)), (1, .ref (B + 0)), (0, .ref b)]) (x1 : xs 1 = 0) (h0 : (xs 2) < 0) (kk : ∀ (M1 : Mem) (H1 : Heap) (locs1 : List Loc), Wd D B cy s s.heap M1 H1 locs1 → W p l e room_1 s m #[Value.ref b] below meth c H1 locs1 159 13107 Q (F0 m 1065 ls [])) : W p l e room_1 s m #[Value.ref b] below meth c H locs 159 13107 Q (F0 m 762 ls []) := by
  have hx := F.1
  have hb := F.2.1
  refine lv_aload_n hx hb dL_law_762 rfl (lv_at hl 2 rfl) ?_
  refine lv_aload_n hx hb dL_law_763 rfl (lv_at hl 3 rfl) ?_
  refine lv_iload_n hx hb dL_law_764 rfl (lv_at hl 0 rfl) ?_
  refine lv_iconst (v := 1) hx hb dL_law_765 (by decide) ?_
  refine lv_iadd hx hb dL_law_766 ?_
  refine r_val (v := 1) (by decide) ?_
  refine va_sld hx hb hX hbl hbA w.2.2.1 (vpi (by decide) (by decide)) dL_law_767 ?_
  refine r_val (v := 0) ((congrArg xs (show (1 : Int32).toNatClampNeg = 1 by decide)).trans x1) ?_
  refine lv_aload_n hx hb dL_law_768 rfl (lv_at hl 3 rfl) ?_
  refine lv_iload_n hx hb dL_law_769 rfl (lv_at hl 0 rfl) ?_
  refine lv_iconst (v := 2) hx hb dL_law_770 (by decide) ?_
  refine lv_iadd hx hb dL_law_771 ?_
  refine r_val (v := 2) (by decide) ?_
  refine va_sld hx hb hX hbl hbA w.2.2.1 (vpi (by decide) (by decide)) dL_law_772 ?_
  refine r_val (v := xs 2) (congrArg xs (show (2 : Int32).toNatClampNeg = 2 by decide)) ?_
  refine x_Vi F w (As := [.int 0, .int (xs 2)]) (rest := []) (a := 0) (by decide) (sh_11 rfl _ _) rfl (c_X11_linesOf_290 (rfl) (rfl) h0) gv_L_95 hv_X11_linesOf ⟨Nat.le_of_ble_eq_true rfl, Nat.le_of_ble_eq_true rfl⟩ hl.1 rfl (Nat.le_of_ble_eq_true rfl) ⟨Nat.le_of_ble_eq_true rfl, Nat.le_of_ble_eq_true rfl⟩ dL_law_773 (fun H locs w => ?_)
  refine lv_aload_n hx hb dL_law_776 rfl (lv_at hl 1 rfl) ?_
  refine lv_aload_n hx hb dL_law_777 rfl (lv_at hl 3 rfl) ?_
  refine lv_iload_n hx hb dL_law_778 rfl (lv_at hl 0 rfl) ?_
  refine lv_iconst (v := 1) hx hb dL_law_779 (by decide) ?_
  refine lv_iadd hx hb dL_law_780 ?_
  refine r_val (v := 1) (by decide) ?_
  refine va_sld hx hb hX hbl hbA w.2.2.1 (vpi (by decide) (by decide)) dL_law_781 ?_
  refine r_val (v := 0) ((congrArg xs (show (1 : Int32).toNatClampNeg = 1 by decide)).trans x1) ?_
  refine lv_aload_n hx hb dL_law_782 rfl (lv_at hl 3 rfl) ?_
  refine lv_iload_n hx hb dL_law_783 rfl (lv_at hl 0 rfl) ?_
  refine lv_iconst (v := 2) hx hb dL_law_784 (by decide) ?_
  refine lv_iadd hx hb dL_law_785 ?_
  refine r_val (v := 2) (by decide) ?_
  refine va_sld hx hb hX hbl hbA w.2.2.1 (vpi (by decide) (by decide)) dL_law_786 ?_
  refine r_val (v := xs 2) (congrArg xs (show (2 : Int32).toNatClampNeg = 2 by decide)) ?_
  refine x_Vi F w (As := [.int 0, .int (xs 2)]) (rest := [.int (-1)]) (a := 146) (by decide) (sh_12 rfl _ _) rfl (c_X12_linesOf_291 (rfl) (rfl) (rfl) (rfl) (rfl) (rfl) (rfl) (rfl) (rfl) (rfl) (rfl) (rfl) (rfl) (rfl) (rfl) (rfl) (rfl) (rfl) (rfl) (rfl) (rfl) (rfl) (rfl) (rfl) (rfl) (rfl) (rfl) (rfl) (rfl) (rfl) (rfl) (rfl) (rfl) (rfl) (rfl) (rfl) (rfl) (rfl) (rfl) (rfl) (rfl) (rfl) (rfl) (rfl) (rfl) (rfl) (rfl) (rfl) (rfl) (rfl) (rfl) (rfl) (rfl) (rfl) (rfl) (rfl) (rfl) h0) gv_L_98 hv_X12_linesOf ⟨Nat.le_of_ble_eq_true rfl, Nat.le_of_ble_eq_true rfl⟩ hl.1 rfl (Nat.le_of_ble_eq_true rfl) ⟨Nat.le_of_ble_eq_true rfl, Nat.le_of_ble_eq_true rfl⟩ dL_law_787 (fun H locs w => ?_)
  refine lv_icmp_eq (tgt := 1065) hx hb dL_law_790 (by decide) (fun _ => ?_) (fun c1 => absurd c1 (by decide))
  exact kk _ _ _ w
set_option maxRecDepth 4000 in
theorem c_X11_linesOf_292 {l : Launch} {D : va_G} {B : Nat} {cy : Nat → ClassId} {M : Mem} {p2 : Int32} (h0 : M.1 22 2 = 0) (h1 : M.1 22 7 = 0) (h2 : ¬ p2 < 0) (h3 : M.1 44 0 = 0) (h4 : 0 ≤ p2) : Ci l D B cy yX11_linesOf cX11_linesOf 4 (some .int) 2 43 [.ref (B + 0), .int 0, .int p2] M (fun r M1 => r = (-1) ∧ M1 = M) := by
  refine s_any (by decide) (Nat.le_of_ble_eq_true rfl) ?_
  intro p e s m below meth c ls F hr hlocks w hl
  have F : CallFix p m c cX11_linesOf 4 s _ TB RX11 := F
  have hx := F.1
  have hb := F.2.1
  have hl : lv_has ls 4 [(0, .ref (B + 0)), (1, .int 0), (2, .int p2)] := hl
  refine lv_aload_n hx hb dX11_linesOf_0 rfl (lv_at hl 0 rfl) ?_
  refine f_11_3 F w (a := 0) rfl tb_73 dX11_linesOf_1 ?_
  refine lv_iload_n hx hb dX11_linesOf_4 rfl (lv_at hl 1 rfl) ?_
  refine x_Vi F w (As := [.int 0]) (rest := []) (a := 22) (by decide) (sh_0 rfl _ _) rfl (c_X0_covers_206 (h0)) gv_X11_193 hv_X0_covers ⟨Nat.le_of_ble_eq_true rfl, Nat.le_of_ble_eq_true rfl⟩ hl.1 rfl (Nat.le_of_ble_eq_true rfl) ⟨Nat.zero_le _, Nat.zero_le _⟩ dX11_linesOf_5 (fun H locs w => ?_)
  refine lv_if_ne (tgt := 13) hx hb dX11_linesOf_8 (by decide) (fun _ => ?_) (fun c1 => absurd c1 (by decide))
  refine lv_aload_n hx hb dX11_linesOf_13 rfl (lv_at hl 0 rfl) ?_
  refine f_11_3 F w (a := 0) rfl tb_73 dX11_linesOf_14 ?_
  refine lv_iload_n hx hb dX11_linesOf_17 rfl (lv_at hl 1 rfl) ?_
  refine x_Vr F w (As := [.int 0]) (rest := []) (a := 22) (by decide) (sh_0 rfl _ _) rfl (c_X0_stageOf_207 (h0) (h1)) gv_X11_196 hv_X0_stageOf ⟨Nat.le_of_ble_eq_true rfl, Nat.le_of_ble_eq_true rfl⟩ hl.1 rfl (Nat.le_of_ble_eq_true rfl) ⟨Nat.zero_le _, Nat.zero_le _⟩ dX11_linesOf_18 (fun H locs w => ?_)
  refine lv_astore_n (lv' := [(3, .ref (B + 44)), (0, .ref (B + 0)), (1, .int 0), (2, .int p2)]) hx hb dX11_linesOf_21 rfl hl (by decide) rfl (fun ls hl => ?_)
  refine lv_aload_n hx hb dX11_linesOf_22 rfl (lv_at hl 0 rfl) ?_
  refine lv_iload_n hx hb dX11_linesOf_23 rfl (lv_at hl 3 rfl) ?_
  refine x_Vi F w (As := [.int p2]) (rest := []) (a := 44) (by decide) (sh_9 rfl _ _) rfl (c_X9_hasTone_98 h2 (h3) h4) gv_X11_141 hv_X9_hasTone ⟨Nat.le_of_ble_eq_true rfl, Nat.le_of_ble_eq_true rfl⟩ hl.1 rfl (Nat.le_of_ble_eq_true rfl) ⟨Nat.zero_le _, Nat.zero_le _⟩ dX11_linesOf_24 (fun H locs w => ?_)
  refine lv_if_eq (tgt := 39) hx hb dX11_linesOf_27 (by decide) (fun _ => ?_) (fun c1 => absurd c1 (by decide))
  refine lv_iconst (v := (-1)) hx hb dX11_linesOf_39 (by decide) ?_
  exact e_i F w hr hlocks ⟨rfl, rfl⟩ dX11_linesOf_40
set_option maxRecDepth 4000 in
theorem c_X12_linesOf_293 {l : Launch} {D : va_G} {B : Nat} {cy : Nat → ClassId} {M : Mem} {p2 : Int32} (h0 : M.1 146 5 = 0) (h1 : M.1 147 0 = 0) (h2 : M.1 148 0 = 0) (h3 : M.1 147 1 = 0) (h4 : M.1 148 1 = 0) (h5 : M.1 147 2 = 0) (h6 : M.1 148 2 = 0) (h7 : M.1 147 3 = 0) (h8 : M.1 148 3 = 0) (h9 : M.1 147 4 = 0) (h10 : M.1 148 4 = 0) (h11 : M.1 147 5 = 0) (h12 : M.1 148 5 = 0) (h13 : M.1 147 6 = 0) (h14 : M.1 148 6 = 0) (h15 : M.1 147 7 = 0) (h16 : M.1 148 7 = 0) (h17 : M.1 147 8 = 0) (h18 : M.1 148 8 = 0) (h19 : M.1 147 9 = 0) (h20 : M.1 148 9 = 0) (h21 : M.1 147 10 = 0) (h22 : M.1 148 10 = 0) (h23 : M.1 147 11 = 0) (h24 : M.1 148 11 = 0) (h25 : M.1 147 12 = 0) (h26 : M.1 148 12 = 0) (h27 : M.1 147 13 = 0) (h28 : M.1 148 13 = 0) (h29 : M.1 147 14 = 0) (h30 : M.1 148 14 = 0) (h31 : M.1 147 15 = 0) (h32 : M.1 148 15 = 0) (h33 : M.1 147 16 = 0) (h34 : M.1 148 16 = 0) (h35 : M.1 147 17 = 0) (h36 : M.1 148 17 = 0) (h37 : M.1 147 18 = 0) (h38 : M.1 148 18 = 0) (h39 : M.1 147 19 = 0) (h40 : M.1 148 19 = 0) (h41 : M.1 147 20 = 0) (h42 : M.1 148 20 = 0) (h43 : M.1 147 21 = 0) (h44 : M.1 148 21 = 0) (h45 : M.1 147 22 = 0) (h46 : M.1 148 22 = 0) (h47 : M.1 147 23 = 0) (h48 : M.1 148 23 = 0) (h49 : M.1 147 24 = 0) (h50 : M.1 148 24 = 0) (h51 : M.1 147 25 = 0) (h52 : M.1 148 25 = 0) (h53 : M.1 147 26 = 0) (h54 : M.1 148 26 = 0) (h55 : M.1 147 27 = 0) (h56 : M.1 148 27 = 0) (h57 : ¬ p2 < 0) (h58 : (-1) < p2) : Ci l D B cy yX12_linesOf cX12_linesOf 3 (some .int) 3 66 [.ref (B + 146), .int 0, .int p2] M (fun r M1 => r = (-1) ∧ M1 = M) := by
  refine s_any (by decide) (Nat.le_of_ble_eq_true rfl) ?_
  intro p e s m below meth c ls F hr hlocks w hl
  have F : CallFix p m c cX12_linesOf 3 s _ TB RX12 := F
  have hx := F.1
  have hb := F.2.1
  have hl : lv_has ls 3 [(0, .ref (B + 146)), (1, .int 0), (2, .int p2)] := hl
  refine lv_aload_n hx hb dX12_linesOf_0 rfl (lv_at hl 0 rfl) ?_
  refine lv_iload_n hx hb dX12_linesOf_1 rfl (lv_at hl 1 rfl) ?_
  refine x_Vi F w (As := [.int 0]) (rest := []) (a := 146) (by decide) (sh_12 rfl _ _) rfl (c_X12_lays_224 (h0) (h1) (h2) (h3) (h4) (h5) (h6) (h7) (h8) (h9) (h10) (h11) (h12) (h13) (h14) (h15) (h16) (h17) (h18) (h19) (h20) (h21) (h22) (h23) (h24) (h25) (h26) (h27) (h28) (h29) (h30) (h31) (h32) (h33) (h34) (h35) (h36) (h37) (h38) (h39) (h40) (h41) (h42) (h43) (h44) (h45) (h46) (h47) (h48) (h49) (h50) (h51) (h52) (h53) (h54) (h55) (h56)) gv_X12_261 hv_X12_lays ⟨Nat.le_of_ble_eq_true rfl, Nat.le_of_ble_eq_true rfl⟩ hl.1 rfl (Nat.le_of_ble_eq_true rfl) ⟨Nat.zero_le _, Nat.zero_le _⟩ dX12_linesOf_2 (fun H locs w => ?_)
  refine lv_if_eq (tgt := 31) hx hb dX12_linesOf_5 (by decide) (fun c1 => absurd c1 (by decide)) (fun _ => ?_)
  refine lv_aload_n hx hb dX12_linesOf_8 rfl (lv_at hl 0 rfl) ?_
  refine f_12_2 F w (a := 146) rfl tb_127 dX12_linesOf_9 ?_
  refine lv_iload_n hx hb dX12_linesOf_12 rfl (lv_at hl 2 rfl) ?_
  refine x_Si F w (As := [.ref (B + 148), .int p2]) (rest := []) (c_X12_isTone_272 (h2) h57 h58) gs_X12_105 hs_X12_isTone ⟨Nat.le_of_ble_eq_true rfl, Nat.le_of_ble_eq_true rfl⟩ hl.1 rfl (Nat.le_of_ble_eq_true rfl) ⟨Nat.zero_le _, Nat.zero_le _⟩ dX12_linesOf_13 (fun H locs w => ?_)
  refine lv_if_eq (tgt := 31) hx hb dX12_linesOf_16 (by decide) (fun _ => ?_) (fun c1 => absurd c1 (by decide))
  refine lv_iconst (v := (-1)) hx hb dX12_linesOf_31 (by decide) ?_
  exact e_i F w hr hlocks ⟨rfl, rfl⟩ dX12_linesOf_32
set_option maxRecDepth 8000 in
theorem la_18_66 {p : Program} {l : Launch} {e : Env} {s : State} {m : MethodId} {below : List Frame} {meth : Method} {c : Code} {D : va_G} {B b : Nat} {cy : Nat → ClassId} {H : Heap} {locs : List Loc} {ls : Array Slot} {xs : Nat → Int32} {Q : State → Prop} (F : CallFix p m c code 4 s #[Value.ref b] TB RL) (hX : va_X b 6 xs s s.heap) (hbl : b < s.heap.size) (hbA : ¬ B ≤ b) (w : Wd D B cy s s.heap M0 H locs) (hl : lv_has ls 4 [(3, .int 0), (2, .ref (B + 146)), (1, .ref (B + 0)), (0, .ref b)]) (x1 : xs 1 = 0) (h0 : ¬ (xs 2) < 0) (h1 : 0 ≤ (xs 2)) (h2 : (-1) < (xs 2)) (kk : ∀ (M1 : Mem) (H1 : Heap) (locs1 : List Loc), Wd D B cy s s.heap M1 H1 locs1 → W p l e room_1 s m #[Value.ref b] below meth c H1 locs1 159 13107 Q (F0 m 1065 ls [])) : W p l e room_1 s m #[Value.ref b] below meth c H locs 159 13107 Q (F0 m 762 ls []) := by
  have hx := F.1
  have hb := F.2.1
  refine lv_aload_n hx hb dL_law_762 rfl (lv_at hl 2 rfl) ?_
  refine lv_aload_n hx hb dL_law_763 rfl (lv_at hl 3 rfl) ?_
  refine lv_iload_n hx hb dL_law_764 rfl (lv_at hl 0 rfl) ?_
  refine lv_iconst (v := 1) hx hb dL_law_765 (by decide) ?_
  refine lv_iadd hx hb dL_law_766 ?_
  refine r_val (v := 1) (by decide) ?_
  refine va_sld hx hb hX hbl hbA w.2.2.1 (vpi (by decide) (by decide)) dL_law_767 ?_
  refine r_val (v := 0) ((congrArg xs (show (1 : Int32).toNatClampNeg = 1 by decide)).trans x1) ?_
  refine lv_aload_n hx hb dL_law_768 rfl (lv_at hl 3 rfl) ?_
  refine lv_iload_n hx hb dL_law_769 rfl (lv_at hl 0 rfl) ?_
  refine lv_iconst (v := 2) hx hb dL_law_770 (by decide) ?_
  refine lv_iadd hx hb dL_law_771 ?_
  refine r_val (v := 2) (by decide) ?_
  refine va_sld hx hb hX hbl hbA w.2.2.1 (vpi (by decide) (by decide)) dL_law_772 ?_
  refine r_val (v := xs 2) (congrArg xs (show (2 : Int32).toNatClampNeg = 2 by decide)) ?_
  refine x_Vi F w (As := [.int 0, .int (xs 2)]) (rest := []) (a := 0) (by decide) (sh_11 rfl _ _) rfl (c_X11_linesOf_292 (rfl) (rfl) h0 (rfl) h1) gv_L_95 hv_X11_linesOf ⟨Nat.le_of_ble_eq_true rfl, Nat.le_of_ble_eq_true rfl⟩ hl.1 rfl (Nat.le_of_ble_eq_true rfl) ⟨Nat.le_of_ble_eq_true rfl, Nat.le_of_ble_eq_true rfl⟩ dL_law_773 (fun H locs w => ?_)
  refine lv_aload_n hx hb dL_law_776 rfl (lv_at hl 1 rfl) ?_
  refine lv_aload_n hx hb dL_law_777 rfl (lv_at hl 3 rfl) ?_
  refine lv_iload_n hx hb dL_law_778 rfl (lv_at hl 0 rfl) ?_
  refine lv_iconst (v := 1) hx hb dL_law_779 (by decide) ?_
  refine lv_iadd hx hb dL_law_780 ?_
  refine r_val (v := 1) (by decide) ?_
  refine va_sld hx hb hX hbl hbA w.2.2.1 (vpi (by decide) (by decide)) dL_law_781 ?_
  refine r_val (v := 0) ((congrArg xs (show (1 : Int32).toNatClampNeg = 1 by decide)).trans x1) ?_
  refine lv_aload_n hx hb dL_law_782 rfl (lv_at hl 3 rfl) ?_
  refine lv_iload_n hx hb dL_law_783 rfl (lv_at hl 0 rfl) ?_
  refine lv_iconst (v := 2) hx hb dL_law_784 (by decide) ?_
  refine lv_iadd hx hb dL_law_785 ?_
  refine r_val (v := 2) (by decide) ?_
  refine va_sld hx hb hX hbl hbA w.2.2.1 (vpi (by decide) (by decide)) dL_law_786 ?_
  refine r_val (v := xs 2) (congrArg xs (show (2 : Int32).toNatClampNeg = 2 by decide)) ?_
  refine x_Vi F w (As := [.int 0, .int (xs 2)]) (rest := [.int (-1)]) (a := 146) (by decide) (sh_12 rfl _ _) rfl (c_X12_linesOf_293 (rfl) (rfl) (rfl) (rfl) (rfl) (rfl) (rfl) (rfl) (rfl) (rfl) (rfl) (rfl) (rfl) (rfl) (rfl) (rfl) (rfl) (rfl) (rfl) (rfl) (rfl) (rfl) (rfl) (rfl) (rfl) (rfl) (rfl) (rfl) (rfl) (rfl) (rfl) (rfl) (rfl) (rfl) (rfl) (rfl) (rfl) (rfl) (rfl) (rfl) (rfl) (rfl) (rfl) (rfl) (rfl) (rfl) (rfl) (rfl) (rfl) (rfl) (rfl) (rfl) (rfl) (rfl) (rfl) (rfl) (rfl) h0 h2) gv_L_98 hv_X12_linesOf ⟨Nat.le_of_ble_eq_true rfl, Nat.le_of_ble_eq_true rfl⟩ hl.1 rfl (Nat.le_of_ble_eq_true rfl) ⟨Nat.le_of_ble_eq_true rfl, Nat.le_of_ble_eq_true rfl⟩ dL_law_787 (fun H locs w => ?_)
  refine lv_icmp_eq (tgt := 1065) hx hb dL_law_790 (by decide) (fun _ => ?_) (fun c1 => absurd c1 (by decide))
  exact kk _ _ _ w
set_option maxRecDepth 4000 in
theorem c_X11_linesOf_294 {l : Launch} {D : va_G} {B : Nat} {cy : Nat → ClassId} {M : Mem} {p1 : Int32} {p2 : Int32} (h0 : ¬ p1 < 0) (h1 : M.1 22 2 = 0) (h2 : 0 < p1) : Ci l D B cy yX11_linesOf cX11_linesOf 4 (some .int) 1 21 [.ref (B + 0), .int p1, .int p2] M (fun r M1 => r = (-1) ∧ M1 = M) := by
  refine s_any (by decide) (Nat.le_of_ble_eq_true rfl) ?_
  intro p e s m below meth c ls F hr hlocks w hl
  have F : CallFix p m c cX11_linesOf 4 s _ TB RX11 := F
  have hx := F.1
  have hb := F.2.1
  have hl : lv_has ls 4 [(0, .ref (B + 0)), (1, .int p1), (2, .int p2)] := hl
  refine lv_aload_n hx hb dX11_linesOf_0 rfl (lv_at hl 0 rfl) ?_
  refine f_11_3 F w (a := 0) rfl tb_73 dX11_linesOf_1 ?_
  refine lv_iload_n hx hb dX11_linesOf_4 rfl (lv_at hl 1 rfl) ?_
  refine x_Vi F w (As := [.int p1]) (rest := []) (a := 22) (by decide) (sh_0 rfl _ _) rfl (c_X0_covers_215 h0 (h1) h2) gv_X11_193 hv_X0_covers ⟨Nat.le_of_ble_eq_true rfl, Nat.le_of_ble_eq_true rfl⟩ hl.1 rfl (Nat.le_of_ble_eq_true rfl) ⟨Nat.zero_le _, Nat.zero_le _⟩ dX11_linesOf_5 (fun H locs w => ?_)
  refine lv_if_ne (tgt := 13) hx hb dX11_linesOf_8 (by decide) (fun c1 => absurd c1 (by decide)) (fun _ => ?_)
  refine lv_iconst (v := (-1)) hx hb dX11_linesOf_11 (by decide) ?_
  exact e_i F w hr hlocks ⟨rfl, rfl⟩ dX11_linesOf_12
set_option maxRecDepth 4000 in
theorem c_X12_linesOf_295 {l : Launch} {D : va_G} {B : Nat} {cy : Nat → ClassId} {M : Mem} {p1 : Int32} {p2 : Int32} (h0 : M.1 146 5 = 0) (h1 : ¬ p1 < 0) (h2 : 0 < p1) : Ci l D B cy yX12_linesOf cX12_linesOf 3 (some .int) 2 43 [.ref (B + 146), .int p1, .int p2] M (fun r M1 => r = (-1) ∧ M1 = M) := by
  refine s_any (by decide) (Nat.le_of_ble_eq_true rfl) ?_
  intro p e s m below meth c ls F hr hlocks w hl
  have F : CallFix p m c cX12_linesOf 3 s _ TB RX12 := F
  have hx := F.1
  have hb := F.2.1
  have hl : lv_has ls 3 [(0, .ref (B + 146)), (1, .int p1), (2, .int p2)] := hl
  refine lv_aload_n hx hb dX12_linesOf_0 rfl (lv_at hl 0 rfl) ?_
  refine lv_iload_n hx hb dX12_linesOf_1 rfl (lv_at hl 1 rfl) ?_
  refine x_Vi F w (As := [.int p1]) (rest := []) (a := 146) (by decide) (sh_12 rfl _ _) rfl (c_X12_lays_262 (h0) h1 h2) gv_X12_261 hv_X12_lays ⟨Nat.le_of_ble_eq_true rfl, Nat.le_of_ble_eq_true rfl⟩ hl.1 rfl (Nat.le_of_ble_eq_true rfl) ⟨Nat.zero_le _, Nat.zero_le _⟩ dX12_linesOf_2 (fun H locs w => ?_)
  refine lv_if_eq (tgt := 31) hx hb dX12_linesOf_5 (by decide) (fun _ => ?_) (fun c1 => absurd c1 (by decide))
  refine lv_iconst (v := (-1)) hx hb dX12_linesOf_31 (by decide) ?_
  exact e_i F w hr hlocks ⟨rfl, rfl⟩ dX12_linesOf_32
set_option maxRecDepth 8000 in
theorem la_18_67 {p : Program} {l : Launch} {e : Env} {s : State} {m : MethodId} {below : List Frame} {meth : Method} {c : Code} {D : va_G} {B b : Nat} {cy : Nat → ClassId} {H : Heap} {locs : List Loc} {ls : Array Slot} {xs : Nat → Int32} {Q : State → Prop} (F : CallFix p m c code 4 s #[Value.ref b] TB RL) (hX : va_X b 6 xs s s.heap) (hbl : b < s.heap.size) (hbA : ¬ B ≤ b) (w : Wd D B cy s s.heap M0 H locs) (hl : lv_has ls 4 [(3, .int 0), (2, .ref (B + 146)), (1, .ref (B + 0)), (0, .ref b)]) (h0 : ¬ (xs 1) < 0) (h1 : 0 < (xs 1)) (kk : ∀ (M1 : Mem) (H1 : Heap) (locs1 : List Loc), Wd D B cy s s.heap M1 H1 locs1 → W p l e room_1 s m #[Value.ref b] below meth c H1 locs1 159 13107 Q (F0 m 1065 ls [])) : W p l e room_1 s m #[Value.ref b] below meth c H locs 159 13107 Q (F0 m 762 ls []) := by
  have hx := F.1
  have hb := F.2.1
  refine lv_aload_n hx hb dL_law_762 rfl (lv_at hl 2 rfl) ?_
  refine lv_aload_n hx hb dL_law_763 rfl (lv_at hl 3 rfl) ?_
  refine lv_iload_n hx hb dL_law_764 rfl (lv_at hl 0 rfl) ?_
  refine lv_iconst (v := 1) hx hb dL_law_765 (by decide) ?_
  refine lv_iadd hx hb dL_law_766 ?_
  refine r_val (v := 1) (by decide) ?_
  refine va_sld hx hb hX hbl hbA w.2.2.1 (vpi (by decide) (by decide)) dL_law_767 ?_
  refine r_val (v := xs 1) (congrArg xs (show (1 : Int32).toNatClampNeg = 1 by decide)) ?_
  refine lv_aload_n hx hb dL_law_768 rfl (lv_at hl 3 rfl) ?_
  refine lv_iload_n hx hb dL_law_769 rfl (lv_at hl 0 rfl) ?_
  refine lv_iconst (v := 2) hx hb dL_law_770 (by decide) ?_
  refine lv_iadd hx hb dL_law_771 ?_
  refine r_val (v := 2) (by decide) ?_
  refine va_sld hx hb hX hbl hbA w.2.2.1 (vpi (by decide) (by decide)) dL_law_772 ?_
  refine r_val (v := xs 2) (congrArg xs (show (2 : Int32).toNatClampNeg = 2 by decide)) ?_
  refine x_Vi F w (As := [.int (xs 1), .int (xs 2)]) (rest := []) (a := 0) (by decide) (sh_11 rfl _ _) rfl (c_X11_linesOf_294 h0 (rfl) h1) gv_L_95 hv_X11_linesOf ⟨Nat.le_of_ble_eq_true rfl, Nat.le_of_ble_eq_true rfl⟩ hl.1 rfl (Nat.le_of_ble_eq_true rfl) ⟨Nat.le_of_ble_eq_true rfl, Nat.le_of_ble_eq_true rfl⟩ dL_law_773 (fun H locs w => ?_)
  refine lv_aload_n hx hb dL_law_776 rfl (lv_at hl 1 rfl) ?_
  refine lv_aload_n hx hb dL_law_777 rfl (lv_at hl 3 rfl) ?_
  refine lv_iload_n hx hb dL_law_778 rfl (lv_at hl 0 rfl) ?_
  refine lv_iconst (v := 1) hx hb dL_law_779 (by decide) ?_
  refine lv_iadd hx hb dL_law_780 ?_
  refine r_val (v := 1) (by decide) ?_
  refine va_sld hx hb hX hbl hbA w.2.2.1 (vpi (by decide) (by decide)) dL_law_781 ?_
  refine r_val (v := xs 1) (congrArg xs (show (1 : Int32).toNatClampNeg = 1 by decide)) ?_
  refine lv_aload_n hx hb dL_law_782 rfl (lv_at hl 3 rfl) ?_
  refine lv_iload_n hx hb dL_law_783 rfl (lv_at hl 0 rfl) ?_
  refine lv_iconst (v := 2) hx hb dL_law_784 (by decide) ?_
  refine lv_iadd hx hb dL_law_785 ?_
  refine r_val (v := 2) (by decide) ?_
  refine va_sld hx hb hX hbl hbA w.2.2.1 (vpi (by decide) (by decide)) dL_law_786 ?_
  refine r_val (v := xs 2) (congrArg xs (show (2 : Int32).toNatClampNeg = 2 by decide)) ?_
  refine x_Vi F w (As := [.int (xs 1), .int (xs 2)]) (rest := [.int (-1)]) (a := 146) (by decide) (sh_12 rfl _ _) rfl (c_X12_linesOf_295 (rfl) h0 h1) gv_L_98 hv_X12_linesOf ⟨Nat.le_of_ble_eq_true rfl, Nat.le_of_ble_eq_true rfl⟩ hl.1 rfl (Nat.le_of_ble_eq_true rfl) ⟨Nat.le_of_ble_eq_true rfl, Nat.le_of_ble_eq_true rfl⟩ dL_law_787 (fun H locs w => ?_)
  refine lv_icmp_eq (tgt := 1065) hx hb dL_law_790 (by decide) (fun _ => ?_) (fun c1 => absurd c1 (by decide))
  exact kk _ _ _ w
set_option maxRecDepth 8000 in
theorem lc_18 {p : Program} {l : Launch} {e : Env} {s : State} {m : MethodId} {below : List Frame} {meth : Method} {c : Code} {D : va_G} {B b : Nat} {cy : Nat → ClassId} {H : Heap} {locs : List Loc} {ls : Array Slot} {xs : Nat → Int32} {Q : State → Prop} (F : CallFix p m c code 4 s #[Value.ref b] TB RL) (hX : va_X b 6 xs s s.heap) (hbl : b < s.heap.size) (hbA : ¬ B ≤ b) (w : Wd D B cy s s.heap M0 H locs) (hl : lv_has ls 4 [(3, .int 0), (2, .ref (B + 146)), (1, .ref (B + 0)), (0, .ref b)]) (kk : ∀ (M1 : Mem) (H1 : Heap) (locs1 : List Loc), Wd D B cy s s.heap M1 H1 locs1 → W p l e room_1 s m #[Value.ref b] below meth c H1 locs1 159 13107 Q (F0 m 1065 ls [])) : W p l e room_1 s m #[Value.ref b] below meth c H locs 159 13107 Q (F0 m 762 ls []) := by
  rcases (show (xs 1).toInt < 0 ∨ (xs 1).toInt = 0 ∨ 0 < (xs 1).toInt by omega) with h1 | h1 | h1
  · skip
    exact la_18_64 F hX hbl hbA w hl (by rw [Int32.lt_iff_toInt_lt, show (0 : Int32).toInt = 0 from by decide]; omega) kk
  · have x1 : xs 1 = 0 := Int32.toInt_inj.mp (h1.trans (by decide))
    rcases (show (xs 2).toInt < 0 ∨ 0 ≤ (xs 2).toInt by omega) with h2 | h2
    · skip
      exact la_18_65 F hX hbl hbA w hl x1 (by rw [Int32.lt_iff_toInt_lt, show (0 : Int32).toInt = 0 from by decide]; omega) kk
    · skip
      exact la_18_66 F hX hbl hbA w hl x1 (by rw [Int32.lt_iff_toInt_lt, show (0 : Int32).toInt = 0 from by decide]; omega) (by rw [Int32.le_iff_toInt_le, show (0 : Int32).toInt = 0 from by decide]; omega) (by rw [Int32.lt_iff_toInt_lt, show (-1 : Int32).toInt = -1 from by decide]; omega) kk
  · skip
    exact la_18_67 F hX hbl hbA w hl (by rw [Int32.lt_iff_toInt_lt, show (0 : Int32).toInt = 0 from by decide]; omega) (by rw [Int32.lt_iff_toInt_lt, show (0 : Int32).toInt = 0 from by decide]; omega) kk
theorem dL_law_795 : decode cL_law 795 = .ok (.aload_n 1, 1) := by decide +kernel
theorem dL_law_796 : decode cL_law 796 = .ok (.aload_n 0, 1) := by decide +kernel
theorem dL_law_797 : decode cL_law 797 = .ok (.iload_n 3, 1) := by decide +kernel
theorem dL_law_798 : decode cL_law 798 = .ok (.iconst 1, 1) := by decide +kernel
theorem dL_law_799 : decode cL_law 799 = .ok (.iadd, 1) := by decide +kernel
theorem dL_law_800 : decode cL_law 800 = .ok (.iaload, 1) := by decide +kernel
theorem dL_law_801 : decode cL_law 801 = .ok (.aload_n 0, 1) := by decide +kernel
theorem dL_law_802 : decode cL_law 802 = .ok (.iload_n 3, 1) := by decide +kernel
theorem dL_law_803 : decode cL_law 803 = .ok (.iconst 2, 1) := by decide +kernel
theorem dL_law_804 : decode cL_law 804 = .ok (.iadd, 1) := by decide +kernel
theorem dL_law_805 : decode cL_law 805 = .ok (.iaload, 1) := by decide +kernel
theorem dL_law_806 : decode cL_law 806 = .ok (.aload_n 0, 1) := by decide +kernel
theorem dL_law_807 : decode cL_law 807 = .ok (.iload_n 3, 1) := by decide +kernel
theorem dL_law_808 : decode cL_law 808 = .ok (.iconst 3, 1) := by decide +kernel
theorem dL_law_809 : decode cL_law 809 = .ok (.iadd, 1) := by decide +kernel
theorem dL_law_810 : decode cL_law 810 = .ok (.iaload, 1) := by decide +kernel
theorem dL_law_811 : decode cL_law 811 = .ok (.invokevirtual 99, 3) := by decide +kernel
theorem dX11_open_0 : decode cX11_open 0 = .ok (.aload_n 0, 1) := by decide +kernel
theorem dX11_open_1 : decode cX11_open 1 = .ok (.getfield 35, 3) := by decide +kernel
theorem dX11_open_4 : decode cX11_open 4 = .ok (.iload_n 1, 1) := by decide +kernel
theorem dX11_open_5 : decode cX11_open 5 = .ok (.invokevirtual 193, 3) := by decide +kernel
theorem dX11_open_8 : decode cX11_open 8 = .ok (.ifCond .ne 5, 3) := by decide +kernel
theorem dX11_open_11 : decode cX11_open 11 = .ok (.iconst (-1), 1) := by decide +kernel
theorem dX11_open_12 : decode cX11_open 12 = .ok (.ireturn, 1) := by decide +kernel
set_option maxRecDepth 4000 in
theorem c_X11_open_296 {l : Launch} {D : va_G} {B : Nat} {cy : Nat → ClassId} {M : Mem} {p1 : Int32} {p2 : Int32} {p3 : Int32} (h0 : p1 < 0) : Ci l D B cy yX11_open cX11_open 5 (some .int) 1 21 [.ref (B + 0), .int p1, .int p2, .int p3] M (fun r M1 => r = (-1) ∧ M1 = M) := by
  refine s_any (by decide) (Nat.le_of_ble_eq_true rfl) ?_
  intro p e s m below meth c ls F hr hlocks w hl
  have F : CallFix p m c cX11_open 5 s _ TB RX11 := F
  have hx := F.1
  have hb := F.2.1
  have hl : lv_has ls 5 [(0, .ref (B + 0)), (1, .int p1), (2, .int p2), (3, .int p3)] := hl
  refine lv_aload_n hx hb dX11_open_0 rfl (lv_at hl 0 rfl) ?_
  refine f_11_3 F w (a := 0) rfl tb_73 dX11_open_1 ?_
  refine lv_iload_n hx hb dX11_open_4 rfl (lv_at hl 1 rfl) ?_
  refine x_Vi F w (As := [.int p1]) (rest := []) (a := 22) (by decide) (sh_0 rfl _ _) rfl (c_X0_covers_203 h0) gv_X11_193 hv_X0_covers ⟨Nat.le_of_ble_eq_true rfl, Nat.le_of_ble_eq_true rfl⟩ hl.1 rfl (Nat.le_of_ble_eq_true rfl) ⟨Nat.zero_le _, Nat.zero_le _⟩ dX11_open_5 (fun H locs w => ?_)
  refine lv_if_ne (tgt := 13) hx hb dX11_open_8 (by decide) (fun c1 => absurd c1 (by decide)) (fun _ => ?_)
  refine lv_iconst (v := (-1)) hx hb dX11_open_11 (by decide) ?_
  exact e_i F w hr hlocks ⟨rfl, rfl⟩ dX11_open_12
theorem tk_X11_open : Cond.code yX11_open cX11_open 5 (some .int) ∈ TB := tbm (tc4 (List.mem_of_getElem? (i := 176) rfl)) rfl
theorem gc_X11_open : GoodIn TB (cw yX11_open cX11_open 5 (some .int)) := goodIn_c2 tk_X11_open
theorem tb_452 : Cond.methodLink "ToneLinesLaw" 99 yX11_open ∈ TB := tbm (tc4 (List.mem_of_getElem? (i := 173) rfl)) rfl
theorem tb_453 : Cond.instanceMethod yX11_open ∈ TB := tbm (tc4 (List.mem_of_getElem? (i := 174) rfl)) rfl
theorem tb_454 : Cond.selects "ToneLines" yX11_open yX11_open ∈ TB := tbm (tc4 (List.mem_of_getElem? (i := 175) rfl)) rfl
theorem gv_L_99 : GoodIn TB (wsV RL 99 RX11 yX11_open (cw yX11_open cX11_open 5 (some .int))) := goodIn_4 tb_452 tb_453 tb_454 tb_145 gc_X11_open
theorem hv_X11_open : yX11_open.cls = RX11 ∧ yX11_open.cls ≠ "java/lang/invoke/MethodHandle" ∧ yX11_open.cls ≠ "java/lang/invoke/VarHandle" ∧ (parseMethodDescriptor yX11_open.desc).map (fun d => d.parameters.length) = some 3 := by decide +kernel
theorem dL_law_814 : decode cL_law 814 = .ok (.aload_n 2, 1) := by decide +kernel
theorem dL_law_815 : decode cL_law 815 = .ok (.aload_n 0, 1) := by decide +kernel
theorem dL_law_816 : decode cL_law 816 = .ok (.iload_n 3, 1) := by decide +kernel
theorem dL_law_817 : decode cL_law 817 = .ok (.iconst 1, 1) := by decide +kernel
theorem dL_law_818 : decode cL_law 818 = .ok (.iadd, 1) := by decide +kernel
theorem dL_law_819 : decode cL_law 819 = .ok (.iaload, 1) := by decide +kernel
theorem dL_law_820 : decode cL_law 820 = .ok (.aload_n 0, 1) := by decide +kernel
theorem dL_law_821 : decode cL_law 821 = .ok (.iload_n 3, 1) := by decide +kernel
theorem dL_law_822 : decode cL_law 822 = .ok (.iconst 2, 1) := by decide +kernel
theorem dL_law_823 : decode cL_law 823 = .ok (.iadd, 1) := by decide +kernel
theorem dL_law_824 : decode cL_law 824 = .ok (.iaload, 1) := by decide +kernel
theorem dL_law_825 : decode cL_law 825 = .ok (.aload_n 0, 1) := by decide +kernel
theorem dL_law_826 : decode cL_law 826 = .ok (.iload_n 3, 1) := by decide +kernel
theorem dL_law_827 : decode cL_law 827 = .ok (.iconst 3, 1) := by decide +kernel
theorem dL_law_828 : decode cL_law 828 = .ok (.iadd, 1) := by decide +kernel
theorem dL_law_829 : decode cL_law 829 = .ok (.iaload, 1) := by decide +kernel
theorem dL_law_830 : decode cL_law 830 = .ok (.invokevirtual 102, 3) := by decide +kernel
theorem dX12_open_0 : decode cX12_open 0 = .ok (.aload_n 0, 1) := by decide +kernel
theorem dX12_open_1 : decode cX12_open 1 = .ok (.iload_n 1, 1) := by decide +kernel
theorem dX12_open_2 : decode cX12_open 2 = .ok (.invokevirtual 261, 3) := by decide +kernel
theorem dX12_open_5 : decode cX12_open 5 = .ok (.ifCond .eq 25, 3) := by decide +kernel
theorem dX12_open_30 : decode cX12_open 30 = .ok (.iconst (-1), 1) := by decide +kernel
theorem dX12_open_31 : decode cX12_open 31 = .ok (.ireturn, 1) := by decide +kernel
set_option maxRecDepth 4000 in
theorem c_X12_open_297 {l : Launch} {D : va_G} {B : Nat} {cy : Nat → ClassId} {M : Mem} {p1 : Int32} {p2 : Int32} {p3 : Int32} (h0 : M.1 146 5 = 0) (h1 : p1 < 0) : Ci l D B cy yX12_open cX12_open 4 (some .int) 2 43 [.ref (B + 146), .int p1, .int p2, .int p3] M (fun r M1 => r = (-1) ∧ M1 = M) := by
  refine s_any (by decide) (Nat.le_of_ble_eq_true rfl) ?_
  intro p e s m below meth c ls F hr hlocks w hl
  have F : CallFix p m c cX12_open 4 s _ TB RX12 := F
  have hx := F.1
  have hb := F.2.1
  have hl : lv_has ls 4 [(0, .ref (B + 146)), (1, .int p1), (2, .int p2), (3, .int p3)] := hl
  refine lv_aload_n hx hb dX12_open_0 rfl (lv_at hl 0 rfl) ?_
  refine lv_iload_n hx hb dX12_open_1 rfl (lv_at hl 1 rfl) ?_
  refine x_Vi F w (As := [.int p1]) (rest := []) (a := 146) (by decide) (sh_12 rfl _ _) rfl (c_X12_lays_221 (h0) h1) gv_X12_261 hv_X12_lays ⟨Nat.le_of_ble_eq_true rfl, Nat.le_of_ble_eq_true rfl⟩ hl.1 rfl (Nat.le_of_ble_eq_true rfl) ⟨Nat.zero_le _, Nat.zero_le _⟩ dX12_open_2 (fun H locs w => ?_)
  refine lv_if_eq (tgt := 30) hx hb dX12_open_5 (by decide) (fun _ => ?_) (fun c1 => absurd c1 (by decide))
  refine lv_iconst (v := (-1)) hx hb dX12_open_30 (by decide) ?_
  exact e_i F w hr hlocks ⟨rfl, rfl⟩ dX12_open_31
theorem tk_X12_open : Cond.code yX12_open cX12_open 4 (some .int) ∈ TB := tbm (tc6 (List.mem_of_getElem? (i := 208) rfl)) rfl
theorem gc_X12_open : GoodIn TB (cw yX12_open cX12_open 4 (some .int)) := goodIn_c2 tk_X12_open
theorem tb_455 : Cond.methodLink "ToneLinesLaw" 102 yX12_open ∈ TB := tbm (tc6 (List.mem_of_getElem? (i := 205) rfl)) rfl
theorem tb_456 : Cond.instanceMethod yX12_open ∈ TB := tbm (tc6 (List.mem_of_getElem? (i := 206) rfl)) rfl
theorem tb_457 : Cond.selects "ToneLinesModel" yX12_open yX12_open ∈ TB := tbm (tc6 (List.mem_of_getElem? (i := 207) rfl)) rfl
theorem gv_L_102 : GoodIn TB (wsV RL 102 RX12 yX12_open (cw yX12_open cX12_open 4 (some .int))) := goodIn_4 tb_455 tb_456 tb_457 tb_150 gc_X12_open
theorem hv_X12_open : yX12_open.cls = RX12 ∧ yX12_open.cls ≠ "java/lang/invoke/MethodHandle" ∧ yX12_open.cls ≠ "java/lang/invoke/VarHandle" ∧ (parseMethodDescriptor yX12_open.desc).map (fun d => d.parameters.length) = some 3 := by decide +kernel
theorem dL_law_833 : decode cL_law 833 = .ok (.if_icmp .eq 232, 3) := by decide +kernel
set_option maxRecDepth 8000 in
theorem la_19_68 {p : Program} {l : Launch} {e : Env} {s : State} {m : MethodId} {below : List Frame} {meth : Method} {c : Code} {D : va_G} {B b : Nat} {cy : Nat → ClassId} {H : Heap} {locs : List Loc} {ls : Array Slot} {xs : Nat → Int32} {Q : State → Prop} (F : CallFix p m c code 4 s #[Value.ref b] TB RL) (hX : va_X b 6 xs s s.heap) (hbl : b < s.heap.size) (hbA : ¬ B ≤ b) (w : Wd D B cy s s.heap M0 H locs) (hl : lv_has ls 4 [(3, .int 0), (2, .ref (B + 146)), (1, .ref (B + 0)), (0, .ref b)]) (h0 : (xs 1) < 0) (kk : ∀ (M1 : Mem) (H1 : Heap) (locs1 : List Loc), Wd D B cy s s.heap M1 H1 locs1 → W p l e room_1 s m #[Value.ref b] below meth c H1 locs1 159 13107 Q (F0 m 1065 ls [])) : W p l e room_1 s m #[Value.ref b] below meth c H locs 159 13107 Q (F0 m 795 ls []) := by
  have hx := F.1
  have hb := F.2.1
  refine lv_aload_n hx hb dL_law_795 rfl (lv_at hl 2 rfl) ?_
  refine lv_aload_n hx hb dL_law_796 rfl (lv_at hl 3 rfl) ?_
  refine lv_iload_n hx hb dL_law_797 rfl (lv_at hl 0 rfl) ?_
  refine lv_iconst (v := 1) hx hb dL_law_798 (by decide) ?_
  refine lv_iadd hx hb dL_law_799 ?_
  refine r_val (v := 1) (by decide) ?_
  refine va_sld hx hb hX hbl hbA w.2.2.1 (vpi (by decide) (by decide)) dL_law_800 ?_
  refine r_val (v := xs 1) (congrArg xs (show (1 : Int32).toNatClampNeg = 1 by decide)) ?_
  refine lv_aload_n hx hb dL_law_801 rfl (lv_at hl 3 rfl) ?_
  refine lv_iload_n hx hb dL_law_802 rfl (lv_at hl 0 rfl) ?_
  refine lv_iconst (v := 2) hx hb dL_law_803 (by decide) ?_
  refine lv_iadd hx hb dL_law_804 ?_
  refine r_val (v := 2) (by decide) ?_
  refine va_sld hx hb hX hbl hbA w.2.2.1 (vpi (by decide) (by decide)) dL_law_805 ?_
  refine r_val (v := xs 2) (congrArg xs (show (2 : Int32).toNatClampNeg = 2 by decide)) ?_
  refine lv_aload_n hx hb dL_law_806 rfl (lv_at hl 3 rfl) ?_
  refine lv_iload_n hx hb dL_law_807 rfl (lv_at hl 0 rfl) ?_
  refine lv_iconst (v := 3) hx hb dL_law_808 (by decide) ?_
  refine lv_iadd hx hb dL_law_809 ?_
  refine r_val (v := 3) (by decide) ?_
  refine va_sld hx hb hX hbl hbA w.2.2.1 (vpi (by decide) (by decide)) dL_law_810 ?_
  refine r_val (v := xs 3) (congrArg xs (show (3 : Int32).toNatClampNeg = 3 by decide)) ?_
  refine x_Vi F w (As := [.int (xs 1), .int (xs 2), .int (xs 3)]) (rest := []) (a := 0) (by decide) (sh_11 rfl _ _) rfl (c_X11_open_296 h0) gv_L_99 hv_X11_open ⟨Nat.le_of_ble_eq_true rfl, Nat.le_of_ble_eq_true rfl⟩ hl.1 rfl (Nat.le_of_ble_eq_true rfl) ⟨Nat.le_of_ble_eq_true rfl, Nat.le_of_ble_eq_true rfl⟩ dL_law_811 (fun H locs w => ?_)
  refine lv_aload_n hx hb dL_law_814 rfl (lv_at hl 1 rfl) ?_
  refine lv_aload_n hx hb dL_law_815 rfl (lv_at hl 3 rfl) ?_
  refine lv_iload_n hx hb dL_law_816 rfl (lv_at hl 0 rfl) ?_
  refine lv_iconst (v := 1) hx hb dL_law_817 (by decide) ?_
  refine lv_iadd hx hb dL_law_818 ?_
  refine r_val (v := 1) (by decide) ?_
  refine va_sld hx hb hX hbl hbA w.2.2.1 (vpi (by decide) (by decide)) dL_law_819 ?_
  refine r_val (v := xs 1) (congrArg xs (show (1 : Int32).toNatClampNeg = 1 by decide)) ?_
  refine lv_aload_n hx hb dL_law_820 rfl (lv_at hl 3 rfl) ?_
  refine lv_iload_n hx hb dL_law_821 rfl (lv_at hl 0 rfl) ?_
  refine lv_iconst (v := 2) hx hb dL_law_822 (by decide) ?_
  refine lv_iadd hx hb dL_law_823 ?_
  refine r_val (v := 2) (by decide) ?_
  refine va_sld hx hb hX hbl hbA w.2.2.1 (vpi (by decide) (by decide)) dL_law_824 ?_
  refine r_val (v := xs 2) (congrArg xs (show (2 : Int32).toNatClampNeg = 2 by decide)) ?_
  refine lv_aload_n hx hb dL_law_825 rfl (lv_at hl 3 rfl) ?_
  refine lv_iload_n hx hb dL_law_826 rfl (lv_at hl 0 rfl) ?_
  refine lv_iconst (v := 3) hx hb dL_law_827 (by decide) ?_
  refine lv_iadd hx hb dL_law_828 ?_
  refine r_val (v := 3) (by decide) ?_
  refine va_sld hx hb hX hbl hbA w.2.2.1 (vpi (by decide) (by decide)) dL_law_829 ?_
  refine r_val (v := xs 3) (congrArg xs (show (3 : Int32).toNatClampNeg = 3 by decide)) ?_
  refine x_Vi F w (As := [.int (xs 1), .int (xs 2), .int (xs 3)]) (rest := [.int (-1)]) (a := 146) (by decide) (sh_12 rfl _ _) rfl (c_X12_open_297 (rfl) h0) gv_L_102 hv_X12_open ⟨Nat.le_of_ble_eq_true rfl, Nat.le_of_ble_eq_true rfl⟩ hl.1 rfl (Nat.le_of_ble_eq_true rfl) ⟨Nat.le_of_ble_eq_true rfl, Nat.le_of_ble_eq_true rfl⟩ dL_law_830 (fun H locs w => ?_)
  refine lv_icmp_eq (tgt := 1065) hx hb dL_law_833 (by decide) (fun _ => ?_) (fun c1 => absurd c1 (by decide))
  exact kk _ _ _ w
theorem dX11_open_13 : decode cX11_open 13 = .ok (.aload_n 0, 1) := by decide +kernel
theorem dX11_open_14 : decode cX11_open 14 = .ok (.getfield 35, 3) := by decide +kernel
theorem dX11_open_17 : decode cX11_open 17 = .ok (.iload_n 1, 1) := by decide +kernel
theorem dX11_open_18 : decode cX11_open 18 = .ok (.invokevirtual 196, 3) := by decide +kernel
theorem dX11_open_21 : decode cX11_open 21 = .ok (.astore 4, 2) := by decide +kernel
theorem dX11_open_23 : decode cX11_open 23 = .ok (.aload 4, 2) := by decide +kernel
theorem dX11_open_25 : decode cX11_open 25 = .ok (.iload_n 2, 1) := by decide +kernel
theorem dX11_open_26 : decode cX11_open 26 = .ok (.invokevirtual 141, 3) := by decide +kernel
theorem dX11_open_29 : decode cX11_open 29 = .ok (.ifCond .eq 12, 3) := by decide +kernel
theorem dX11_open_41 : decode cX11_open 41 = .ok (.iconst (-1), 1) := by decide +kernel
theorem dX11_open_42 : decode cX11_open 42 = .ok (.ireturn, 1) := by decide +kernel
set_option maxRecDepth 4000 in
theorem c_X11_open_298 {l : Launch} {D : va_G} {B : Nat} {cy : Nat → ClassId} {M : Mem} {p2 : Int32} {p3 : Int32} (h0 : M.1 22 2 = 0) (h1 : M.1 22 7 = 0) (h2 : p2 < 0) : Ci l D B cy yX11_open cX11_open 5 (some .int) 2 43 [.ref (B + 0), .int 0, .int p2, .int p3] M (fun r M1 => r = (-1) ∧ M1 = M) := by
  refine s_any (by decide) (Nat.le_of_ble_eq_true rfl) ?_
  intro p e s m below meth c ls F hr hlocks w hl
  have F : CallFix p m c cX11_open 5 s _ TB RX11 := F
  have hx := F.1
  have hb := F.2.1
  have hl : lv_has ls 5 [(0, .ref (B + 0)), (1, .int 0), (2, .int p2), (3, .int p3)] := hl
  refine lv_aload_n hx hb dX11_open_0 rfl (lv_at hl 0 rfl) ?_
  refine f_11_3 F w (a := 0) rfl tb_73 dX11_open_1 ?_
  refine lv_iload_n hx hb dX11_open_4 rfl (lv_at hl 1 rfl) ?_
  refine x_Vi F w (As := [.int 0]) (rest := []) (a := 22) (by decide) (sh_0 rfl _ _) rfl (c_X0_covers_206 (h0)) gv_X11_193 hv_X0_covers ⟨Nat.le_of_ble_eq_true rfl, Nat.le_of_ble_eq_true rfl⟩ hl.1 rfl (Nat.le_of_ble_eq_true rfl) ⟨Nat.zero_le _, Nat.zero_le _⟩ dX11_open_5 (fun H locs w => ?_)
  refine lv_if_ne (tgt := 13) hx hb dX11_open_8 (by decide) (fun _ => ?_) (fun c1 => absurd c1 (by decide))
  refine lv_aload_n hx hb dX11_open_13 rfl (lv_at hl 0 rfl) ?_
  refine f_11_3 F w (a := 0) rfl tb_73 dX11_open_14 ?_
  refine lv_iload_n hx hb dX11_open_17 rfl (lv_at hl 1 rfl) ?_
  refine x_Vr F w (As := [.int 0]) (rest := []) (a := 22) (by decide) (sh_0 rfl _ _) rfl (c_X0_stageOf_207 (h0) (h1)) gv_X11_196 hv_X0_stageOf ⟨Nat.le_of_ble_eq_true rfl, Nat.le_of_ble_eq_true rfl⟩ hl.1 rfl (Nat.le_of_ble_eq_true rfl) ⟨Nat.zero_le _, Nat.zero_le _⟩ dX11_open_18 (fun H locs w => ?_)
  refine lv_astore (lv' := [(4, .ref (B + 44)), (0, .ref (B + 0)), (1, .int 0), (2, .int p2), (3, .int p3)]) hx hb dX11_open_21 hl (by decide) rfl (fun ls hl => ?_)
  refine lv_aload hx hb dX11_open_23 (lv_at hl 0 rfl) ?_
  refine lv_iload_n hx hb dX11_open_25 rfl (lv_at hl 3 rfl) ?_
  refine x_Vi F w (As := [.int p2]) (rest := []) (a := 44) (by decide) (sh_9 rfl _ _) rfl (c_X9_hasTone_92 h2) gv_X11_141 hv_X9_hasTone ⟨Nat.le_of_ble_eq_true rfl, Nat.le_of_ble_eq_true rfl⟩ hl.1 rfl (Nat.le_of_ble_eq_true rfl) ⟨Nat.zero_le _, Nat.zero_le _⟩ dX11_open_26 (fun H locs w => ?_)
  refine lv_if_eq (tgt := 41) hx hb dX11_open_29 (by decide) (fun _ => ?_) (fun c1 => absurd c1 (by decide))
  refine lv_iconst (v := (-1)) hx hb dX11_open_41 (by decide) ?_
  exact e_i F w hr hlocks ⟨rfl, rfl⟩ dX11_open_42
theorem dX12_open_8 : decode cX12_open 8 = .ok (.aload_n 0, 1) := by decide +kernel
theorem dX12_open_9 : decode cX12_open 9 = .ok (.getfield 17, 3) := by decide +kernel
theorem dX12_open_12 : decode cX12_open 12 = .ok (.iload_n 2, 1) := by decide +kernel
theorem dX12_open_13 : decode cX12_open 13 = .ok (.invokestatic 105, 3) := by decide +kernel
theorem dX12_open_16 : decode cX12_open 16 = .ok (.ifCond .eq 14, 3) := by decide +kernel
set_option maxRecDepth 4000 in
theorem c_X12_open_299 {l : Launch} {D : va_G} {B : Nat} {cy : Nat → ClassId} {M : Mem} {p2 : Int32} {p3 : Int32} (h0 : M.1 146 5 = 0) (h1 : M.1 147 0 = 0) (h2 : M.1 148 0 = 0) (h3 : M.1 147 1 = 0) (h4 : M.1 148 1 = 0) (h5 : M.1 147 2 = 0) (h6 : M.1 148 2 = 0) (h7 : M.1 147 3 = 0) (h8 : M.1 148 3 = 0) (h9 : M.1 147 4 = 0) (h10 : M.1 148 4 = 0) (h11 : M.1 147 5 = 0) (h12 : M.1 148 5 = 0) (h13 : M.1 147 6 = 0) (h14 : M.1 148 6 = 0) (h15 : M.1 147 7 = 0) (h16 : M.1 148 7 = 0) (h17 : M.1 147 8 = 0) (h18 : M.1 148 8 = 0) (h19 : M.1 147 9 = 0) (h20 : M.1 148 9 = 0) (h21 : M.1 147 10 = 0) (h22 : M.1 148 10 = 0) (h23 : M.1 147 11 = 0) (h24 : M.1 148 11 = 0) (h25 : M.1 147 12 = 0) (h26 : M.1 148 12 = 0) (h27 : M.1 147 13 = 0) (h28 : M.1 148 13 = 0) (h29 : M.1 147 14 = 0) (h30 : M.1 148 14 = 0) (h31 : M.1 147 15 = 0) (h32 : M.1 148 15 = 0) (h33 : M.1 147 16 = 0) (h34 : M.1 148 16 = 0) (h35 : M.1 147 17 = 0) (h36 : M.1 148 17 = 0) (h37 : M.1 147 18 = 0) (h38 : M.1 148 18 = 0) (h39 : M.1 147 19 = 0) (h40 : M.1 148 19 = 0) (h41 : M.1 147 20 = 0) (h42 : M.1 148 20 = 0) (h43 : M.1 147 21 = 0) (h44 : M.1 148 21 = 0) (h45 : M.1 147 22 = 0) (h46 : M.1 148 22 = 0) (h47 : M.1 147 23 = 0) (h48 : M.1 148 23 = 0) (h49 : M.1 147 24 = 0) (h50 : M.1 148 24 = 0) (h51 : M.1 147 25 = 0) (h52 : M.1 148 25 = 0) (h53 : M.1 147 26 = 0) (h54 : M.1 148 26 = 0) (h55 : M.1 147 27 = 0) (h56 : M.1 148 27 = 0) (h57 : p2 < 0) : Ci l D B cy yX12_open cX12_open 4 (some .int) 3 66 [.ref (B + 146), .int 0, .int p2, .int p3] M (fun r M1 => r = (-1) ∧ M1 = M) := by
  refine s_any (by decide) (Nat.le_of_ble_eq_true rfl) ?_
  intro p e s m below meth c ls F hr hlocks w hl
  have F : CallFix p m c cX12_open 4 s _ TB RX12 := F
  have hx := F.1
  have hb := F.2.1
  have hl : lv_has ls 4 [(0, .ref (B + 146)), (1, .int 0), (2, .int p2), (3, .int p3)] := hl
  refine lv_aload_n hx hb dX12_open_0 rfl (lv_at hl 0 rfl) ?_
  refine lv_iload_n hx hb dX12_open_1 rfl (lv_at hl 1 rfl) ?_
  refine x_Vi F w (As := [.int 0]) (rest := []) (a := 146) (by decide) (sh_12 rfl _ _) rfl (c_X12_lays_224 (h0) (h1) (h2) (h3) (h4) (h5) (h6) (h7) (h8) (h9) (h10) (h11) (h12) (h13) (h14) (h15) (h16) (h17) (h18) (h19) (h20) (h21) (h22) (h23) (h24) (h25) (h26) (h27) (h28) (h29) (h30) (h31) (h32) (h33) (h34) (h35) (h36) (h37) (h38) (h39) (h40) (h41) (h42) (h43) (h44) (h45) (h46) (h47) (h48) (h49) (h50) (h51) (h52) (h53) (h54) (h55) (h56)) gv_X12_261 hv_X12_lays ⟨Nat.le_of_ble_eq_true rfl, Nat.le_of_ble_eq_true rfl⟩ hl.1 rfl (Nat.le_of_ble_eq_true rfl) ⟨Nat.zero_le _, Nat.zero_le _⟩ dX12_open_2 (fun H locs w => ?_)
  refine lv_if_eq (tgt := 30) hx hb dX12_open_5 (by decide) (fun c1 => absurd c1 (by decide)) (fun _ => ?_)
  refine lv_aload_n hx hb dX12_open_8 rfl (lv_at hl 0 rfl) ?_
  refine f_12_2 F w (a := 146) rfl tb_127 dX12_open_9 ?_
  refine lv_iload_n hx hb dX12_open_12 rfl (lv_at hl 2 rfl) ?_
  refine x_Si F w (As := [.ref (B + 148), .int p2]) (rest := []) (c_X12_isTone_267 (h2) h57) gs_X12_105 hs_X12_isTone ⟨Nat.le_of_ble_eq_true rfl, Nat.le_of_ble_eq_true rfl⟩ hl.1 rfl (Nat.le_of_ble_eq_true rfl) ⟨Nat.zero_le _, Nat.zero_le _⟩ dX12_open_13 (fun H locs w => ?_)
  refine lv_if_eq (tgt := 30) hx hb dX12_open_16 (by decide) (fun _ => ?_) (fun c1 => absurd c1 (by decide))
  refine lv_iconst (v := (-1)) hx hb dX12_open_30 (by decide) ?_
  exact e_i F w hr hlocks ⟨rfl, rfl⟩ dX12_open_31
set_option maxRecDepth 8000 in
theorem la_19_69 {p : Program} {l : Launch} {e : Env} {s : State} {m : MethodId} {below : List Frame} {meth : Method} {c : Code} {D : va_G} {B b : Nat} {cy : Nat → ClassId} {H : Heap} {locs : List Loc} {ls : Array Slot} {xs : Nat → Int32} {Q : State → Prop} (F : CallFix p m c code 4 s #[Value.ref b] TB RL) (hX : va_X b 6 xs s s.heap) (hbl : b < s.heap.size) (hbA : ¬ B ≤ b) (w : Wd D B cy s s.heap M0 H locs) (hl : lv_has ls 4 [(3, .int 0), (2, .ref (B + 146)), (1, .ref (B + 0)), (0, .ref b)]) (x1 : xs 1 = 0) (h0 : (xs 2) < 0) (kk : ∀ (M1 : Mem) (H1 : Heap) (locs1 : List Loc), Wd D B cy s s.heap M1 H1 locs1 → W p l e room_1 s m #[Value.ref b] below meth c H1 locs1 159 13107 Q (F0 m 1065 ls [])) : W p l e room_1 s m #[Value.ref b] below meth c H locs 159 13107 Q (F0 m 795 ls []) := by
  have hx := F.1
  have hb := F.2.1
  refine lv_aload_n hx hb dL_law_795 rfl (lv_at hl 2 rfl) ?_
  refine lv_aload_n hx hb dL_law_796 rfl (lv_at hl 3 rfl) ?_
  refine lv_iload_n hx hb dL_law_797 rfl (lv_at hl 0 rfl) ?_
  refine lv_iconst (v := 1) hx hb dL_law_798 (by decide) ?_
  refine lv_iadd hx hb dL_law_799 ?_
  refine r_val (v := 1) (by decide) ?_
  refine va_sld hx hb hX hbl hbA w.2.2.1 (vpi (by decide) (by decide)) dL_law_800 ?_
  refine r_val (v := 0) ((congrArg xs (show (1 : Int32).toNatClampNeg = 1 by decide)).trans x1) ?_
  refine lv_aload_n hx hb dL_law_801 rfl (lv_at hl 3 rfl) ?_
  refine lv_iload_n hx hb dL_law_802 rfl (lv_at hl 0 rfl) ?_
  refine lv_iconst (v := 2) hx hb dL_law_803 (by decide) ?_
  refine lv_iadd hx hb dL_law_804 ?_
  refine r_val (v := 2) (by decide) ?_
  refine va_sld hx hb hX hbl hbA w.2.2.1 (vpi (by decide) (by decide)) dL_law_805 ?_
  refine r_val (v := xs 2) (congrArg xs (show (2 : Int32).toNatClampNeg = 2 by decide)) ?_
  refine lv_aload_n hx hb dL_law_806 rfl (lv_at hl 3 rfl) ?_
  refine lv_iload_n hx hb dL_law_807 rfl (lv_at hl 0 rfl) ?_
  refine lv_iconst (v := 3) hx hb dL_law_808 (by decide) ?_
  refine lv_iadd hx hb dL_law_809 ?_
  refine r_val (v := 3) (by decide) ?_
  refine va_sld hx hb hX hbl hbA w.2.2.1 (vpi (by decide) (by decide)) dL_law_810 ?_
  refine r_val (v := xs 3) (congrArg xs (show (3 : Int32).toNatClampNeg = 3 by decide)) ?_
  refine x_Vi F w (As := [.int 0, .int (xs 2), .int (xs 3)]) (rest := []) (a := 0) (by decide) (sh_11 rfl _ _) rfl (c_X11_open_298 (rfl) (rfl) h0) gv_L_99 hv_X11_open ⟨Nat.le_of_ble_eq_true rfl, Nat.le_of_ble_eq_true rfl⟩ hl.1 rfl (Nat.le_of_ble_eq_true rfl) ⟨Nat.le_of_ble_eq_true rfl, Nat.le_of_ble_eq_true rfl⟩ dL_law_811 (fun H locs w => ?_)
  refine lv_aload_n hx hb dL_law_814 rfl (lv_at hl 1 rfl) ?_
  refine lv_aload_n hx hb dL_law_815 rfl (lv_at hl 3 rfl) ?_
  refine lv_iload_n hx hb dL_law_816 rfl (lv_at hl 0 rfl) ?_
  refine lv_iconst (v := 1) hx hb dL_law_817 (by decide) ?_
  refine lv_iadd hx hb dL_law_818 ?_
  refine r_val (v := 1) (by decide) ?_
  refine va_sld hx hb hX hbl hbA w.2.2.1 (vpi (by decide) (by decide)) dL_law_819 ?_
  refine r_val (v := 0) ((congrArg xs (show (1 : Int32).toNatClampNeg = 1 by decide)).trans x1) ?_
  refine lv_aload_n hx hb dL_law_820 rfl (lv_at hl 3 rfl) ?_
  refine lv_iload_n hx hb dL_law_821 rfl (lv_at hl 0 rfl) ?_
  refine lv_iconst (v := 2) hx hb dL_law_822 (by decide) ?_
  refine lv_iadd hx hb dL_law_823 ?_
  refine r_val (v := 2) (by decide) ?_
  refine va_sld hx hb hX hbl hbA w.2.2.1 (vpi (by decide) (by decide)) dL_law_824 ?_
  refine r_val (v := xs 2) (congrArg xs (show (2 : Int32).toNatClampNeg = 2 by decide)) ?_
  refine lv_aload_n hx hb dL_law_825 rfl (lv_at hl 3 rfl) ?_
  refine lv_iload_n hx hb dL_law_826 rfl (lv_at hl 0 rfl) ?_
  refine lv_iconst (v := 3) hx hb dL_law_827 (by decide) ?_
  refine lv_iadd hx hb dL_law_828 ?_
  refine r_val (v := 3) (by decide) ?_
  refine va_sld hx hb hX hbl hbA w.2.2.1 (vpi (by decide) (by decide)) dL_law_829 ?_
  refine r_val (v := xs 3) (congrArg xs (show (3 : Int32).toNatClampNeg = 3 by decide)) ?_
  refine x_Vi F w (As := [.int 0, .int (xs 2), .int (xs 3)]) (rest := [.int (-1)]) (a := 146) (by decide) (sh_12 rfl _ _) rfl (c_X12_open_299 (rfl) (rfl) (rfl) (rfl) (rfl) (rfl) (rfl) (rfl) (rfl) (rfl) (rfl) (rfl) (rfl) (rfl) (rfl) (rfl) (rfl) (rfl) (rfl) (rfl) (rfl) (rfl) (rfl) (rfl) (rfl) (rfl) (rfl) (rfl) (rfl) (rfl) (rfl) (rfl) (rfl) (rfl) (rfl) (rfl) (rfl) (rfl) (rfl) (rfl) (rfl) (rfl) (rfl) (rfl) (rfl) (rfl) (rfl) (rfl) (rfl) (rfl) (rfl) (rfl) (rfl) (rfl) (rfl) (rfl) (rfl) h0) gv_L_102 hv_X12_open ⟨Nat.le_of_ble_eq_true rfl, Nat.le_of_ble_eq_true rfl⟩ hl.1 rfl (Nat.le_of_ble_eq_true rfl) ⟨Nat.le_of_ble_eq_true rfl, Nat.le_of_ble_eq_true rfl⟩ dL_law_830 (fun H locs w => ?_)
  refine lv_icmp_eq (tgt := 1065) hx hb dL_law_833 (by decide) (fun _ => ?_) (fun c1 => absurd c1 (by decide))
  exact kk _ _ _ w
set_option maxRecDepth 4000 in
theorem c_X11_open_300 {l : Launch} {D : va_G} {B : Nat} {cy : Nat → ClassId} {M : Mem} {p2 : Int32} {p3 : Int32} (h0 : M.1 22 2 = 0) (h1 : M.1 22 7 = 0) (h2 : ¬ p2 < 0) (h3 : M.1 44 0 = 0) (h4 : 0 ≤ p2) : Ci l D B cy yX11_open cX11_open 5 (some .int) 2 43 [.ref (B + 0), .int 0, .int p2, .int p3] M (fun r M1 => r = (-1) ∧ M1 = M) := by
  refine s_any (by decide) (Nat.le_of_ble_eq_true rfl) ?_
  intro p e s m below meth c ls F hr hlocks w hl
  have F : CallFix p m c cX11_open 5 s _ TB RX11 := F
  have hx := F.1
  have hb := F.2.1
  have hl : lv_has ls 5 [(0, .ref (B + 0)), (1, .int 0), (2, .int p2), (3, .int p3)] := hl
  refine lv_aload_n hx hb dX11_open_0 rfl (lv_at hl 0 rfl) ?_
  refine f_11_3 F w (a := 0) rfl tb_73 dX11_open_1 ?_
  refine lv_iload_n hx hb dX11_open_4 rfl (lv_at hl 1 rfl) ?_
  refine x_Vi F w (As := [.int 0]) (rest := []) (a := 22) (by decide) (sh_0 rfl _ _) rfl (c_X0_covers_206 (h0)) gv_X11_193 hv_X0_covers ⟨Nat.le_of_ble_eq_true rfl, Nat.le_of_ble_eq_true rfl⟩ hl.1 rfl (Nat.le_of_ble_eq_true rfl) ⟨Nat.zero_le _, Nat.zero_le _⟩ dX11_open_5 (fun H locs w => ?_)
  refine lv_if_ne (tgt := 13) hx hb dX11_open_8 (by decide) (fun _ => ?_) (fun c1 => absurd c1 (by decide))
  refine lv_aload_n hx hb dX11_open_13 rfl (lv_at hl 0 rfl) ?_
  refine f_11_3 F w (a := 0) rfl tb_73 dX11_open_14 ?_
  refine lv_iload_n hx hb dX11_open_17 rfl (lv_at hl 1 rfl) ?_
  refine x_Vr F w (As := [.int 0]) (rest := []) (a := 22) (by decide) (sh_0 rfl _ _) rfl (c_X0_stageOf_207 (h0) (h1)) gv_X11_196 hv_X0_stageOf ⟨Nat.le_of_ble_eq_true rfl, Nat.le_of_ble_eq_true rfl⟩ hl.1 rfl (Nat.le_of_ble_eq_true rfl) ⟨Nat.zero_le _, Nat.zero_le _⟩ dX11_open_18 (fun H locs w => ?_)
  refine lv_astore (lv' := [(4, .ref (B + 44)), (0, .ref (B + 0)), (1, .int 0), (2, .int p2), (3, .int p3)]) hx hb dX11_open_21 hl (by decide) rfl (fun ls hl => ?_)
  refine lv_aload hx hb dX11_open_23 (lv_at hl 0 rfl) ?_
  refine lv_iload_n hx hb dX11_open_25 rfl (lv_at hl 3 rfl) ?_
  refine x_Vi F w (As := [.int p2]) (rest := []) (a := 44) (by decide) (sh_9 rfl _ _) rfl (c_X9_hasTone_98 h2 (h3) h4) gv_X11_141 hv_X9_hasTone ⟨Nat.le_of_ble_eq_true rfl, Nat.le_of_ble_eq_true rfl⟩ hl.1 rfl (Nat.le_of_ble_eq_true rfl) ⟨Nat.zero_le _, Nat.zero_le _⟩ dX11_open_26 (fun H locs w => ?_)
  refine lv_if_eq (tgt := 41) hx hb dX11_open_29 (by decide) (fun _ => ?_) (fun c1 => absurd c1 (by decide))
  refine lv_iconst (v := (-1)) hx hb dX11_open_41 (by decide) ?_
  exact e_i F w hr hlocks ⟨rfl, rfl⟩ dX11_open_42
set_option maxRecDepth 4000 in
theorem c_X12_open_301 {l : Launch} {D : va_G} {B : Nat} {cy : Nat → ClassId} {M : Mem} {p2 : Int32} {p3 : Int32} (h0 : M.1 146 5 = 0) (h1 : M.1 147 0 = 0) (h2 : M.1 148 0 = 0) (h3 : M.1 147 1 = 0) (h4 : M.1 148 1 = 0) (h5 : M.1 147 2 = 0) (h6 : M.1 148 2 = 0) (h7 : M.1 147 3 = 0) (h8 : M.1 148 3 = 0) (h9 : M.1 147 4 = 0) (h10 : M.1 148 4 = 0) (h11 : M.1 147 5 = 0) (h12 : M.1 148 5 = 0) (h13 : M.1 147 6 = 0) (h14 : M.1 148 6 = 0) (h15 : M.1 147 7 = 0) (h16 : M.1 148 7 = 0) (h17 : M.1 147 8 = 0) (h18 : M.1 148 8 = 0) (h19 : M.1 147 9 = 0) (h20 : M.1 148 9 = 0) (h21 : M.1 147 10 = 0) (h22 : M.1 148 10 = 0) (h23 : M.1 147 11 = 0) (h24 : M.1 148 11 = 0) (h25 : M.1 147 12 = 0) (h26 : M.1 148 12 = 0) (h27 : M.1 147 13 = 0) (h28 : M.1 148 13 = 0) (h29 : M.1 147 14 = 0) (h30 : M.1 148 14 = 0) (h31 : M.1 147 15 = 0) (h32 : M.1 148 15 = 0) (h33 : M.1 147 16 = 0) (h34 : M.1 148 16 = 0) (h35 : M.1 147 17 = 0) (h36 : M.1 148 17 = 0) (h37 : M.1 147 18 = 0) (h38 : M.1 148 18 = 0) (h39 : M.1 147 19 = 0) (h40 : M.1 148 19 = 0) (h41 : M.1 147 20 = 0) (h42 : M.1 148 20 = 0) (h43 : M.1 147 21 = 0) (h44 : M.1 148 21 = 0) (h45 : M.1 147 22 = 0) (h46 : M.1 148 22 = 0) (h47 : M.1 147 23 = 0) (h48 : M.1 148 23 = 0) (h49 : M.1 147 24 = 0) (h50 : M.1 148 24 = 0) (h51 : M.1 147 25 = 0) (h52 : M.1 148 25 = 0) (h53 : M.1 147 26 = 0) (h54 : M.1 148 26 = 0) (h55 : M.1 147 27 = 0) (h56 : M.1 148 27 = 0) (h57 : ¬ p2 < 0) (h58 : (-1) < p2) : Ci l D B cy yX12_open cX12_open 4 (some .int) 3 66 [.ref (B + 146), .int 0, .int p2, .int p3] M (fun r M1 => r = (-1) ∧ M1 = M) := by
  refine s_any (by decide) (Nat.le_of_ble_eq_true rfl) ?_
  intro p e s m below meth c ls F hr hlocks w hl
  have F : CallFix p m c cX12_open 4 s _ TB RX12 := F
  have hx := F.1
  have hb := F.2.1
  have hl : lv_has ls 4 [(0, .ref (B + 146)), (1, .int 0), (2, .int p2), (3, .int p3)] := hl
  refine lv_aload_n hx hb dX12_open_0 rfl (lv_at hl 0 rfl) ?_
  refine lv_iload_n hx hb dX12_open_1 rfl (lv_at hl 1 rfl) ?_
  refine x_Vi F w (As := [.int 0]) (rest := []) (a := 146) (by decide) (sh_12 rfl _ _) rfl (c_X12_lays_224 (h0) (h1) (h2) (h3) (h4) (h5) (h6) (h7) (h8) (h9) (h10) (h11) (h12) (h13) (h14) (h15) (h16) (h17) (h18) (h19) (h20) (h21) (h22) (h23) (h24) (h25) (h26) (h27) (h28) (h29) (h30) (h31) (h32) (h33) (h34) (h35) (h36) (h37) (h38) (h39) (h40) (h41) (h42) (h43) (h44) (h45) (h46) (h47) (h48) (h49) (h50) (h51) (h52) (h53) (h54) (h55) (h56)) gv_X12_261 hv_X12_lays ⟨Nat.le_of_ble_eq_true rfl, Nat.le_of_ble_eq_true rfl⟩ hl.1 rfl (Nat.le_of_ble_eq_true rfl) ⟨Nat.zero_le _, Nat.zero_le _⟩ dX12_open_2 (fun H locs w => ?_)
  refine lv_if_eq (tgt := 30) hx hb dX12_open_5 (by decide) (fun c1 => absurd c1 (by decide)) (fun _ => ?_)
  refine lv_aload_n hx hb dX12_open_8 rfl (lv_at hl 0 rfl) ?_
  refine f_12_2 F w (a := 146) rfl tb_127 dX12_open_9 ?_
  refine lv_iload_n hx hb dX12_open_12 rfl (lv_at hl 2 rfl) ?_
  refine x_Si F w (As := [.ref (B + 148), .int p2]) (rest := []) (c_X12_isTone_272 (h2) h57 h58) gs_X12_105 hs_X12_isTone ⟨Nat.le_of_ble_eq_true rfl, Nat.le_of_ble_eq_true rfl⟩ hl.1 rfl (Nat.le_of_ble_eq_true rfl) ⟨Nat.zero_le _, Nat.zero_le _⟩ dX12_open_13 (fun H locs w => ?_)
  refine lv_if_eq (tgt := 30) hx hb dX12_open_16 (by decide) (fun _ => ?_) (fun c1 => absurd c1 (by decide))
  refine lv_iconst (v := (-1)) hx hb dX12_open_30 (by decide) ?_
  exact e_i F w hr hlocks ⟨rfl, rfl⟩ dX12_open_31
set_option maxRecDepth 8000 in
theorem la_19_70 {p : Program} {l : Launch} {e : Env} {s : State} {m : MethodId} {below : List Frame} {meth : Method} {c : Code} {D : va_G} {B b : Nat} {cy : Nat → ClassId} {H : Heap} {locs : List Loc} {ls : Array Slot} {xs : Nat → Int32} {Q : State → Prop} (F : CallFix p m c code 4 s #[Value.ref b] TB RL) (hX : va_X b 6 xs s s.heap) (hbl : b < s.heap.size) (hbA : ¬ B ≤ b) (w : Wd D B cy s s.heap M0 H locs) (hl : lv_has ls 4 [(3, .int 0), (2, .ref (B + 146)), (1, .ref (B + 0)), (0, .ref b)]) (x1 : xs 1 = 0) (h0 : ¬ (xs 2) < 0) (h1 : 0 ≤ (xs 2)) (h2 : (-1) < (xs 2)) (kk : ∀ (M1 : Mem) (H1 : Heap) (locs1 : List Loc), Wd D B cy s s.heap M1 H1 locs1 → W p l e room_1 s m #[Value.ref b] below meth c H1 locs1 159 13107 Q (F0 m 1065 ls [])) : W p l e room_1 s m #[Value.ref b] below meth c H locs 159 13107 Q (F0 m 795 ls []) := by
  have hx := F.1
  have hb := F.2.1
  refine lv_aload_n hx hb dL_law_795 rfl (lv_at hl 2 rfl) ?_
  refine lv_aload_n hx hb dL_law_796 rfl (lv_at hl 3 rfl) ?_
  refine lv_iload_n hx hb dL_law_797 rfl (lv_at hl 0 rfl) ?_
  refine lv_iconst (v := 1) hx hb dL_law_798 (by decide) ?_
  refine lv_iadd hx hb dL_law_799 ?_
  refine r_val (v := 1) (by decide) ?_
  refine va_sld hx hb hX hbl hbA w.2.2.1 (vpi (by decide) (by decide)) dL_law_800 ?_
  refine r_val (v := 0) ((congrArg xs (show (1 : Int32).toNatClampNeg = 1 by decide)).trans x1) ?_
  refine lv_aload_n hx hb dL_law_801 rfl (lv_at hl 3 rfl) ?_
  refine lv_iload_n hx hb dL_law_802 rfl (lv_at hl 0 rfl) ?_
  refine lv_iconst (v := 2) hx hb dL_law_803 (by decide) ?_
  refine lv_iadd hx hb dL_law_804 ?_
  refine r_val (v := 2) (by decide) ?_
  refine va_sld hx hb hX hbl hbA w.2.2.1 (vpi (by decide) (by decide)) dL_law_805 ?_
  refine r_val (v := xs 2) (congrArg xs (show (2 : Int32).toNatClampNeg = 2 by decide)) ?_
  refine lv_aload_n hx hb dL_law_806 rfl (lv_at hl 3 rfl) ?_
  refine lv_iload_n hx hb dL_law_807 rfl (lv_at hl 0 rfl) ?_
  refine lv_iconst (v := 3) hx hb dL_law_808 (by decide) ?_
  refine lv_iadd hx hb dL_law_809 ?_
  refine r_val (v := 3) (by decide) ?_
  refine va_sld hx hb hX hbl hbA w.2.2.1 (vpi (by decide) (by decide)) dL_law_810 ?_
  refine r_val (v := xs 3) (congrArg xs (show (3 : Int32).toNatClampNeg = 3 by decide)) ?_
  refine x_Vi F w (As := [.int 0, .int (xs 2), .int (xs 3)]) (rest := []) (a := 0) (by decide) (sh_11 rfl _ _) rfl (c_X11_open_300 (rfl) (rfl) h0 (rfl) h1) gv_L_99 hv_X11_open ⟨Nat.le_of_ble_eq_true rfl, Nat.le_of_ble_eq_true rfl⟩ hl.1 rfl (Nat.le_of_ble_eq_true rfl) ⟨Nat.le_of_ble_eq_true rfl, Nat.le_of_ble_eq_true rfl⟩ dL_law_811 (fun H locs w => ?_)
  refine lv_aload_n hx hb dL_law_814 rfl (lv_at hl 1 rfl) ?_
  refine lv_aload_n hx hb dL_law_815 rfl (lv_at hl 3 rfl) ?_
  refine lv_iload_n hx hb dL_law_816 rfl (lv_at hl 0 rfl) ?_
  refine lv_iconst (v := 1) hx hb dL_law_817 (by decide) ?_
  refine lv_iadd hx hb dL_law_818 ?_
  refine r_val (v := 1) (by decide) ?_
  refine va_sld hx hb hX hbl hbA w.2.2.1 (vpi (by decide) (by decide)) dL_law_819 ?_
  refine r_val (v := 0) ((congrArg xs (show (1 : Int32).toNatClampNeg = 1 by decide)).trans x1) ?_
  refine lv_aload_n hx hb dL_law_820 rfl (lv_at hl 3 rfl) ?_
  refine lv_iload_n hx hb dL_law_821 rfl (lv_at hl 0 rfl) ?_
  refine lv_iconst (v := 2) hx hb dL_law_822 (by decide) ?_
  refine lv_iadd hx hb dL_law_823 ?_
  refine r_val (v := 2) (by decide) ?_
  refine va_sld hx hb hX hbl hbA w.2.2.1 (vpi (by decide) (by decide)) dL_law_824 ?_
  refine r_val (v := xs 2) (congrArg xs (show (2 : Int32).toNatClampNeg = 2 by decide)) ?_
  refine lv_aload_n hx hb dL_law_825 rfl (lv_at hl 3 rfl) ?_
  refine lv_iload_n hx hb dL_law_826 rfl (lv_at hl 0 rfl) ?_
  refine lv_iconst (v := 3) hx hb dL_law_827 (by decide) ?_
  refine lv_iadd hx hb dL_law_828 ?_
  refine r_val (v := 3) (by decide) ?_
  refine va_sld hx hb hX hbl hbA w.2.2.1 (vpi (by decide) (by decide)) dL_law_829 ?_
  refine r_val (v := xs 3) (congrArg xs (show (3 : Int32).toNatClampNeg = 3 by decide)) ?_
  refine x_Vi F w (As := [.int 0, .int (xs 2), .int (xs 3)]) (rest := [.int (-1)]) (a := 146) (by decide) (sh_12 rfl _ _) rfl (c_X12_open_301 (rfl) (rfl) (rfl) (rfl) (rfl) (rfl) (rfl) (rfl) (rfl) (rfl) (rfl) (rfl) (rfl) (rfl) (rfl) (rfl) (rfl) (rfl) (rfl) (rfl) (rfl) (rfl) (rfl) (rfl) (rfl) (rfl) (rfl) (rfl) (rfl) (rfl) (rfl) (rfl) (rfl) (rfl) (rfl) (rfl) (rfl) (rfl) (rfl) (rfl) (rfl) (rfl) (rfl) (rfl) (rfl) (rfl) (rfl) (rfl) (rfl) (rfl) (rfl) (rfl) (rfl) (rfl) (rfl) (rfl) (rfl) h0 h2) gv_L_102 hv_X12_open ⟨Nat.le_of_ble_eq_true rfl, Nat.le_of_ble_eq_true rfl⟩ hl.1 rfl (Nat.le_of_ble_eq_true rfl) ⟨Nat.le_of_ble_eq_true rfl, Nat.le_of_ble_eq_true rfl⟩ dL_law_830 (fun H locs w => ?_)
  refine lv_icmp_eq (tgt := 1065) hx hb dL_law_833 (by decide) (fun _ => ?_) (fun c1 => absurd c1 (by decide))
  exact kk _ _ _ w
set_option maxRecDepth 4000 in
theorem c_X11_open_302 {l : Launch} {D : va_G} {B : Nat} {cy : Nat → ClassId} {M : Mem} {p1 : Int32} {p2 : Int32} {p3 : Int32} (h0 : ¬ p1 < 0) (h1 : M.1 22 2 = 0) (h2 : 0 < p1) : Ci l D B cy yX11_open cX11_open 5 (some .int) 1 21 [.ref (B + 0), .int p1, .int p2, .int p3] M (fun r M1 => r = (-1) ∧ M1 = M) := by
  refine s_any (by decide) (Nat.le_of_ble_eq_true rfl) ?_
  intro p e s m below meth c ls F hr hlocks w hl
  have F : CallFix p m c cX11_open 5 s _ TB RX11 := F
  have hx := F.1
  have hb := F.2.1
  have hl : lv_has ls 5 [(0, .ref (B + 0)), (1, .int p1), (2, .int p2), (3, .int p3)] := hl
  refine lv_aload_n hx hb dX11_open_0 rfl (lv_at hl 0 rfl) ?_
  refine f_11_3 F w (a := 0) rfl tb_73 dX11_open_1 ?_
  refine lv_iload_n hx hb dX11_open_4 rfl (lv_at hl 1 rfl) ?_
  refine x_Vi F w (As := [.int p1]) (rest := []) (a := 22) (by decide) (sh_0 rfl _ _) rfl (c_X0_covers_215 h0 (h1) h2) gv_X11_193 hv_X0_covers ⟨Nat.le_of_ble_eq_true rfl, Nat.le_of_ble_eq_true rfl⟩ hl.1 rfl (Nat.le_of_ble_eq_true rfl) ⟨Nat.zero_le _, Nat.zero_le _⟩ dX11_open_5 (fun H locs w => ?_)
  refine lv_if_ne (tgt := 13) hx hb dX11_open_8 (by decide) (fun c1 => absurd c1 (by decide)) (fun _ => ?_)
  refine lv_iconst (v := (-1)) hx hb dX11_open_11 (by decide) ?_
  exact e_i F w hr hlocks ⟨rfl, rfl⟩ dX11_open_12
set_option maxRecDepth 4000 in
theorem c_X12_open_303 {l : Launch} {D : va_G} {B : Nat} {cy : Nat → ClassId} {M : Mem} {p1 : Int32} {p2 : Int32} {p3 : Int32} (h0 : M.1 146 5 = 0) (h1 : ¬ p1 < 0) (h2 : 0 < p1) : Ci l D B cy yX12_open cX12_open 4 (some .int) 2 43 [.ref (B + 146), .int p1, .int p2, .int p3] M (fun r M1 => r = (-1) ∧ M1 = M) := by
  refine s_any (by decide) (Nat.le_of_ble_eq_true rfl) ?_
  intro p e s m below meth c ls F hr hlocks w hl
  have F : CallFix p m c cX12_open 4 s _ TB RX12 := F
  have hx := F.1
  have hb := F.2.1
  have hl : lv_has ls 4 [(0, .ref (B + 146)), (1, .int p1), (2, .int p2), (3, .int p3)] := hl
  refine lv_aload_n hx hb dX12_open_0 rfl (lv_at hl 0 rfl) ?_
  refine lv_iload_n hx hb dX12_open_1 rfl (lv_at hl 1 rfl) ?_
  refine x_Vi F w (As := [.int p1]) (rest := []) (a := 146) (by decide) (sh_12 rfl _ _) rfl (c_X12_lays_262 (h0) h1 h2) gv_X12_261 hv_X12_lays ⟨Nat.le_of_ble_eq_true rfl, Nat.le_of_ble_eq_true rfl⟩ hl.1 rfl (Nat.le_of_ble_eq_true rfl) ⟨Nat.zero_le _, Nat.zero_le _⟩ dX12_open_2 (fun H locs w => ?_)
  refine lv_if_eq (tgt := 30) hx hb dX12_open_5 (by decide) (fun _ => ?_) (fun c1 => absurd c1 (by decide))
  refine lv_iconst (v := (-1)) hx hb dX12_open_30 (by decide) ?_
  exact e_i F w hr hlocks ⟨rfl, rfl⟩ dX12_open_31
set_option maxRecDepth 8000 in
theorem la_19_71 {p : Program} {l : Launch} {e : Env} {s : State} {m : MethodId} {below : List Frame} {meth : Method} {c : Code} {D : va_G} {B b : Nat} {cy : Nat → ClassId} {H : Heap} {locs : List Loc} {ls : Array Slot} {xs : Nat → Int32} {Q : State → Prop} (F : CallFix p m c code 4 s #[Value.ref b] TB RL) (hX : va_X b 6 xs s s.heap) (hbl : b < s.heap.size) (hbA : ¬ B ≤ b) (w : Wd D B cy s s.heap M0 H locs) (hl : lv_has ls 4 [(3, .int 0), (2, .ref (B + 146)), (1, .ref (B + 0)), (0, .ref b)]) (h0 : ¬ (xs 1) < 0) (h1 : 0 < (xs 1)) (kk : ∀ (M1 : Mem) (H1 : Heap) (locs1 : List Loc), Wd D B cy s s.heap M1 H1 locs1 → W p l e room_1 s m #[Value.ref b] below meth c H1 locs1 159 13107 Q (F0 m 1065 ls [])) : W p l e room_1 s m #[Value.ref b] below meth c H locs 159 13107 Q (F0 m 795 ls []) := by
  have hx := F.1
  have hb := F.2.1
  refine lv_aload_n hx hb dL_law_795 rfl (lv_at hl 2 rfl) ?_
  refine lv_aload_n hx hb dL_law_796 rfl (lv_at hl 3 rfl) ?_
  refine lv_iload_n hx hb dL_law_797 rfl (lv_at hl 0 rfl) ?_
  refine lv_iconst (v := 1) hx hb dL_law_798 (by decide) ?_
  refine lv_iadd hx hb dL_law_799 ?_
  refine r_val (v := 1) (by decide) ?_
  refine va_sld hx hb hX hbl hbA w.2.2.1 (vpi (by decide) (by decide)) dL_law_800 ?_
  refine r_val (v := xs 1) (congrArg xs (show (1 : Int32).toNatClampNeg = 1 by decide)) ?_
  refine lv_aload_n hx hb dL_law_801 rfl (lv_at hl 3 rfl) ?_
  refine lv_iload_n hx hb dL_law_802 rfl (lv_at hl 0 rfl) ?_
  refine lv_iconst (v := 2) hx hb dL_law_803 (by decide) ?_
  refine lv_iadd hx hb dL_law_804 ?_
  refine r_val (v := 2) (by decide) ?_
  refine va_sld hx hb hX hbl hbA w.2.2.1 (vpi (by decide) (by decide)) dL_law_805 ?_
  refine r_val (v := xs 2) (congrArg xs (show (2 : Int32).toNatClampNeg = 2 by decide)) ?_
  refine lv_aload_n hx hb dL_law_806 rfl (lv_at hl 3 rfl) ?_
  refine lv_iload_n hx hb dL_law_807 rfl (lv_at hl 0 rfl) ?_
  refine lv_iconst (v := 3) hx hb dL_law_808 (by decide) ?_
  refine lv_iadd hx hb dL_law_809 ?_
  refine r_val (v := 3) (by decide) ?_
  refine va_sld hx hb hX hbl hbA w.2.2.1 (vpi (by decide) (by decide)) dL_law_810 ?_
  refine r_val (v := xs 3) (congrArg xs (show (3 : Int32).toNatClampNeg = 3 by decide)) ?_
  refine x_Vi F w (As := [.int (xs 1), .int (xs 2), .int (xs 3)]) (rest := []) (a := 0) (by decide) (sh_11 rfl _ _) rfl (c_X11_open_302 h0 (rfl) h1) gv_L_99 hv_X11_open ⟨Nat.le_of_ble_eq_true rfl, Nat.le_of_ble_eq_true rfl⟩ hl.1 rfl (Nat.le_of_ble_eq_true rfl) ⟨Nat.le_of_ble_eq_true rfl, Nat.le_of_ble_eq_true rfl⟩ dL_law_811 (fun H locs w => ?_)
  refine lv_aload_n hx hb dL_law_814 rfl (lv_at hl 1 rfl) ?_
  refine lv_aload_n hx hb dL_law_815 rfl (lv_at hl 3 rfl) ?_
  refine lv_iload_n hx hb dL_law_816 rfl (lv_at hl 0 rfl) ?_
  refine lv_iconst (v := 1) hx hb dL_law_817 (by decide) ?_
  refine lv_iadd hx hb dL_law_818 ?_
  refine r_val (v := 1) (by decide) ?_
  refine va_sld hx hb hX hbl hbA w.2.2.1 (vpi (by decide) (by decide)) dL_law_819 ?_
  refine r_val (v := xs 1) (congrArg xs (show (1 : Int32).toNatClampNeg = 1 by decide)) ?_
  refine lv_aload_n hx hb dL_law_820 rfl (lv_at hl 3 rfl) ?_
  refine lv_iload_n hx hb dL_law_821 rfl (lv_at hl 0 rfl) ?_
  refine lv_iconst (v := 2) hx hb dL_law_822 (by decide) ?_
  refine lv_iadd hx hb dL_law_823 ?_
  refine r_val (v := 2) (by decide) ?_
  refine va_sld hx hb hX hbl hbA w.2.2.1 (vpi (by decide) (by decide)) dL_law_824 ?_
  refine r_val (v := xs 2) (congrArg xs (show (2 : Int32).toNatClampNeg = 2 by decide)) ?_
  refine lv_aload_n hx hb dL_law_825 rfl (lv_at hl 3 rfl) ?_
  refine lv_iload_n hx hb dL_law_826 rfl (lv_at hl 0 rfl) ?_
  refine lv_iconst (v := 3) hx hb dL_law_827 (by decide) ?_
  refine lv_iadd hx hb dL_law_828 ?_
  refine r_val (v := 3) (by decide) ?_
  refine va_sld hx hb hX hbl hbA w.2.2.1 (vpi (by decide) (by decide)) dL_law_829 ?_
  refine r_val (v := xs 3) (congrArg xs (show (3 : Int32).toNatClampNeg = 3 by decide)) ?_
  refine x_Vi F w (As := [.int (xs 1), .int (xs 2), .int (xs 3)]) (rest := [.int (-1)]) (a := 146) (by decide) (sh_12 rfl _ _) rfl (c_X12_open_303 (rfl) h0 h1) gv_L_102 hv_X12_open ⟨Nat.le_of_ble_eq_true rfl, Nat.le_of_ble_eq_true rfl⟩ hl.1 rfl (Nat.le_of_ble_eq_true rfl) ⟨Nat.le_of_ble_eq_true rfl, Nat.le_of_ble_eq_true rfl⟩ dL_law_830 (fun H locs w => ?_)
  refine lv_icmp_eq (tgt := 1065) hx hb dL_law_833 (by decide) (fun _ => ?_) (fun c1 => absurd c1 (by decide))
  exact kk _ _ _ w
set_option maxRecDepth 8000 in
theorem lc_19 {p : Program} {l : Launch} {e : Env} {s : State} {m : MethodId} {below : List Frame} {meth : Method} {c : Code} {D : va_G} {B b : Nat} {cy : Nat → ClassId} {H : Heap} {locs : List Loc} {ls : Array Slot} {xs : Nat → Int32} {Q : State → Prop} (F : CallFix p m c code 4 s #[Value.ref b] TB RL) (hX : va_X b 6 xs s s.heap) (hbl : b < s.heap.size) (hbA : ¬ B ≤ b) (w : Wd D B cy s s.heap M0 H locs) (hl : lv_has ls 4 [(3, .int 0), (2, .ref (B + 146)), (1, .ref (B + 0)), (0, .ref b)]) (kk : ∀ (M1 : Mem) (H1 : Heap) (locs1 : List Loc), Wd D B cy s s.heap M1 H1 locs1 → W p l e room_1 s m #[Value.ref b] below meth c H1 locs1 159 13107 Q (F0 m 1065 ls [])) : W p l e room_1 s m #[Value.ref b] below meth c H locs 159 13107 Q (F0 m 795 ls []) := by
  rcases (show (xs 1).toInt < 0 ∨ (xs 1).toInt = 0 ∨ 0 < (xs 1).toInt by omega) with h1 | h1 | h1
  · skip
    exact la_19_68 F hX hbl hbA w hl (by rw [Int32.lt_iff_toInt_lt, show (0 : Int32).toInt = 0 from by decide]; omega) kk
  · have x1 : xs 1 = 0 := Int32.toInt_inj.mp (h1.trans (by decide))
    rcases (show (xs 2).toInt < 0 ∨ 0 ≤ (xs 2).toInt by omega) with h2 | h2
    · skip
      exact la_19_69 F hX hbl hbA w hl x1 (by rw [Int32.lt_iff_toInt_lt, show (0 : Int32).toInt = 0 from by decide]; omega) kk
    · skip
      exact la_19_70 F hX hbl hbA w hl x1 (by rw [Int32.lt_iff_toInt_lt, show (0 : Int32).toInt = 0 from by decide]; omega) (by rw [Int32.le_iff_toInt_le, show (0 : Int32).toInt = 0 from by decide]; omega) (by rw [Int32.lt_iff_toInt_lt, show (-1 : Int32).toInt = -1 from by decide]; omega) kk
  · skip
    exact la_19_71 F hX hbl hbA w hl (by rw [Int32.lt_iff_toInt_lt, show (0 : Int32).toInt = 0 from by decide]; omega) (by rw [Int32.lt_iff_toInt_lt, show (0 : Int32).toInt = 0 from by decide]; omega) kk
theorem dL_law_838 : decode cL_law 838 = .ok (.aload_n 1, 1) := by decide +kernel
theorem dL_law_839 : decode cL_law 839 = .ok (.aload_n 0, 1) := by decide +kernel
theorem dL_law_840 : decode cL_law 840 = .ok (.iload_n 3, 1) := by decide +kernel
theorem dL_law_841 : decode cL_law 841 = .ok (.iconst 1, 1) := by decide +kernel
theorem dL_law_842 : decode cL_law 842 = .ok (.iadd, 1) := by decide +kernel
theorem dL_law_843 : decode cL_law 843 = .ok (.iaload, 1) := by decide +kernel
theorem dL_law_844 : decode cL_law 844 = .ok (.aload_n 0, 1) := by decide +kernel
theorem dL_law_845 : decode cL_law 845 = .ok (.iload_n 3, 1) := by decide +kernel
theorem dL_law_846 : decode cL_law 846 = .ok (.iconst 2, 1) := by decide +kernel
theorem dL_law_847 : decode cL_law 847 = .ok (.iadd, 1) := by decide +kernel
theorem dL_law_848 : decode cL_law 848 = .ok (.iaload, 1) := by decide +kernel
theorem dL_law_849 : decode cL_law 849 = .ok (.invokevirtual 103, 3) := by decide +kernel
theorem dX11_spell_0 : decode cX11_spell 0 = .ok (.aload_n 0, 1) := by decide +kernel
theorem dX11_spell_1 : decode cX11_spell 1 = .ok (.getfield 35, 3) := by decide +kernel
theorem dX11_spell_4 : decode cX11_spell 4 = .ok (.iload_n 1, 1) := by decide +kernel
theorem dX11_spell_5 : decode cX11_spell 5 = .ok (.invokevirtual 193, 3) := by decide +kernel
theorem dX11_spell_8 : decode cX11_spell 8 = .ok (.ifCond .eq 8, 3) := by decide +kernel
theorem dX11_spell_16 : decode cX11_spell 16 = .ok (.iconst (-1), 1) := by decide +kernel
theorem dX11_spell_17 : decode cX11_spell 17 = .ok (.ireturn, 1) := by decide +kernel
set_option maxRecDepth 4000 in
theorem c_X11_spell_304 {l : Launch} {D : va_G} {B : Nat} {cy : Nat → ClassId} {M : Mem} {p1 : Int32} {p2 : Int32} (h0 : p1 < 0) : Ci l D B cy yX11_spell cX11_spell 3 (some .int) 1 21 [.ref (B + 0), .int p1, .int p2] M (fun r M1 => r = (-1) ∧ M1 = M) := by
  refine s_any (by decide) (Nat.le_of_ble_eq_true rfl) ?_
  intro p e s m below meth c ls F hr hlocks w hl
  have F : CallFix p m c cX11_spell 3 s _ TB RX11 := F
  have hx := F.1
  have hb := F.2.1
  have hl : lv_has ls 3 [(0, .ref (B + 0)), (1, .int p1), (2, .int p2)] := hl
  refine lv_aload_n hx hb dX11_spell_0 rfl (lv_at hl 0 rfl) ?_
  refine f_11_3 F w (a := 0) rfl tb_73 dX11_spell_1 ?_
  refine lv_iload_n hx hb dX11_spell_4 rfl (lv_at hl 1 rfl) ?_
  refine x_Vi F w (As := [.int p1]) (rest := []) (a := 22) (by decide) (sh_0 rfl _ _) rfl (c_X0_covers_203 h0) gv_X11_193 hv_X0_covers ⟨Nat.le_of_ble_eq_true rfl, Nat.le_of_ble_eq_true rfl⟩ hl.1 rfl (Nat.le_of_ble_eq_true rfl) ⟨Nat.zero_le _, Nat.zero_le _⟩ dX11_spell_5 (fun H locs w => ?_)
  refine lv_if_eq (tgt := 16) hx hb dX11_spell_8 (by decide) (fun _ => ?_) (fun c1 => absurd c1 (by decide))
  refine lv_iconst (v := (-1)) hx hb dX11_spell_16 (by decide) ?_
  exact e_i F w hr hlocks ⟨rfl, rfl⟩ dX11_spell_17
theorem tk_X11_spell : Cond.code yX11_spell cX11_spell 3 (some .int) ∈ TB := tbm (tc4 (List.mem_of_getElem? (i := 180) rfl)) rfl
theorem gc_X11_spell : GoodIn TB (cw yX11_spell cX11_spell 3 (some .int)) := goodIn_c2 tk_X11_spell
theorem tb_458 : Cond.methodLink "ToneLinesLaw" 103 yX11_spell ∈ TB := tbm (tc4 (List.mem_of_getElem? (i := 177) rfl)) rfl
theorem tb_459 : Cond.instanceMethod yX11_spell ∈ TB := tbm (tc4 (List.mem_of_getElem? (i := 178) rfl)) rfl
theorem tb_460 : Cond.selects "ToneLines" yX11_spell yX11_spell ∈ TB := tbm (tc4 (List.mem_of_getElem? (i := 179) rfl)) rfl
theorem gv_L_103 : GoodIn TB (wsV RL 103 RX11 yX11_spell (cw yX11_spell cX11_spell 3 (some .int))) := goodIn_4 tb_458 tb_459 tb_460 tb_145 gc_X11_spell
theorem hv_X11_spell : yX11_spell.cls = RX11 ∧ yX11_spell.cls ≠ "java/lang/invoke/MethodHandle" ∧ yX11_spell.cls ≠ "java/lang/invoke/VarHandle" ∧ (parseMethodDescriptor yX11_spell.desc).map (fun d => d.parameters.length) = some 2 := by decide +kernel
theorem dL_law_852 : decode cL_law 852 = .ok (.aload_n 2, 1) := by decide +kernel
theorem dL_law_853 : decode cL_law 853 = .ok (.aload_n 0, 1) := by decide +kernel
theorem dL_law_854 : decode cL_law 854 = .ok (.iload_n 3, 1) := by decide +kernel
theorem dL_law_855 : decode cL_law 855 = .ok (.iconst 1, 1) := by decide +kernel
theorem dL_law_856 : decode cL_law 856 = .ok (.iadd, 1) := by decide +kernel
theorem dL_law_857 : decode cL_law 857 = .ok (.iaload, 1) := by decide +kernel
theorem dL_law_858 : decode cL_law 858 = .ok (.aload_n 0, 1) := by decide +kernel
theorem dL_law_859 : decode cL_law 859 = .ok (.iload_n 3, 1) := by decide +kernel
theorem dL_law_860 : decode cL_law 860 = .ok (.iconst 2, 1) := by decide +kernel
theorem dL_law_861 : decode cL_law 861 = .ok (.iadd, 1) := by decide +kernel
theorem dL_law_862 : decode cL_law 862 = .ok (.iaload, 1) := by decide +kernel
theorem dL_law_863 : decode cL_law 863 = .ok (.invokevirtual 106, 3) := by decide +kernel
theorem dX12_spell_0 : decode cX12_spell 0 = .ok (.aload_n 0, 1) := by decide +kernel
theorem dX12_spell_1 : decode cX12_spell 1 = .ok (.iload_n 1, 1) := by decide +kernel
theorem dX12_spell_2 : decode cX12_spell 2 = .ok (.invokevirtual 261, 3) := by decide +kernel
theorem dX12_spell_5 : decode cX12_spell 5 = .ok (.ifCond .eq 8, 3) := by decide +kernel
theorem dX12_spell_13 : decode cX12_spell 13 = .ok (.iconst (-1), 1) := by decide +kernel
theorem dX12_spell_14 : decode cX12_spell 14 = .ok (.ireturn, 1) := by decide +kernel
set_option maxRecDepth 4000 in
theorem c_X12_spell_305 {l : Launch} {D : va_G} {B : Nat} {cy : Nat → ClassId} {M : Mem} {p1 : Int32} {p2 : Int32} (h0 : M.1 146 5 = 0) (h1 : p1 < 0) : Ci l D B cy yX12_spell cX12_spell 3 (some .int) 2 43 [.ref (B + 146), .int p1, .int p2] M (fun r M1 => r = (-1) ∧ M1 = M) := by
  refine s_any (by decide) (Nat.le_of_ble_eq_true rfl) ?_
  intro p e s m below meth c ls F hr hlocks w hl
  have F : CallFix p m c cX12_spell 3 s _ TB RX12 := F
  have hx := F.1
  have hb := F.2.1
  have hl : lv_has ls 3 [(0, .ref (B + 146)), (1, .int p1), (2, .int p2)] := hl
  refine lv_aload_n hx hb dX12_spell_0 rfl (lv_at hl 0 rfl) ?_
  refine lv_iload_n hx hb dX12_spell_1 rfl (lv_at hl 1 rfl) ?_
  refine x_Vi F w (As := [.int p1]) (rest := []) (a := 146) (by decide) (sh_12 rfl _ _) rfl (c_X12_lays_221 (h0) h1) gv_X12_261 hv_X12_lays ⟨Nat.le_of_ble_eq_true rfl, Nat.le_of_ble_eq_true rfl⟩ hl.1 rfl (Nat.le_of_ble_eq_true rfl) ⟨Nat.zero_le _, Nat.zero_le _⟩ dX12_spell_2 (fun H locs w => ?_)
  refine lv_if_eq (tgt := 13) hx hb dX12_spell_5 (by decide) (fun _ => ?_) (fun c1 => absurd c1 (by decide))
  refine lv_iconst (v := (-1)) hx hb dX12_spell_13 (by decide) ?_
  exact e_i F w hr hlocks ⟨rfl, rfl⟩ dX12_spell_14
theorem tk_X12_spell : Cond.code yX12_spell cX12_spell 3 (some .int) ∈ TB := tbm (tc6 (List.mem_of_getElem? (i := 212) rfl)) rfl
theorem gc_X12_spell : GoodIn TB (cw yX12_spell cX12_spell 3 (some .int)) := goodIn_c2 tk_X12_spell
theorem tb_461 : Cond.methodLink "ToneLinesLaw" 106 yX12_spell ∈ TB := tbm (tc6 (List.mem_of_getElem? (i := 209) rfl)) rfl
theorem tb_462 : Cond.instanceMethod yX12_spell ∈ TB := tbm (tc6 (List.mem_of_getElem? (i := 210) rfl)) rfl
theorem tb_463 : Cond.selects "ToneLinesModel" yX12_spell yX12_spell ∈ TB := tbm (tc6 (List.mem_of_getElem? (i := 211) rfl)) rfl
theorem gv_L_106 : GoodIn TB (wsV RL 106 RX12 yX12_spell (cw yX12_spell cX12_spell 3 (some .int))) := goodIn_4 tb_461 tb_462 tb_463 tb_150 gc_X12_spell
theorem hv_X12_spell : yX12_spell.cls = RX12 ∧ yX12_spell.cls ≠ "java/lang/invoke/MethodHandle" ∧ yX12_spell.cls ≠ "java/lang/invoke/VarHandle" ∧ (parseMethodDescriptor yX12_spell.desc).map (fun d => d.parameters.length) = some 2 := by decide +kernel
theorem dL_law_866 : decode cL_law 866 = .ok (.if_icmp .eq 199, 3) := by decide +kernel
set_option maxRecDepth 8000 in
theorem la_20_72 {p : Program} {l : Launch} {e : Env} {s : State} {m : MethodId} {below : List Frame} {meth : Method} {c : Code} {D : va_G} {B b : Nat} {cy : Nat → ClassId} {H : Heap} {locs : List Loc} {ls : Array Slot} {xs : Nat → Int32} {Q : State → Prop} (F : CallFix p m c code 4 s #[Value.ref b] TB RL) (hX : va_X b 6 xs s s.heap) (hbl : b < s.heap.size) (hbA : ¬ B ≤ b) (w : Wd D B cy s s.heap M0 H locs) (hl : lv_has ls 4 [(3, .int 0), (2, .ref (B + 146)), (1, .ref (B + 0)), (0, .ref b)]) (h0 : (xs 1) < 0) (kk : ∀ (M1 : Mem) (H1 : Heap) (locs1 : List Loc), Wd D B cy s s.heap M1 H1 locs1 → W p l e room_1 s m #[Value.ref b] below meth c H1 locs1 159 13107 Q (F0 m 1065 ls [])) : W p l e room_1 s m #[Value.ref b] below meth c H locs 159 13107 Q (F0 m 838 ls []) := by
  have hx := F.1
  have hb := F.2.1
  refine lv_aload_n hx hb dL_law_838 rfl (lv_at hl 2 rfl) ?_
  refine lv_aload_n hx hb dL_law_839 rfl (lv_at hl 3 rfl) ?_
  refine lv_iload_n hx hb dL_law_840 rfl (lv_at hl 0 rfl) ?_
  refine lv_iconst (v := 1) hx hb dL_law_841 (by decide) ?_
  refine lv_iadd hx hb dL_law_842 ?_
  refine r_val (v := 1) (by decide) ?_
  refine va_sld hx hb hX hbl hbA w.2.2.1 (vpi (by decide) (by decide)) dL_law_843 ?_
  refine r_val (v := xs 1) (congrArg xs (show (1 : Int32).toNatClampNeg = 1 by decide)) ?_
  refine lv_aload_n hx hb dL_law_844 rfl (lv_at hl 3 rfl) ?_
  refine lv_iload_n hx hb dL_law_845 rfl (lv_at hl 0 rfl) ?_
  refine lv_iconst (v := 2) hx hb dL_law_846 (by decide) ?_
  refine lv_iadd hx hb dL_law_847 ?_
  refine r_val (v := 2) (by decide) ?_
  refine va_sld hx hb hX hbl hbA w.2.2.1 (vpi (by decide) (by decide)) dL_law_848 ?_
  refine r_val (v := xs 2) (congrArg xs (show (2 : Int32).toNatClampNeg = 2 by decide)) ?_
  refine x_Vi F w (As := [.int (xs 1), .int (xs 2)]) (rest := []) (a := 0) (by decide) (sh_11 rfl _ _) rfl (c_X11_spell_304 h0) gv_L_103 hv_X11_spell ⟨Nat.le_of_ble_eq_true rfl, Nat.le_of_ble_eq_true rfl⟩ hl.1 rfl (Nat.le_of_ble_eq_true rfl) ⟨Nat.le_of_ble_eq_true rfl, Nat.le_of_ble_eq_true rfl⟩ dL_law_849 (fun H locs w => ?_)
  refine lv_aload_n hx hb dL_law_852 rfl (lv_at hl 1 rfl) ?_
  refine lv_aload_n hx hb dL_law_853 rfl (lv_at hl 3 rfl) ?_
  refine lv_iload_n hx hb dL_law_854 rfl (lv_at hl 0 rfl) ?_
  refine lv_iconst (v := 1) hx hb dL_law_855 (by decide) ?_
  refine lv_iadd hx hb dL_law_856 ?_
  refine r_val (v := 1) (by decide) ?_
  refine va_sld hx hb hX hbl hbA w.2.2.1 (vpi (by decide) (by decide)) dL_law_857 ?_
  refine r_val (v := xs 1) (congrArg xs (show (1 : Int32).toNatClampNeg = 1 by decide)) ?_
  refine lv_aload_n hx hb dL_law_858 rfl (lv_at hl 3 rfl) ?_
  refine lv_iload_n hx hb dL_law_859 rfl (lv_at hl 0 rfl) ?_
  refine lv_iconst (v := 2) hx hb dL_law_860 (by decide) ?_
  refine lv_iadd hx hb dL_law_861 ?_
  refine r_val (v := 2) (by decide) ?_
  refine va_sld hx hb hX hbl hbA w.2.2.1 (vpi (by decide) (by decide)) dL_law_862 ?_
  refine r_val (v := xs 2) (congrArg xs (show (2 : Int32).toNatClampNeg = 2 by decide)) ?_
  refine x_Vi F w (As := [.int (xs 1), .int (xs 2)]) (rest := [.int (-1)]) (a := 146) (by decide) (sh_12 rfl _ _) rfl (c_X12_spell_305 (rfl) h0) gv_L_106 hv_X12_spell ⟨Nat.le_of_ble_eq_true rfl, Nat.le_of_ble_eq_true rfl⟩ hl.1 rfl (Nat.le_of_ble_eq_true rfl) ⟨Nat.le_of_ble_eq_true rfl, Nat.le_of_ble_eq_true rfl⟩ dL_law_863 (fun H locs w => ?_)
  refine lv_icmp_eq (tgt := 1065) hx hb dL_law_866 (by decide) (fun _ => ?_) (fun c1 => absurd c1 (by decide))
  exact kk _ _ _ w
theorem dX11_spell_11 : decode cX11_spell 11 = .ok (.iload_n 2, 1) := by decide +kernel
theorem dX11_spell_12 : decode cX11_spell 12 = .ok (.iconst (-1), 1) := by decide +kernel
theorem dX11_spell_13 : decode cX11_spell 13 = .ok (.if_icmp .ge 5, 3) := by decide +kernel
set_option maxRecDepth 4000 in
theorem c_X11_spell_306 {l : Launch} {D : va_G} {B : Nat} {cy : Nat → ClassId} {M : Mem} {p2 : Int32} (h0 : M.1 22 2 = 0) (h1 : ¬ (-1) ≤ p2) : Ci l D B cy yX11_spell cX11_spell 3 (some .int) 1 21 [.ref (B + 0), .int 0, .int p2] M (fun r M1 => r = (-1) ∧ M1 = M) := by
  refine s_any (by decide) (Nat.le_of_ble_eq_true rfl) ?_
  intro p e s m below meth c ls F hr hlocks w hl
  have F : CallFix p m c cX11_spell 3 s _ TB RX11 := F
  have hx := F.1
  have hb := F.2.1
  have hl : lv_has ls 3 [(0, .ref (B + 0)), (1, .int 0), (2, .int p2)] := hl
  refine lv_aload_n hx hb dX11_spell_0 rfl (lv_at hl 0 rfl) ?_
  refine f_11_3 F w (a := 0) rfl tb_73 dX11_spell_1 ?_
  refine lv_iload_n hx hb dX11_spell_4 rfl (lv_at hl 1 rfl) ?_
  refine x_Vi F w (As := [.int 0]) (rest := []) (a := 22) (by decide) (sh_0 rfl _ _) rfl (c_X0_covers_206 (h0)) gv_X11_193 hv_X0_covers ⟨Nat.le_of_ble_eq_true rfl, Nat.le_of_ble_eq_true rfl⟩ hl.1 rfl (Nat.le_of_ble_eq_true rfl) ⟨Nat.zero_le _, Nat.zero_le _⟩ dX11_spell_5 (fun H locs w => ?_)
  refine lv_if_eq (tgt := 16) hx hb dX11_spell_8 (by decide) (fun c1 => absurd c1 (by decide)) (fun _ => ?_)
  refine lv_iload_n hx hb dX11_spell_11 rfl (lv_at hl 2 rfl) ?_
  refine lv_iconst (v := (-1)) hx hb dX11_spell_12 (by decide) ?_
  refine lv_icmp_ge (tgt := 18) hx hb dX11_spell_13 (by decide) (fun c1 => absurd c1 h1) (fun _ => ?_)
  refine lv_iconst (v := (-1)) hx hb dX11_spell_16 (by decide) ?_
  exact e_i F w hr hlocks ⟨rfl, rfl⟩ dX11_spell_17
theorem dX12_spell_8 : decode cX12_spell 8 = .ok (.iload_n 2, 1) := by decide +kernel
theorem dX12_spell_9 : decode cX12_spell 9 = .ok (.iconst (-1), 1) := by decide +kernel
theorem dX12_spell_10 : decode cX12_spell 10 = .ok (.if_icmp .ge 5, 3) := by decide +kernel
set_option maxRecDepth 4000 in
theorem c_X12_spell_307 {l : Launch} {D : va_G} {B : Nat} {cy : Nat → ClassId} {M : Mem} {p2 : Int32} (h0 : M.1 146 5 = 0) (h1 : M.1 147 0 = 0) (h2 : M.1 148 0 = 0) (h3 : M.1 147 1 = 0) (h4 : M.1 148 1 = 0) (h5 : M.1 147 2 = 0) (h6 : M.1 148 2 = 0) (h7 : M.1 147 3 = 0) (h8 : M.1 148 3 = 0) (h9 : M.1 147 4 = 0) (h10 : M.1 148 4 = 0) (h11 : M.1 147 5 = 0) (h12 : M.1 148 5 = 0) (h13 : M.1 147 6 = 0) (h14 : M.1 148 6 = 0) (h15 : M.1 147 7 = 0) (h16 : M.1 148 7 = 0) (h17 : M.1 147 8 = 0) (h18 : M.1 148 8 = 0) (h19 : M.1 147 9 = 0) (h20 : M.1 148 9 = 0) (h21 : M.1 147 10 = 0) (h22 : M.1 148 10 = 0) (h23 : M.1 147 11 = 0) (h24 : M.1 148 11 = 0) (h25 : M.1 147 12 = 0) (h26 : M.1 148 12 = 0) (h27 : M.1 147 13 = 0) (h28 : M.1 148 13 = 0) (h29 : M.1 147 14 = 0) (h30 : M.1 148 14 = 0) (h31 : M.1 147 15 = 0) (h32 : M.1 148 15 = 0) (h33 : M.1 147 16 = 0) (h34 : M.1 148 16 = 0) (h35 : M.1 147 17 = 0) (h36 : M.1 148 17 = 0) (h37 : M.1 147 18 = 0) (h38 : M.1 148 18 = 0) (h39 : M.1 147 19 = 0) (h40 : M.1 148 19 = 0) (h41 : M.1 147 20 = 0) (h42 : M.1 148 20 = 0) (h43 : M.1 147 21 = 0) (h44 : M.1 148 21 = 0) (h45 : M.1 147 22 = 0) (h46 : M.1 148 22 = 0) (h47 : M.1 147 23 = 0) (h48 : M.1 148 23 = 0) (h49 : M.1 147 24 = 0) (h50 : M.1 148 24 = 0) (h51 : M.1 147 25 = 0) (h52 : M.1 148 25 = 0) (h53 : M.1 147 26 = 0) (h54 : M.1 148 26 = 0) (h55 : M.1 147 27 = 0) (h56 : M.1 148 27 = 0) (h57 : ¬ (-1) ≤ p2) : Ci l D B cy yX12_spell cX12_spell 3 (some .int) 3 66 [.ref (B + 146), .int 0, .int p2] M (fun r M1 => r = (-1) ∧ M1 = M) := by
  refine s_any (by decide) (Nat.le_of_ble_eq_true rfl) ?_
  intro p e s m below meth c ls F hr hlocks w hl
  have F : CallFix p m c cX12_spell 3 s _ TB RX12 := F
  have hx := F.1
  have hb := F.2.1
  have hl : lv_has ls 3 [(0, .ref (B + 146)), (1, .int 0), (2, .int p2)] := hl
  refine lv_aload_n hx hb dX12_spell_0 rfl (lv_at hl 0 rfl) ?_
  refine lv_iload_n hx hb dX12_spell_1 rfl (lv_at hl 1 rfl) ?_
  refine x_Vi F w (As := [.int 0]) (rest := []) (a := 146) (by decide) (sh_12 rfl _ _) rfl (c_X12_lays_224 (h0) (h1) (h2) (h3) (h4) (h5) (h6) (h7) (h8) (h9) (h10) (h11) (h12) (h13) (h14) (h15) (h16) (h17) (h18) (h19) (h20) (h21) (h22) (h23) (h24) (h25) (h26) (h27) (h28) (h29) (h30) (h31) (h32) (h33) (h34) (h35) (h36) (h37) (h38) (h39) (h40) (h41) (h42) (h43) (h44) (h45) (h46) (h47) (h48) (h49) (h50) (h51) (h52) (h53) (h54) (h55) (h56)) gv_X12_261 hv_X12_lays ⟨Nat.le_of_ble_eq_true rfl, Nat.le_of_ble_eq_true rfl⟩ hl.1 rfl (Nat.le_of_ble_eq_true rfl) ⟨Nat.zero_le _, Nat.zero_le _⟩ dX12_spell_2 (fun H locs w => ?_)
  refine lv_if_eq (tgt := 13) hx hb dX12_spell_5 (by decide) (fun c1 => absurd c1 (by decide)) (fun _ => ?_)
  refine lv_iload_n hx hb dX12_spell_8 rfl (lv_at hl 2 rfl) ?_
  refine lv_iconst (v := (-1)) hx hb dX12_spell_9 (by decide) ?_
  refine lv_icmp_ge (tgt := 15) hx hb dX12_spell_10 (by decide) (fun c1 => absurd c1 h57) (fun _ => ?_)
  refine lv_iconst (v := (-1)) hx hb dX12_spell_13 (by decide) ?_
  exact e_i F w hr hlocks ⟨rfl, rfl⟩ dX12_spell_14
set_option maxRecDepth 8000 in
theorem la_20_73 {p : Program} {l : Launch} {e : Env} {s : State} {m : MethodId} {below : List Frame} {meth : Method} {c : Code} {D : va_G} {B b : Nat} {cy : Nat → ClassId} {H : Heap} {locs : List Loc} {ls : Array Slot} {xs : Nat → Int32} {Q : State → Prop} (F : CallFix p m c code 4 s #[Value.ref b] TB RL) (hX : va_X b 6 xs s s.heap) (hbl : b < s.heap.size) (hbA : ¬ B ≤ b) (w : Wd D B cy s s.heap M0 H locs) (hl : lv_has ls 4 [(3, .int 0), (2, .ref (B + 146)), (1, .ref (B + 0)), (0, .ref b)]) (x1 : xs 1 = 0) (h0 : ¬ (-1) ≤ (xs 2)) (kk : ∀ (M1 : Mem) (H1 : Heap) (locs1 : List Loc), Wd D B cy s s.heap M1 H1 locs1 → W p l e room_1 s m #[Value.ref b] below meth c H1 locs1 159 13107 Q (F0 m 1065 ls [])) : W p l e room_1 s m #[Value.ref b] below meth c H locs 159 13107 Q (F0 m 838 ls []) := by
  have hx := F.1
  have hb := F.2.1
  refine lv_aload_n hx hb dL_law_838 rfl (lv_at hl 2 rfl) ?_
  refine lv_aload_n hx hb dL_law_839 rfl (lv_at hl 3 rfl) ?_
  refine lv_iload_n hx hb dL_law_840 rfl (lv_at hl 0 rfl) ?_
  refine lv_iconst (v := 1) hx hb dL_law_841 (by decide) ?_
  refine lv_iadd hx hb dL_law_842 ?_
  refine r_val (v := 1) (by decide) ?_
  refine va_sld hx hb hX hbl hbA w.2.2.1 (vpi (by decide) (by decide)) dL_law_843 ?_
  refine r_val (v := 0) ((congrArg xs (show (1 : Int32).toNatClampNeg = 1 by decide)).trans x1) ?_
  refine lv_aload_n hx hb dL_law_844 rfl (lv_at hl 3 rfl) ?_
  refine lv_iload_n hx hb dL_law_845 rfl (lv_at hl 0 rfl) ?_
  refine lv_iconst (v := 2) hx hb dL_law_846 (by decide) ?_
  refine lv_iadd hx hb dL_law_847 ?_
  refine r_val (v := 2) (by decide) ?_
  refine va_sld hx hb hX hbl hbA w.2.2.1 (vpi (by decide) (by decide)) dL_law_848 ?_
  refine r_val (v := xs 2) (congrArg xs (show (2 : Int32).toNatClampNeg = 2 by decide)) ?_
  refine x_Vi F w (As := [.int 0, .int (xs 2)]) (rest := []) (a := 0) (by decide) (sh_11 rfl _ _) rfl (c_X11_spell_306 (rfl) h0) gv_L_103 hv_X11_spell ⟨Nat.le_of_ble_eq_true rfl, Nat.le_of_ble_eq_true rfl⟩ hl.1 rfl (Nat.le_of_ble_eq_true rfl) ⟨Nat.le_of_ble_eq_true rfl, Nat.le_of_ble_eq_true rfl⟩ dL_law_849 (fun H locs w => ?_)
  refine lv_aload_n hx hb dL_law_852 rfl (lv_at hl 1 rfl) ?_
  refine lv_aload_n hx hb dL_law_853 rfl (lv_at hl 3 rfl) ?_
  refine lv_iload_n hx hb dL_law_854 rfl (lv_at hl 0 rfl) ?_
  refine lv_iconst (v := 1) hx hb dL_law_855 (by decide) ?_
  refine lv_iadd hx hb dL_law_856 ?_
  refine r_val (v := 1) (by decide) ?_
  refine va_sld hx hb hX hbl hbA w.2.2.1 (vpi (by decide) (by decide)) dL_law_857 ?_
  refine r_val (v := 0) ((congrArg xs (show (1 : Int32).toNatClampNeg = 1 by decide)).trans x1) ?_
  refine lv_aload_n hx hb dL_law_858 rfl (lv_at hl 3 rfl) ?_
  refine lv_iload_n hx hb dL_law_859 rfl (lv_at hl 0 rfl) ?_
  refine lv_iconst (v := 2) hx hb dL_law_860 (by decide) ?_
  refine lv_iadd hx hb dL_law_861 ?_
  refine r_val (v := 2) (by decide) ?_
  refine va_sld hx hb hX hbl hbA w.2.2.1 (vpi (by decide) (by decide)) dL_law_862 ?_
  refine r_val (v := xs 2) (congrArg xs (show (2 : Int32).toNatClampNeg = 2 by decide)) ?_
  refine x_Vi F w (As := [.int 0, .int (xs 2)]) (rest := [.int (-1)]) (a := 146) (by decide) (sh_12 rfl _ _) rfl (c_X12_spell_307 (rfl) (rfl) (rfl) (rfl) (rfl) (rfl) (rfl) (rfl) (rfl) (rfl) (rfl) (rfl) (rfl) (rfl) (rfl) (rfl) (rfl) (rfl) (rfl) (rfl) (rfl) (rfl) (rfl) (rfl) (rfl) (rfl) (rfl) (rfl) (rfl) (rfl) (rfl) (rfl) (rfl) (rfl) (rfl) (rfl) (rfl) (rfl) (rfl) (rfl) (rfl) (rfl) (rfl) (rfl) (rfl) (rfl) (rfl) (rfl) (rfl) (rfl) (rfl) (rfl) (rfl) (rfl) (rfl) (rfl) (rfl) h0) gv_L_106 hv_X12_spell ⟨Nat.le_of_ble_eq_true rfl, Nat.le_of_ble_eq_true rfl⟩ hl.1 rfl (Nat.le_of_ble_eq_true rfl) ⟨Nat.le_of_ble_eq_true rfl, Nat.le_of_ble_eq_true rfl⟩ dL_law_863 (fun H locs w => ?_)
  refine lv_icmp_eq (tgt := 1065) hx hb dL_law_866 (by decide) (fun _ => ?_) (fun c1 => absurd c1 (by decide))
  exact kk _ _ _ w
theorem dX11_spell_18 : decode cX11_spell 18 = .ok (.aload_n 0, 1) := by decide +kernel
theorem dX11_spell_19 : decode cX11_spell 19 = .ok (.getfield 68, 3) := by decide +kernel
theorem dX11_spell_22 : decode cX11_spell 22 = .ok (.aload_n 0, 1) := by decide +kernel
theorem dX11_spell_23 : decode cX11_spell 23 = .ok (.getfield 35, 3) := by decide +kernel
theorem dX11_spell_26 : decode cX11_spell 26 = .ok (.iload_n 1, 1) := by decide +kernel
theorem dX11_spell_27 : decode cX11_spell 27 = .ok (.invokevirtual 196, 3) := by decide +kernel
theorem dX11_spell_30 : decode cX11_spell 30 = .ok (.invokevirtual 245, 3) := by decide +kernel
theorem dX7_write_0 : decode cX7_write 0 = .ok (.aload_n 0, 1) := by decide +kernel
theorem dX7_write_1 : decode cX7_write 1 = .ok (.iconst 0, 1) := by decide +kernel
theorem dX7_write_2 : decode cX7_write 2 = .ok (.putfield 15, 3) := by decide +kernel
theorem dX7_write_5 : decode cX7_write 5 = .ok (.iconst 0, 1) := by decide +kernel
theorem dX7_write_6 : decode cX7_write 6 = .ok (.istore_n 2, 1) := by decide +kernel
theorem dX7_write_7 : decode cX7_write 7 = .ok (.iload_n 2, 1) := by decide +kernel
theorem dX7_write_8 : decode cX7_write 8 = .ok (.aload_n 1, 1) := by decide +kernel
theorem dX7_write_9 : decode cX7_write 9 = .ok (.getfield 19, 3) := by decide +kernel
theorem tb_464 : Cond.fieldLink "ToneLines$Speller" 19 "ToneLines$Word" "tones" "I" ∈ TB := tbm (tc1 (List.mem_of_getElem? (i := 130) rfl)) rfl
theorem dX7_write_12 : decode cX7_write 12 = .ok (.if_icmp .ge 40, 3) := by decide +kernel
theorem dX7_write_52 : decode cX7_write 52 = .ok (.aload_n 0, 1) := by decide +kernel
theorem dX7_write_53 : decode cX7_write 53 = .ok (.bipush 47, 2) := by decide +kernel
theorem dX7_write_55 : decode cX7_write 55 = .ok (.invokevirtual 28, 3) := by decide +kernel
theorem dX7_put_0 : decode cX7_put 0 = .ok (.aload_n 0, 1) := by decide +kernel
theorem dX7_put_1 : decode cX7_put 1 = .ok (.getfield 15, 3) := by decide +kernel
theorem dX7_put_4 : decode cX7_put 4 = .ok (.sipush 256, 3) := by decide +kernel
theorem dX7_put_7 : decode cX7_put 7 = .ok (.if_icmp .ge 23, 3) := by decide +kernel
theorem dX7_put_10 : decode cX7_put 10 = .ok (.aload_n 0, 1) := by decide +kernel
theorem dX7_put_11 : decode cX7_put 11 = .ok (.getfield 9, 3) := by decide +kernel
theorem dX7_put_14 : decode cX7_put 14 = .ok (.aload_n 0, 1) := by decide +kernel
theorem dX7_put_15 : decode cX7_put 15 = .ok (.getfield 15, 3) := by decide +kernel
theorem dX7_put_18 : decode cX7_put 18 = .ok (.iload_n 1, 1) := by decide +kernel
theorem dX7_put_19 : decode cX7_put 19 = .ok (.castore, 1) := by decide +kernel
theorem dX7_put_20 : decode cX7_put 20 = .ok (.aload_n 0, 1) := by decide +kernel
theorem dX7_put_21 : decode cX7_put 21 = .ok (.dup, 1) := by decide +kernel
theorem dX7_put_22 : decode cX7_put 22 = .ok (.getfield 15, 3) := by decide +kernel
theorem dX7_put_25 : decode cX7_put 25 = .ok (.iconst 1, 1) := by decide +kernel
theorem dX7_put_26 : decode cX7_put 26 = .ok (.iadd, 1) := by decide +kernel
theorem dX7_put_27 : decode cX7_put 27 = .ok (.putfield 15, 3) := by decide +kernel
theorem dX7_put_30 : decode cX7_put 30 = .ok (.return_, 1) := by decide +kernel
set_option maxRecDepth 4000 in
theorem c_X7_put_308 {l : Launch} {D : va_G} {B : Nat} {cy : Nat → ClassId} {M : Mem} (h0 : M.1 141 1 = 0) (h1 : M.1 142 0 = 0) : Cv l D B cy yX7_put cX7_put 2 0 0 [.ref (B + 141), .int 47] M (fun M1 => M1 = (st (st M 142 0 47) 141 1 1)) := by
  refine s_any (by decide) (Nat.le_of_ble_eq_true rfl) ?_
  intro p e s m below meth c ls F hr hlocks w hl
  have F : CallFix p m c cX7_put 2 s _ TB RX7 := F
  have hx := F.1
  have hb := F.2.1
  have hl : lv_has ls 2 [(0, .ref (B + 141)), (1, .int 47)] := hl
  refine lv_aload_n hx hb dX7_put_0 rfl (lv_at hl 0 rfl) ?_
  refine f_7_1 F w (a := 141) rfl tb_120 dX7_put_1 ?_
  refine r_val (v := 0) (h0) ?_
  refine lv_sipush (v := 256) hx hb dX7_put_4 (by decide) ?_
  refine lv_icmp_ge (tgt := 30) hx hb dX7_put_7 (by decide) (fun c1 => absurd c1 (by decide)) (fun _ => ?_)
  refine lv_aload_n hx hb dX7_put_10 rfl (lv_at hl 0 rfl) ?_
  refine f_7_0 F w (a := 141) rfl tb_119 dX7_put_11 ?_
  refine lv_aload_n hx hb dX7_put_14 rfl (lv_at hl 0 rfl) ?_
  refine f_7_1 F w (a := 141) rfl tb_120 dX7_put_15 ?_
  refine r_val (v := 0) (h0) ?_
  refine lv_iload_n hx hb dX7_put_18 rfl (lv_at hl 1 rfl) ?_
  refine g_cast F w (a := 142) rfl (j := 0) ⟨by decide, by decide⟩ (by decide) dX7_put_19 (fun H locs w => ?_)
  rw [show vp_nar .char 47 = 47 by decide] at w
  refine lv_aload_n hx hb dX7_put_20 rfl (lv_at hl 0 rfl) ?_
  refine lv_dup hx hb dX7_put_21 rfl ?_
  refine f_7_1 F w (a := 141) rfl tb_120 dX7_put_22 ?_
  refine r_val (v := 0) ((st_ne (by decide)).trans h0) ?_
  refine lv_iconst (v := 1) hx hb dX7_put_25 (by decide) ?_
  refine lv_iadd hx hb dX7_put_26 ?_
  refine r_val (v := 1) (by decide) ?_
  refine u_7_1 F w (a := 141) rfl tb_120 dX7_put_27 (fun H locs w => ?_)
  exact e_v F w hr hlocks rfl dX7_put_30
theorem tk_X7_put : Cond.code yX7_put cX7_put 2 none ∈ TB := tbm (tc4 (List.mem_of_getElem? (i := 189) rfl)) rfl
theorem gc_X7_put : GoodIn TB (cw yX7_put cX7_put 2 none) := goodIn_c2 tk_X7_put
theorem tb_465 : Cond.methodLink "ToneLines$Speller" 28 yX7_put ∈ TB := tbm (tc4 (List.mem_of_getElem? (i := 186) rfl)) rfl
theorem tb_466 : Cond.instanceMethod yX7_put ∈ TB := tbm (tc4 (List.mem_of_getElem? (i := 188) rfl)) rfl
theorem tb_467 : Cond.selects "ToneLines$Speller" yX7_put yX7_put ∈ TB := tbp (List.mem_of_getElem? (i := 30) rfl) rfl
theorem gv_X7_28 : GoodIn TB (wsV RX7 28 RX7 yX7_put (cw yX7_put cX7_put 2 none)) := goodIn_4 tb_465 tb_466 tb_467 tb_116 gc_X7_put
theorem hv_X7_put : yX7_put.cls = RX7 ∧ yX7_put.cls ≠ "java/lang/invoke/MethodHandle" ∧ yX7_put.cls ≠ "java/lang/invoke/VarHandle" ∧ (parseMethodDescriptor yX7_put.desc).map (fun d => d.parameters.length) = some 1 := by decide +kernel
theorem dX7_write_58 : decode cX7_write 58 = .ok (.iconst 0, 1) := by decide +kernel
theorem dX7_write_59 : decode cX7_write 59 = .ok (.istore_n 2, 1) := by decide +kernel
theorem dX7_write_60 : decode cX7_write 60 = .ok (.iload_n 2, 1) := by decide +kernel
theorem dX7_write_61 : decode cX7_write 61 = .ok (.aload_n 1, 1) := by decide +kernel
theorem dX7_write_62 : decode cX7_write 62 = .ok (.getfield 32, 3) := by decide +kernel
theorem tb_468 : Cond.fieldLink "ToneLines$Speller" 32 "ToneLines$Word" "syllables" "I" ∈ TB := tbm (tc1 (List.mem_of_getElem? (i := 135) rfl)) rfl
theorem dX7_write_65 : decode cX7_write 65 = .ok (.if_icmp .ge 42, 3) := by decide +kernel
theorem dX7_write_107 : decode cX7_write 107 = .ok (.aload_n 0, 1) := by decide +kernel
theorem dX7_write_108 : decode cX7_write 108 = .ok (.bipush 47, 2) := by decide +kernel
theorem dX7_write_110 : decode cX7_write 110 = .ok (.invokevirtual 28, 3) := by decide +kernel
set_option maxRecDepth 4000 in
theorem c_X7_put_309 {l : Launch} {D : va_G} {B : Nat} {cy : Nat → ClassId} {M : Mem} (h0 : M.1 141 1 = 1) (h1 : M.1 142 1 = 0) : Cv l D B cy yX7_put cX7_put 2 0 0 [.ref (B + 141), .int 47] M (fun M1 => M1 = (st (st M 142 1 47) 141 1 2)) := by
  refine s_any (by decide) (Nat.le_of_ble_eq_true rfl) ?_
  intro p e s m below meth c ls F hr hlocks w hl
  have F : CallFix p m c cX7_put 2 s _ TB RX7 := F
  have hx := F.1
  have hb := F.2.1
  have hl : lv_has ls 2 [(0, .ref (B + 141)), (1, .int 47)] := hl
  refine lv_aload_n hx hb dX7_put_0 rfl (lv_at hl 0 rfl) ?_
  refine f_7_1 F w (a := 141) rfl tb_120 dX7_put_1 ?_
  refine r_val (v := 1) (h0) ?_
  refine lv_sipush (v := 256) hx hb dX7_put_4 (by decide) ?_
  refine lv_icmp_ge (tgt := 30) hx hb dX7_put_7 (by decide) (fun c1 => absurd c1 (by decide)) (fun _ => ?_)
  refine lv_aload_n hx hb dX7_put_10 rfl (lv_at hl 0 rfl) ?_
  refine f_7_0 F w (a := 141) rfl tb_119 dX7_put_11 ?_
  refine lv_aload_n hx hb dX7_put_14 rfl (lv_at hl 0 rfl) ?_
  refine f_7_1 F w (a := 141) rfl tb_120 dX7_put_15 ?_
  refine r_val (v := 1) (h0) ?_
  refine lv_iload_n hx hb dX7_put_18 rfl (lv_at hl 1 rfl) ?_
  refine g_cast F w (a := 142) rfl (j := 1) ⟨by decide, by decide⟩ (by decide) dX7_put_19 (fun H locs w => ?_)
  rw [show vp_nar .char 47 = 47 by decide] at w
  refine lv_aload_n hx hb dX7_put_20 rfl (lv_at hl 0 rfl) ?_
  refine lv_dup hx hb dX7_put_21 rfl ?_
  refine f_7_1 F w (a := 141) rfl tb_120 dX7_put_22 ?_
  refine r_val (v := 1) ((st_ne (by decide)).trans h0) ?_
  refine lv_iconst (v := 1) hx hb dX7_put_25 (by decide) ?_
  refine lv_iadd hx hb dX7_put_26 ?_
  refine r_val (v := 2) (by decide) ?_
  refine u_7_1 F w (a := 141) rfl tb_120 dX7_put_27 (fun H locs w => ?_)
  exact e_v F w hr hlocks rfl dX7_put_30
theorem dX7_write_113 : decode cX7_write 113 = .ok (.aload_n 0, 1) := by decide +kernel
theorem dX7_write_114 : decode cX7_write 114 = .ok (.aload_n 1, 1) := by decide +kernel
theorem dX7_write_115 : decode cX7_write 115 = .ok (.invokevirtual 42, 3) := by decide +kernel
theorem dX7_writeLines_0 : decode cX7_writeLines 0 = .ok (.iconst 1, 1) := by decide +kernel
theorem dX7_writeLines_1 : decode cX7_writeLines 1 = .ok (.istore_n 2, 1) := by decide +kernel
theorem dX7_writeLines_2 : decode cX7_writeLines 2 = .ok (.iconst 0, 1) := by decide +kernel
theorem dX7_writeLines_3 : decode cX7_writeLines 3 = .ok (.istore_n 3, 1) := by decide +kernel
theorem dX7_writeLines_4 : decode cX7_writeLines 4 = .ok (.iload_n 3, 1) := by decide +kernel
theorem dX7_writeLines_5 : decode cX7_writeLines 5 = .ok (.aload_n 1, 1) := by decide +kernel
theorem dX7_writeLines_6 : decode cX7_writeLines 6 = .ok (.getfield 19, 3) := by decide +kernel
theorem dX7_writeLines_9 : decode cX7_writeLines 9 = .ok (.if_icmp .ge 65, 3) := by decide +kernel
theorem dX7_writeLines_74 : decode cX7_writeLines 74 = .ok (.return_, 1) := by decide +kernel
set_option maxRecDepth 4000 in
theorem c_X7_writeLines_310 {l : Launch} {D : va_G} {B : Nat} {cy : Nat → ClassId} {M : Mem} (h0 : M.1 44 0 = 0) : Cv l D B cy yX7_writeLines cX7_writeLines 5 0 0 [.ref (B + 141), .ref (B + 44)] M (fun M1 => M1 = M) := by
  refine s_any (by decide) (Nat.le_of_ble_eq_true rfl) ?_
  intro p e s m below meth c ls F hr hlocks w hl
  have F : CallFix p m c cX7_writeLines 5 s _ TB RX7 := F
  have hx := F.1
  have hb := F.2.1
  have hl : lv_has ls 5 [(0, .ref (B + 141)), (1, .ref (B + 44))] := hl
  refine lv_iconst (v := 1) hx hb dX7_writeLines_0 (by decide) ?_
  refine lv_istore_n (lv' := [(2, .int 1), (0, .ref (B + 141)), (1, .ref (B + 44))]) hx hb dX7_writeLines_1 rfl hl (by decide) rfl (fun ls hl => ?_)
  refine lv_iconst (v := 0) hx hb dX7_writeLines_2 (by decide) ?_
  refine lv_istore_n (lv' := [(3, .int 0), (2, .int 1), (0, .ref (B + 141)), (1, .ref (B + 44))]) hx hb dX7_writeLines_3 rfl hl (by decide) rfl (fun ls hl => ?_)
  refine lv_iload_n hx hb dX7_writeLines_4 rfl (lv_at hl 0 rfl) ?_
  refine lv_aload_n hx hb dX7_writeLines_5 rfl (lv_at hl 3 rfl) ?_
  refine f_9_0 F w (a := 44) rfl tb_464 dX7_writeLines_6 ?_
  refine r_val (v := 0) (h0) ?_
  refine lv_icmp_ge (tgt := 74) hx hb dX7_writeLines_9 (by decide) (fun _ => ?_) (fun c1 => absurd c1 (by decide))
  exact e_v F w hr hlocks rfl dX7_writeLines_74
theorem tk_X7_writeLines : Cond.code yX7_writeLines cX7_writeLines 5 none ∈ TB := tbm (tc4 (List.mem_of_getElem? (i := 195) rfl)) rfl
theorem gc_X7_writeLines : GoodIn TB (cw yX7_writeLines cX7_writeLines 5 none) := goodIn_c2 tk_X7_writeLines
theorem tb_469 : Cond.methodLink "ToneLines$Speller" 42 yX7_writeLines ∈ TB := tbm (tc4 (List.mem_of_getElem? (i := 192) rfl)) rfl
theorem tb_470 : Cond.instanceMethod yX7_writeLines ∈ TB := tbm (tc4 (List.mem_of_getElem? (i := 194) rfl)) rfl
theorem tb_471 : Cond.selects "ToneLines$Speller" yX7_writeLines yX7_writeLines ∈ TB := tbp (List.mem_of_getElem? (i := 31) rfl) rfl
theorem gv_X7_42 : GoodIn TB (wsV RX7 42 RX7 yX7_writeLines (cw yX7_writeLines cX7_writeLines 5 none)) := goodIn_4 tb_469 tb_470 tb_471 tb_116 gc_X7_writeLines
theorem hv_X7_writeLines : yX7_writeLines.cls = RX7 ∧ yX7_writeLines.cls ≠ "java/lang/invoke/MethodHandle" ∧ yX7_writeLines.cls ≠ "java/lang/invoke/VarHandle" ∧ (parseMethodDescriptor yX7_writeLines.desc).map (fun d => d.parameters.length) = some 1 := by decide +kernel
theorem dX7_write_118 : decode cX7_write 118 = .ok (.return_, 1) := by decide +kernel
set_option maxRecDepth 4000 in
theorem c_X7_write_311 {l : Launch} {D : va_G} {B : Nat} {cy : Nat → ClassId} {M : Mem} (h0 : M.1 141 1 = 0) (h1 : M.1 44 0 = 0) (h2 : M.1 142 0 = 0) (h3 : M.1 44 1 = 0) (h4 : M.1 142 1 = 0) : Cv l D B cy yX7_write cX7_write 4 1 24 [.ref (B + 141), .ref (B + 44)] M (fun M1 => M1 = (st (st (st (st M 142 0 47) 141 1 1) 142 1 47) 141 1 2)) := by
  refine s_any (by decide) (Nat.le_of_ble_eq_true rfl) ?_
  intro p e s m below meth c ls F hr hlocks w hl
  have F : CallFix p m c cX7_write 4 s _ TB RX7 := F
  have hx := F.1
  have hb := F.2.1
  have hl : lv_has ls 4 [(0, .ref (B + 141)), (1, .ref (B + 44))] := hl
  refine lv_aload_n hx hb dX7_write_0 rfl (lv_at hl 0 rfl) ?_
  refine lv_iconst (v := 0) hx hb dX7_write_1 (by decide) ?_
  refine u_7_1 F w (a := 141) rfl tb_120 dX7_write_2 (fun H locs w => ?_)
  rw [st_same (h0)] at w
  refine lv_iconst (v := 0) hx hb dX7_write_5 (by decide) ?_
  refine lv_istore_n (lv' := [(2, .int 0), (0, .ref (B + 141)), (1, .ref (B + 44))]) hx hb dX7_write_6 rfl hl (by decide) rfl (fun ls hl => ?_)
  refine lv_iload_n hx hb dX7_write_7 rfl (lv_at hl 0 rfl) ?_
  refine lv_aload_n hx hb dX7_write_8 rfl (lv_at hl 2 rfl) ?_
  refine f_9_0 F w (a := 44) rfl tb_464 dX7_write_9 ?_
  refine r_val (v := 0) (h1) ?_
  refine lv_icmp_ge (tgt := 52) hx hb dX7_write_12 (by decide) (fun _ => ?_) (fun c1 => absurd c1 (by decide))
  refine lv_aload_n hx hb dX7_write_52 rfl (lv_at hl 1 rfl) ?_
  refine lv_bipush (v := 47) hx hb dX7_write_53 (by decide) ?_
  refine x_Vv F w (As := [.int 47]) (rest := []) (a := 141) (by decide) (sh_7 rfl _ _) rfl (c_X7_put_308 (h0) (h2)) gv_X7_28 hv_X7_put ⟨Nat.le_of_ble_eq_true rfl, Nat.le_of_ble_eq_true rfl⟩ hl.1 rfl (Nat.le_of_ble_eq_true rfl) ⟨Nat.zero_le _, Nat.zero_le _⟩ dX7_write_55 (fun H locs w => ?_)
  refine lv_iconst (v := 0) hx hb dX7_write_58 (by decide) ?_
  refine lv_istore_n (lv' := [(2, .int 0), (0, .ref (B + 141)), (1, .ref (B + 44))]) hx hb dX7_write_59 rfl hl (by decide) rfl (fun ls hl => ?_)
  refine lv_iload_n hx hb dX7_write_60 rfl (lv_at hl 0 rfl) ?_
  refine lv_aload_n hx hb dX7_write_61 rfl (lv_at hl 2 rfl) ?_
  refine f_9_1 F w (a := 44) rfl tb_468 dX7_write_62 ?_
  refine r_val (v := 0) ((st_ne (by decide)).trans ((st_ne (by decide)).trans h3)) ?_
  refine lv_icmp_ge (tgt := 107) hx hb dX7_write_65 (by decide) (fun _ => ?_) (fun c1 => absurd c1 (by decide))
  refine lv_aload_n hx hb dX7_write_107 rfl (lv_at hl 1 rfl) ?_
  refine lv_bipush (v := 47) hx hb dX7_write_108 (by decide) ?_
  refine x_Vv F w (As := [.int 47]) (rest := []) (a := 141) (by decide) (sh_7 rfl _ _) rfl (c_X7_put_309 (st_at) ((st_ne (by decide)).trans ((st_ne (by decide)).trans h4))) gv_X7_28 hv_X7_put ⟨Nat.le_of_ble_eq_true rfl, Nat.le_of_ble_eq_true rfl⟩ hl.1 rfl (Nat.le_of_ble_eq_true rfl) ⟨Nat.zero_le _, Nat.zero_le _⟩ dX7_write_110 (fun H locs w => ?_)
  refine lv_aload_n hx hb dX7_write_113 rfl (lv_at hl 1 rfl) ?_
  refine lv_aload_n hx hb dX7_write_114 rfl (lv_at hl 2 rfl) ?_
  refine x_Vv F w (As := [.ref (B + 44)]) (rest := []) (a := 141) (by decide) (sh_7 rfl _ _) rfl (c_X7_writeLines_310 ((st_ne (by decide)).trans ((st_ne (by decide)).trans ((st_ne (by decide)).trans ((st_ne (by decide)).trans h1))))) gv_X7_42 hv_X7_writeLines ⟨Nat.le_of_ble_eq_true rfl, Nat.le_of_ble_eq_true rfl⟩ hl.1 rfl (Nat.le_of_ble_eq_true rfl) ⟨Nat.zero_le _, Nat.zero_le _⟩ dX7_write_115 (fun H locs w => ?_)
  exact e_v F w hr hlocks rfl dX7_write_118
theorem tk_X7_write : Cond.code yX7_write cX7_write 4 none ∈ TB := tbm (tc4 (List.mem_of_getElem? (i := 184) rfl)) rfl
theorem gc_X7_write : GoodIn TB (cw yX7_write cX7_write 4 none) := goodIn_c2 tk_X7_write
theorem tb_472 : Cond.methodLink "ToneLines" 245 yX7_write ∈ TB := tbm (tc4 (List.mem_of_getElem? (i := 181) rfl)) rfl
theorem tb_473 : Cond.instanceMethod yX7_write ∈ TB := tbm (tc4 (List.mem_of_getElem? (i := 182) rfl)) rfl
theorem tb_474 : Cond.selects "ToneLines$Speller" yX7_write yX7_write ∈ TB := tbm (tc4 (List.mem_of_getElem? (i := 183) rfl)) rfl
theorem gv_X11_245 : GoodIn TB (wsV RX11 245 RX7 yX7_write (cw yX7_write cX7_write 4 none)) := goodIn_4 tb_472 tb_473 tb_474 tb_116 gc_X7_write
theorem hv_X7_write : yX7_write.cls = RX7 ∧ yX7_write.cls ≠ "java/lang/invoke/MethodHandle" ∧ yX7_write.cls ≠ "java/lang/invoke/VarHandle" ∧ (parseMethodDescriptor yX7_write.desc).map (fun d => d.parameters.length) = some 1 := by decide +kernel
theorem dX11_spell_33 : decode cX11_spell 33 = .ok (.iload_n 2, 1) := by decide +kernel
theorem dX11_spell_34 : decode cX11_spell 34 = .ok (.iconst (-1), 1) := by decide +kernel
theorem dX11_spell_35 : decode cX11_spell 35 = .ok (.if_icmp .ne 11, 3) := by decide +kernel
theorem dX11_spell_38 : decode cX11_spell 38 = .ok (.aload_n 0, 1) := by decide +kernel
theorem dX11_spell_39 : decode cX11_spell 39 = .ok (.getfield 68, 3) := by decide +kernel
theorem dX11_spell_42 : decode cX11_spell 42 = .ok (.getfield 248, 3) := by decide +kernel
theorem tb_475 : Cond.fieldLink "ToneLines" 248 "ToneLines$Speller" "size" "I" ∈ TB := tbm (tc2 (List.mem_of_getElem? (i := 48) rfl)) rfl
theorem dX11_spell_45 : decode cX11_spell 45 = .ok (.ireturn, 1) := by decide +kernel
set_option maxRecDepth 4000 in
theorem c_X11_spell_312 {l : Launch} {D : va_G} {B : Nat} {cy : Nat → ClassId} {M : Mem} (h0 : M.1 22 2 = 0) (h1 : M.1 22 7 = 0) (h2 : M.1 141 1 = 0) (h3 : M.1 44 0 = 0) (h4 : M.1 142 0 = 0) (h5 : M.1 44 1 = 0) (h6 : M.1 142 1 = 0) : Ci l D B cy yX11_spell cX11_spell 3 (some .int) 2 47 [.ref (B + 0), .int 0, .int (-1)] M (fun r M1 => r = 2 ∧ M1 = (st (st (st (st M 142 0 47) 141 1 1) 142 1 47) 141 1 2)) := by
  refine s_any (by decide) (Nat.le_of_ble_eq_true rfl) ?_
  intro p e s m below meth c ls F hr hlocks w hl
  have F : CallFix p m c cX11_spell 3 s _ TB RX11 := F
  have hx := F.1
  have hb := F.2.1
  have hl : lv_has ls 3 [(0, .ref (B + 0)), (1, .int 0), (2, .int (-1))] := hl
  refine lv_aload_n hx hb dX11_spell_0 rfl (lv_at hl 0 rfl) ?_
  refine f_11_3 F w (a := 0) rfl tb_73 dX11_spell_1 ?_
  refine lv_iload_n hx hb dX11_spell_4 rfl (lv_at hl 1 rfl) ?_
  refine x_Vi F w (As := [.int 0]) (rest := []) (a := 22) (by decide) (sh_0 rfl _ _) rfl (c_X0_covers_206 (h0)) gv_X11_193 hv_X0_covers ⟨Nat.le_of_ble_eq_true rfl, Nat.le_of_ble_eq_true rfl⟩ hl.1 rfl (Nat.le_of_ble_eq_true rfl) ⟨Nat.zero_le _, Nat.zero_le _⟩ dX11_spell_5 (fun H locs w => ?_)
  refine lv_if_eq (tgt := 16) hx hb dX11_spell_8 (by decide) (fun c1 => absurd c1 (by decide)) (fun _ => ?_)
  refine lv_iload_n hx hb dX11_spell_11 rfl (lv_at hl 2 rfl) ?_
  refine lv_iconst (v := (-1)) hx hb dX11_spell_12 (by decide) ?_
  refine lv_icmp_ge (tgt := 18) hx hb dX11_spell_13 (by decide) (fun _ => ?_) (fun c1 => absurd c1 (by decide))
  refine lv_aload_n hx hb dX11_spell_18 rfl (lv_at hl 0 rfl) ?_
  refine f_11_8 F w (a := 0) rfl tb_122 dX11_spell_19 ?_
  refine lv_aload_n hx hb dX11_spell_22 rfl (lv_at hl 0 rfl) ?_
  refine f_11_3 F w (a := 0) rfl tb_73 dX11_spell_23 ?_
  refine lv_iload_n hx hb dX11_spell_26 rfl (lv_at hl 1 rfl) ?_
  refine x_Vr F w (As := [.int 0]) (rest := [.ref (B + 141)]) (a := 22) (by decide) (sh_0 rfl _ _) rfl (c_X0_stageOf_207 (h0) (h1)) gv_X11_196 hv_X0_stageOf ⟨Nat.le_of_ble_eq_true rfl, Nat.le_of_ble_eq_true rfl⟩ hl.1 rfl (Nat.le_of_ble_eq_true rfl) ⟨Nat.zero_le _, Nat.zero_le _⟩ dX11_spell_27 (fun H locs w => ?_)
  refine x_Vv F w (As := [.ref (B + 44)]) (rest := []) (a := 141) (by decide) (sh_7 rfl _ _) rfl (c_X7_write_311 (h2) (h3) (h4) (h5) (h6)) gv_X11_245 hv_X7_write ⟨Nat.le_of_ble_eq_true rfl, Nat.le_of_ble_eq_true rfl⟩ hl.1 rfl (Nat.le_of_ble_eq_true rfl) ⟨Nat.zero_le _, Nat.zero_le _⟩ dX11_spell_30 (fun H locs w => ?_)
  refine lv_iload_n hx hb dX11_spell_33 rfl (lv_at hl 2 rfl) ?_
  refine lv_iconst (v := (-1)) hx hb dX11_spell_34 (by decide) ?_
  refine lv_icmp_ne (tgt := 46) hx hb dX11_spell_35 (by decide) (fun c1 => absurd c1 (by decide)) (fun _ => ?_)
  refine lv_aload_n hx hb dX11_spell_38 rfl (lv_at hl 0 rfl) ?_
  refine f_11_8 F w (a := 0) rfl tb_122 dX11_spell_39 ?_
  refine f_7_1 F w (a := 141) rfl tb_475 dX11_spell_42 ?_
  refine r_val (v := 2) (st_at) ?_
  exact e_i F w hr hlocks ⟨rfl, rfl⟩ dX11_spell_45
theorem dX12_spell_15 : decode cX12_spell 15 = .ok (.aload_n 0, 1) := by decide +kernel
theorem dX12_spell_16 : decode cX12_spell 16 = .ok (.invokevirtual 300, 3) := by decide +kernel
