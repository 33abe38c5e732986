/-- one line more beside: where -/
def stpP (n q ed : Nat) (L : Nat → Nat) (t x j : Nat) : Prop := (j : Int) = (if x = 0 then higI (L t) + 1 else lowI (L t) - 1) ∧ j < q ∧ bareP n L j ∧ openP n L t j ∧ ed.testBit (if x = 0 then j else j + 1) = false
theorem stpP_u {n q ed t x j1 j2 : Nat} {L : Nat → Nat} (h1 : stpP n q ed L t x j1) (h2 : stpP n q ed L t x j2) : j1 = j2 := by
  have := h1.1.trans h2.1.symm
  omega
theorem stp_y {n q ed t x k : Nat} {L : Nat → Nat} {z : Int} (hz : z = (if x = 0 then higI (L t) + 1 else lowI (L t) - 1)) (hk : z = (k : Int)) (hq : k < q) (hb : bareP n L k) (ho : openP n L t k) (he : ¬ ed.testBit (if x = 0 then k else k + 1) = true) : stpP n q ed L t x k := ⟨hk.symm.trans hz, hq, hb, ho, nb he⟩
theorem stp_n1 {n q ed t x : Nat} {L : Nat → Nat} {z : Int} (hz : z = (if x = 0 then higI (L t) + 1 else lowI (L t) - 1)) (h : ¬ (0 ≤ z ∧ z < (q : Int))) : ∀ j, ¬ stpP n q ed L t x j := fun j hj => h (by have := hj.1; have := hj.2.1; omega)
theorem stp_n2 {n q ed t x k : Nat} {L : Nat → Nat} {z : Int} (hz : z = (if x = 0 then higI (L t) + 1 else lowI (L t) - 1)) (hk : z = (k : Int)) (h : ¬ bareP n L k ∨ ¬ openP n L t k ∨ ed.testBit (if x = 0 then k else k + 1) = true) : ∀ j, ¬ stpP n q ed L t x j := fun j hj => by
  obtain rfl : j = k := by have := hj.1; omega
  rcases h with h | h | h
  · exact h hj.2.2.1
  · exact h hj.2.2.2.1
  · rw [hj.2.2.2.2] at h
    cases h
theorem dX12_steps_0 : decode cX12_steps 0 = .ok (.aload_n 0, 1) := dq0 kk_42 (by decide +kernel)
theorem dX12_steps_1 : decode cX12_steps 1 = .ok (.getfield 17, 3) := dqV kk_180 (by decide +kernel)
theorem dX12_steps_4 : decode cX12_steps 4 = .ok (.bipush 13, 2) := dqS kk_16 (by decide +kernel)
theorem dX12_steps_6 : decode cX12_steps 6 = .ok (.iload_n 1, 1) := dq0 kk_27 (by decide +kernel)
theorem dX12_steps_7 : decode cX12_steps 7 = .ok (.iadd, 1) := dq0 kk_96 (by decide +kernel)
theorem dX12_steps_8 : decode cX12_steps 8 = .ok (.iaload, 1) := dq0 kk_46 (by decide +kernel)
theorem dX12_steps_9 : decode cX12_steps 9 = .ok (.istore_n 3, 1) := dq0 kk_62 (by decide +kernel)
theorem dX12_steps_10 : decode cX12_steps 10 = .ok (.iload_n 2, 1) := dq0 kk_28 (by decide +kernel)
theorem dX12_steps_11 : decode cX12_steps 11 = .ok (.ifCond .eq 12, 3) := dqT kk_153 (by decide +kernel)
theorem dX12_steps_23 : decode cX12_steps 23 = .ok (.iload_n 3, 1) := dq0 kk_29 (by decide +kernel)
theorem dX12_steps_24 : decode cX12_steps 24 = .ok (.invokestatic 59, 3) := dqV kk_184 (by decide +kernel)
theorem dX12_steps_27 : decode cX12_steps 27 = .ok (.iconst 1, 1) := dq0 kk_4 (by decide +kernel)
theorem dX12_steps_28 : decode cX12_steps 28 = .ok (.iadd, 1) := dq0 kk_96 (by decide +kernel)
theorem dX12_steps_29 : decode cX12_steps 29 = .ok (.istore 4, 2) := dqU kk_54 (by decide +kernel)
theorem dX12_steps_31 : decode cX12_steps 31 = .ok (.aload_n 0, 1) := dq0 kk_42 (by decide +kernel)
theorem dX12_steps_32 : decode cX12_steps 32 = .ok (.getfield 17, 3) := dqV kk_180 (by decide +kernel)
theorem dX12_steps_35 : decode cX12_steps 35 = .ok (.iload 4, 2) := dqU kk_21 (by decide +kernel)
theorem dX12_steps_37 : decode cX12_steps 37 = .ok (.invokestatic 94, 3) := dqV kk_184 (by decide +kernel)
theorem tk_X12_isSyllable : Cond.code yX12_isSyllable cX12_isSyllable 2 (some .boolean) ∈ TB := tbm (tc6 (List.mem_of_getElem? (i := 5) rfl)) rfl
theorem gc_X12_isSyllable : GoodIn TB (cw yX12_isSyllable cX12_isSyllable 2 (some .boolean)) := goodIn_c2 tk_X12_isSyllable
theorem tb_80 : Cond.methodLink "ToneLinesModel" 94 yX12_isSyllable ∈ TB := tbm (tc6 (List.mem_of_getElem? (i := 3) rfl)) rfl
theorem tb_81 : Cond.static yX12_isSyllable ∈ TB := tbm (tc6 (List.mem_of_getElem? (i := 4) rfl)) rfl
theorem gs_X12_94 : GoodIn TB (va_wsS RX12 94 yX12_isSyllable (cw yX12_isSyllable cX12_isSyllable 2 (some .boolean))) := goodIn_3 tb_80 tb_81 tb_38 gc_X12_isSyllable
theorem hs_X12_isSyllable : yX12_isSyllable.cls ≠ "java/lang/invoke/MethodHandle" ∧ yX12_isSyllable.cls ≠ "java/lang/invoke/VarHandle" ∧ (parseMethodDescriptor yX12_isSyllable.desc).map (fun d => d.parameters.length) = some 2 := by decide +kernel
theorem dX12_steps_40 : decode cX12_steps 40 = .ok (.ifCond .eq 51, 3) := dqT kk_153 (by decide +kernel)
theorem dX12_steps_43 : decode cX12_steps 43 = .ok (.aload_n 0, 1) := dq0 kk_42 (by decide +kernel)
theorem dX12_steps_44 : decode cX12_steps 44 = .ok (.iload 4, 2) := dqU kk_21 (by decide +kernel)
theorem dX12_steps_46 : decode cX12_steps 46 = .ok (.invokevirtual 82, 3) := dqV kk_182 (by decide +kernel)
theorem dX12_steps_49 : decode cX12_steps 49 = .ok (.ifCond .eq 42, 3) := dqT kk_153 (by decide +kernel)
theorem dX12_steps_52 : decode cX12_steps 52 = .ok (.aload_n 0, 1) := dq0 kk_42 (by decide +kernel)
theorem dX12_steps_53 : decode cX12_steps 53 = .ok (.getfield 17, 3) := dqV kk_180 (by decide +kernel)
theorem dX12_steps_56 : decode cX12_steps 56 = .ok (.iload_n 1, 1) := dq0 kk_27 (by decide +kernel)
theorem dX12_steps_57 : decode cX12_steps 57 = .ok (.iload 4, 2) := dqU kk_21 (by decide +kernel)
theorem dX12_steps_59 : decode cX12_steps 59 = .ok (.invokestatic 86, 3) := dqV kk_184 (by decide +kernel)
theorem dX12_steps_62 : decode cX12_steps 62 = .ok (.ifCond .eq 29, 3) := dqT kk_153 (by decide +kernel)
theorem dX12_steps_65 : decode cX12_steps 65 = .ok (.aload_n 0, 1) := dq0 kk_42 (by decide +kernel)
theorem dX12_steps_66 : decode cX12_steps 66 = .ok (.getfield 17, 3) := dqV kk_180 (by decide +kernel)
theorem dX12_steps_69 : decode cX12_steps 69 = .ok (.bipush 27, 2) := dqS kk_16 (by decide +kernel)
theorem dX12_steps_71 : decode cX12_steps 71 = .ok (.iaload, 1) := dq0 kk_46 (by decide +kernel)
theorem dX12_steps_72 : decode cX12_steps 72 = .ok (.iload_n 2, 1) := dq0 kk_28 (by decide +kernel)
theorem dX12_steps_73 : decode cX12_steps 73 = .ok (.ifCond .eq 10, 3) := dqT kk_153 (by decide +kernel)
theorem dX12_steps_83 : decode cX12_steps 83 = .ok (.iload 4, 2) := dqU kk_21 (by decide +kernel)
theorem dX12_steps_85 : decode cX12_steps 85 = .ok (.invokestatic 51, 3) := dqV kk_184 (by decide +kernel)
theorem dX12_steps_88 : decode cX12_steps 88 = .ok (.ifCond .eq 5, 3) := dqT kk_153 (by decide +kernel)
theorem dX12_steps_91 : decode cX12_steps 91 = .ok (.iconst 0, 1) := dq0 kk_3 (by decide +kernel)
theorem dX12_steps_92 : decode cX12_steps 92 = .ok (.ireturn, 1) := dq0 kk_172 (by decide +kernel)
theorem dX12_steps_93 : decode cX12_steps 93 = .ok (.aload_n 0, 1) := dq0 kk_42 (by decide +kernel)
theorem dX12_steps_94 : decode cX12_steps 94 = .ok (.iload_n 1, 1) := dq0 kk_27 (by decide +kernel)
theorem dX12_steps_95 : decode cX12_steps 95 = .ok (.iload 4, 2) := dqU kk_21 (by decide +kernel)
theorem dX12_steps_97 : decode cX12_steps 97 = .ok (.invokevirtual 90, 3) := dqV kk_182 (by decide +kernel)
theorem dX12_steps_100 : decode cX12_steps 100 = .ok (.iconst 1, 1) := dq0 kk_4 (by decide +kernel)
theorem dX12_steps_101 : decode cX12_steps 101 = .ok (.ireturn, 1) := dq0 kk_172 (by decide +kernel)
set_option maxRecDepth 4000 in
theorem s_X12_steps_0 {l : Launch} {D : va_G} {B : Nat} {cy : Nat → ClassId} {M : Mem} {n q hv ed : Nat} {K L : Nat → Nat} {z9 : Int} (hW : isR M 148 n q hv ed K L) (hwf : wf n q hv ed K L) (hc : M.1 146 3 = zI z9) {t x : Nat} (ht : t < n) (hx : x = 0) : Ci l D B cy yX12_steps cX12_steps 5 (some .boolean) 3 66 [.ref (B + 146), .int (zI (t : Int)), .int (zI (x : Int))] M (fun r M1 => (∃ j, stpP n q ed L t x j ∧ r = zI 1 ∧ isR M1 148 n q hv ed K (updF L t (L t ||| 2 ^ j)) ∧ M1.1 146 3 = zI (z9 + 1) ∧ FrC M1 M) ∨ ((∀ j, ¬ stpP n q ed L t x j) ∧ r = zI 0 ∧ M1 = M)) := by
  refine s_any (by decide) (Nat.le_of_ble_eq_true rfl) ?_
  intro p e s m below meth c ls F hr hlocks w hl
  have F : CallFix p m c cX12_steps 5 s _ TB RX12 := F
  have hx := F.1
  have hb := F.2.1
  have hl : lv_has ls 5 [(0, .ref (B + 146)), (1, .int (zI (t : Int))), (2, .int (zI (x : Int)))] := hl
  have hwf0 := hwf
  obtain ⟨hn, hq, hhv, hed, hKL⟩ := hwf0
  have hx0 := hx
  refine lv_aload_n hx hb dX12_steps_0 rfl (lv_at hl 0 rfl) ?_
  refine f_12_2 F w (a := 146) rfl tb_45 dX12_steps_1 ?_
  refine lv_bipush (v := zI 13) hx hb dX12_steps_4 (by decide) ?_
  refine lv_iload_n hx hb dX12_steps_6 rfl (lv_at hl 1 rfl) ?_
  refine z_iadd (z := (((13 + t) : Nat) : Int)) hx hb dX12_steps_7 (by omega) ?_
  refine g_iald F w (a := 148) rfl (j := (13 + t)) (ix_n (by omega)) (by omega) dX12_steps_8 ?_
  have hL0 := (hKL t (by omega)).2
  refine r_val (v := (zI (((L t) : Nat) : Int))) (hW.2.2.2.2.2 t (by omega)) ?_
  refine lv_istore_n (lv' := [(3, .int (zI (((L t) : Nat) : Int))), (0, .ref (B + 146)), (1, .int (zI (t : Int))), (2, .int (zI (x : Int)))]) hx hb dX12_steps_9 rfl hl (by decide) rfl (fun ls hl => ?_)
  refine lv_iload_n hx hb dX12_steps_10 rfl (lv_at hl 3 rfl) ?_
  refine z_if_eq (tgt := 23) hx hb (by omega) dX12_steps_11 (by decide) (fun c1 => ?_) (fun c1 => False.elim (by omega))
  refine lv_iload_n hx hb dX12_steps_23 rfl (lv_at hl 0 rfl) ?_
  refine x_Si F w (As := [.int (zI (((L t) : Nat) : Int))]) (rest := []) (s_X12_lastOf (m9 := (L t)) (by omega)) gs_X12_59 hs_X12_lastOf ⟨(Nat.le_of_ble_eq_true rfl), (Nat.le_of_ble_eq_true rfl)⟩ hl.1 rfl (Nat.le_of_ble_eq_true rfl) ⟨Nat.zero_le _, Nat.zero_le _⟩ dX12_steps_24 (fun H locs w => ?_)
  have hw1 := higI_rg (L t) (by omega)
  refine lv_iconst (v := zI 1) hx hb dX12_steps_27 rfl ?_
  refine z_iadd (z := ((higI (L t)) + 1)) hx hb dX12_steps_28 (by omega) ?_
  refine lv_istore (lv' := [(4, .int (zI ((higI (L t)) + 1))), (3, .int (zI (((L t) : Nat) : Int))), (0, .ref (B + 146)), (1, .int (zI (t : Int))), (2, .int (zI (x : Int)))]) hx hb dX12_steps_29 hl (by decide) rfl (fun ls hl => ?_)
  refine lv_aload_n hx hb dX12_steps_31 rfl (lv_at hl 2 rfl) ?_
  refine f_12_2 F w (a := 146) rfl tb_45 dX12_steps_32 ?_
  refine lv_iload hx hb dX12_steps_35 (lv_at hl 0 rfl) ?_
  refine k_Si F w (As := [.ref (B + 148), .int (zI ((higI (L t)) + 1))]) (rest := []) (s_X12_isSyllable (a := 148) rfl hW hwf (by omega)) gs_X12_94 hs_X12_isSyllable ⟨(Nat.le_of_ble_eq_true rfl), (Nat.le_of_ble_eq_true rfl)⟩ hl.1 rfl (Nat.le_of_ble_eq_true rfl) ⟨Nat.zero_le _, Nat.zero_le _⟩ dX12_steps_37 (fun r M1 H locs hp w => ?_)
  rcases hp with ⟨⟨k2, ek2, hk2, rfl⟩ | ⟨nk2, rfl⟩, hMe⟩
  · rw [hMe] at w
    rw [ek2] at hl
    refine z_if_eq (tgt := 91) hx hb (by omega) dX12_steps_40 (by decide) (fun c3 => False.elim (by omega)) (fun c3 => ?_)
    refine lv_aload_n hx hb dX12_steps_43 rfl (lv_at hl 2 rfl) ?_
    refine lv_iload hx hb dX12_steps_44 (lv_at hl 0 rfl) ?_
    refine k_Vi F w (As := [.int (zI (k2 : Int))]) (rest := []) (a := 146) (kd_lt (a := 146) (show kd 146 = (12, 0, 0) from rfl) (by decide)) (sh_12 rfl _ _) rfl (s_X12_isBare hW hwf hc (j := k2) (by omega)) gv_X12_82 hv_X12_isBare ⟨(Nat.le_of_ble_eq_true rfl), (Nat.le_of_ble_eq_true rfl)⟩ hl.1 rfl (Nat.le_of_ble_eq_true rfl) ⟨Nat.zero_le _, Nat.zero_le _⟩ dX12_steps_46 (fun r M1 H locs hp w => ?_)
    rcases hp with ⟨⟨hb4, rfl⟩ | ⟨hb4, rfl⟩, hMe⟩
    · rw [hMe] at w
      refine z_if_eq (tgt := 91) hx hb (by omega) dX12_steps_49 (by decide) (fun c5 => False.elim (by omega)) (fun c5 => ?_)
      refine lv_aload_n hx hb dX12_steps_52 rfl (lv_at hl 2 rfl) ?_
      refine f_12_2 F w (a := 146) rfl tb_45 dX12_steps_53 ?_
      refine lv_iload_n hx hb dX12_steps_56 rfl (lv_at hl 3 rfl) ?_
      refine lv_iload hx hb dX12_steps_57 (lv_at hl 0 rfl) ?_
      refine k_Si F w (As := [.ref (B + 148), .int (zI (t : Int)), .int (zI (k2 : Int))]) (rest := []) (s_X12_isOpen (a := 148) rfl hW hwf (t := t) (j := k2) (by omega) (by omega)) gs_X12_86 hs_X12_isOpen ⟨(Nat.le_of_ble_eq_true rfl), (Nat.le_of_ble_eq_true rfl)⟩ hl.1 rfl (Nat.le_of_ble_eq_true rfl) ⟨Nat.zero_le _, Nat.zero_le _⟩ dX12_steps_59 (fun r M1 H locs hp w => ?_)
      rcases hp with ⟨⟨hb6, rfl⟩ | ⟨hb6, rfl⟩, hMe⟩
      · rw [hMe] at w
        refine z_if_eq (tgt := 91) hx hb (by omega) dX12_steps_62 (by decide) (fun c7 => False.elim (by omega)) (fun c7 => ?_)
        refine lv_aload_n hx hb dX12_steps_65 rfl (lv_at hl 2 rfl) ?_
        refine f_12_2 F w (a := 146) rfl tb_45 dX12_steps_66 ?_
        refine lv_bipush (v := zI 27) hx hb dX12_steps_69 (by decide) ?_
        refine g_iald F w (a := 148) rfl (j := 27) ⟨by decide, by decide⟩ (by omega) dX12_steps_71 ?_
        refine r_val (v := (zI (ed : Int))) (hW.2.2.2.1) ?_
        refine lv_iload_n hx hb dX12_steps_72 rfl (lv_at hl 4 rfl) ?_
        refine z_if_eq (tgt := 83) hx hb (by omega) dX12_steps_73 (by decide) (fun c8 => ?_) (fun c8 => False.elim (by omega))
        refine lv_iload hx hb dX12_steps_83 (lv_at hl 0 rfl) ?_
        refine k_Si F w (As := [.int (zI (ed : Int)), .int (zI (k2 : Int))]) (rest := []) (s_X12_isIn (m9 := ed) (k := k2) (by omega) (by omega)) gs_X12_51 hs_X12_isIn ⟨(Nat.le_of_ble_eq_true rfl), (Nat.le_of_ble_eq_true rfl)⟩ hl.1 rfl (Nat.le_of_ble_eq_true rfl) ⟨Nat.zero_le _, Nat.zero_le _⟩ dX12_steps_85 (fun r M1 H locs hp w => ?_)
        rcases hp with ⟨⟨hb9, rfl⟩ | ⟨hb9, rfl⟩, hMe⟩
        · rw [hMe] at w
          refine z_if_eq (tgt := 93) hx hb (by omega) dX12_steps_88 (by decide) (fun c10 => False.elim (by omega)) (fun c10 => ?_)
          refine lv_iconst (v := zI 0) hx hb dX12_steps_91 rfl ?_
          exact e_z F w hr hlocks (by decide) (Or.inr ⟨stp_n2 (x := x) (by rw [if_pos (by omega)]) ek2 (by first | exact Or.inl (by assumption) | exact Or.inr (Or.inl (by assumption)) | (rw [if_pos (by omega)]; exact Or.inr (Or.inr (by assumption)))), rfl, rfl⟩) dX12_steps_92
        · rw [hMe] at w
          refine z_if_eq (tgt := 93) hx hb (by omega) dX12_steps_88 (by decide) (fun c11 => ?_) (fun c11 => False.elim (by omega))
          refine lv_aload_n hx hb dX12_steps_93 rfl (lv_at hl 2 rfl) ?_
          refine lv_iload_n hx hb dX12_steps_94 rfl (lv_at hl 3 rfl) ?_
          refine lv_iload hx hb dX12_steps_95 (lv_at hl 0 rfl) ?_
          refine k_Vv F w (As := [.int (zI (t : Int)), .int (zI (k2 : Int))]) (rest := []) (a := 146) (kd_lt (a := 146) (show kd 146 = (12, 0, 0) from rfl) (by decide)) (sh_12 rfl _ _) rfl (s_X12_comes hW hwf hc (t := t) (j := k2) (by omega) (by omega)) gv_X12_90 hv_X12_comes ⟨(Nat.le_of_ble_eq_true rfl), (Nat.le_of_ble_eq_true rfl)⟩ hl.1 rfl (Nat.le_of_ble_eq_true rfl) ⟨Nat.zero_le _, Nat.zero_le _⟩ dX12_steps_97 (fun M1 H locs hp w => ?_)
          rcases hp with ⟨hW2, hc2, hF2⟩
          refine lv_iconst (v := zI 1) hx hb dX12_steps_100 rfl ?_
          exact e_z F w hr hlocks (by decide) (Or.inl ⟨k2, stp_y (x := x) (hz := (by rw [if_pos (by omega)])) ek2 (by omega) (by assumption) (by assumption) (by rw [if_pos (by omega)]; assumption), rfl, hW2, hc2, hF2⟩) dX12_steps_101
      · rw [hMe] at w
        refine z_if_eq (tgt := 91) hx hb (by omega) dX12_steps_62 (by decide) (fun c12 => ?_) (fun c12 => False.elim (by omega))
        refine lv_iconst (v := zI 0) hx hb dX12_steps_91 rfl ?_
        exact e_z F w hr hlocks (by decide) (Or.inr ⟨stp_n2 (x := x) (by rw [if_pos (by omega)]) ek2 (by first | exact Or.inl (by assumption) | exact Or.inr (Or.inl (by assumption)) | (rw [if_pos (by omega)]; exact Or.inr (Or.inr (by assumption)))), rfl, rfl⟩) dX12_steps_92
    · rw [hMe] at w
      refine z_if_eq (tgt := 91) hx hb (by omega) dX12_steps_49 (by decide) (fun c13 => ?_) (fun c13 => False.elim (by omega))
      refine lv_iconst (v := zI 0) hx hb dX12_steps_91 rfl ?_
      exact e_z F w hr hlocks (by decide) (Or.inr ⟨stp_n2 (x := x) (by rw [if_pos (by omega)]) ek2 (by first | exact Or.inl (by assumption) | exact Or.inr (Or.inl (by assumption)) | (rw [if_pos (by omega)]; exact Or.inr (Or.inr (by assumption)))), rfl, rfl⟩) dX12_steps_92
  · rw [hMe] at w
    refine z_if_eq (tgt := 91) hx hb (by omega) dX12_steps_40 (by decide) (fun c14 => ?_) (fun c14 => False.elim (by omega))
    refine lv_iconst (v := zI 0) hx hb dX12_steps_91 rfl ?_
    exact e_z F w hr hlocks (by decide) (Or.inr ⟨stp_n1 (x := x) (by rw [if_pos (by omega)]) (by omega), rfl, rfl⟩) dX12_steps_92
theorem dX12_steps_14 : decode cX12_steps 14 = .ok (.iload_n 3, 1) := dq0 kk_29 (by decide +kernel)
theorem dX12_steps_15 : decode cX12_steps 15 = .ok (.invokestatic 63, 3) := dqV kk_184 (by decide +kernel)
theorem dX12_steps_18 : decode cX12_steps 18 = .ok (.iconst 1, 1) := dq0 kk_4 (by decide +kernel)
theorem dX12_steps_19 : decode cX12_steps 19 = .ok (.isub, 1) := dq0 kk_100 (by decide +kernel)
theorem dX12_steps_20 : decode cX12_steps 20 = .ok (.goto 9, 3) := dqT kk_167 (by decide +kernel)
theorem dX12_steps_76 : decode cX12_steps 76 = .ok (.iload 4, 2) := dqU kk_21 (by decide +kernel)
theorem dX12_steps_78 : decode cX12_steps 78 = .ok (.iconst 1, 1) := dq0 kk_4 (by decide +kernel)
theorem dX12_steps_79 : decode cX12_steps 79 = .ok (.iadd, 1) := dq0 kk_96 (by decide +kernel)
theorem dX12_steps_80 : decode cX12_steps 80 = .ok (.goto 5, 3) := dqT kk_167 (by decide +kernel)
set_option maxRecDepth 4000 in
theorem s_X12_steps_1 {l : Launch} {D : va_G} {B : Nat} {cy : Nat → ClassId} {M : Mem} {n q hv ed : Nat} {K L : Nat → Nat} {z9 : Int} (hW : isR M 148 n q hv ed K L) (hwf : wf n q hv ed K L) (hc : M.1 146 3 = zI z9) {t x : Nat} (ht : t < n) (hx : x = 1) : Ci l D B cy yX12_steps cX12_steps 5 (some .boolean) 3 66 [.ref (B + 146), .int (zI (t : Int)), .int (zI (x : Int))] M (fun r M1 => (∃ j, stpP n q ed L t x j ∧ r = zI 1 ∧ isR M1 148 n q hv ed K (updF L t (L t ||| 2 ^ j)) ∧ M1.1 146 3 = zI (z9 + 1) ∧ FrC M1 M) ∨ ((∀ j, ¬ stpP n q ed L t x j) ∧ r = zI 0 ∧ M1 = M)) := by
  refine s_any (by decide) (Nat.le_of_ble_eq_true rfl) ?_
  intro p e s m below meth c ls F hr hlocks w hl
  have F : CallFix p m c cX12_steps 5 s _ TB RX12 := F
  have hx := F.1
  have hb := F.2.1
  have hl : lv_has ls 5 [(0, .ref (B + 146)), (1, .int (zI (t : Int))), (2, .int (zI (x : Int)))] := hl
  have hwf0 := hwf
  obtain ⟨hn, hq, hhv, hed, hKL⟩ := hwf0
  have hx0 := hx
  refine lv_aload_n hx hb dX12_steps_0 rfl (lv_at hl 0 rfl) ?_
  refine f_12_2 F w (a := 146) rfl tb_45 dX12_steps_1 ?_
  refine lv_bipush (v := zI 13) hx hb dX12_steps_4 (by decide) ?_
  refine lv_iload_n hx hb dX12_steps_6 rfl (lv_at hl 1 rfl) ?_
  refine z_iadd (z := (((13 + t) : Nat) : Int)) hx hb dX12_steps_7 (by omega) ?_
  refine g_iald F w (a := 148) rfl (j := (13 + t)) (ix_n (by omega)) (by omega) dX12_steps_8 ?_
  have hL0 := (hKL t (by omega)).2
  refine r_val (v := (zI (((L t) : Nat) : Int))) (hW.2.2.2.2.2 t (by omega)) ?_
  refine lv_istore_n (lv' := [(3, .int (zI (((L t) : Nat) : Int))), (0, .ref (B + 146)), (1, .int (zI (t : Int))), (2, .int (zI (x : Int)))]) hx hb dX12_steps_9 rfl hl (by decide) rfl (fun ls hl => ?_)
  refine lv_iload_n hx hb dX12_steps_10 rfl (lv_at hl 3 rfl) ?_
  refine z_if_eq (tgt := 23) hx hb (by omega) dX12_steps_11 (by decide) (fun c1 => False.elim (by omega)) (fun c1 => ?_)
  refine lv_iload_n hx hb dX12_steps_14 rfl (lv_at hl 0 rfl) ?_
  refine x_Si F w (As := [.int (zI (((L t) : Nat) : Int))]) (rest := []) (s_X12_firstOf (m9 := (L t)) (by omega)) gs_X12_63 hs_X12_firstOf ⟨(Nat.le_of_ble_eq_true rfl), (Nat.le_of_ble_eq_true rfl)⟩ hl.1 rfl (Nat.le_of_ble_eq_true rfl) ⟨Nat.zero_le _, Nat.zero_le _⟩ dX12_steps_15 (fun H locs w => ?_)
  have hw1 := lowI_rg (L t) (by omega)
  refine lv_iconst (v := zI 1) hx hb dX12_steps_18 rfl ?_
  refine z_isub (z := ((lowI (L t)) - 1)) hx hb dX12_steps_19 (by omega) ?_
  refine lv_goto (tgt := 29) hx hb dX12_steps_20 (by decide) ?_
  refine lv_istore (lv' := [(4, .int (zI ((lowI (L t)) - 1))), (3, .int (zI (((L t) : Nat) : Int))), (0, .ref (B + 146)), (1, .int (zI (t : Int))), (2, .int (zI (x : Int)))]) hx hb dX12_steps_29 hl (by decide) rfl (fun ls hl => ?_)
  refine lv_aload_n hx hb dX12_steps_31 rfl (lv_at hl 2 rfl) ?_
  refine f_12_2 F w (a := 146) rfl tb_45 dX12_steps_32 ?_
  refine lv_iload hx hb dX12_steps_35 (lv_at hl 0 rfl) ?_
  refine k_Si F w (As := [.ref (B + 148), .int (zI ((lowI (L t)) - 1))]) (rest := []) (s_X12_isSyllable (a := 148) rfl hW hwf (by omega)) gs_X12_94 hs_X12_isSyllable ⟨(Nat.le_of_ble_eq_true rfl), (Nat.le_of_ble_eq_true rfl)⟩ hl.1 rfl (Nat.le_of_ble_eq_true rfl) ⟨Nat.zero_le _, Nat.zero_le _⟩ dX12_steps_37 (fun r M1 H locs hp w => ?_)
  rcases hp with ⟨⟨k2, ek2, hk2, rfl⟩ | ⟨nk2, rfl⟩, hMe⟩
  · rw [hMe] at w
    rw [ek2] at hl
    refine z_if_eq (tgt := 91) hx hb (by omega) dX12_steps_40 (by decide) (fun c3 => False.elim (by omega)) (fun c3 => ?_)
    refine lv_aload_n hx hb dX12_steps_43 rfl (lv_at hl 2 rfl) ?_
    refine lv_iload hx hb dX12_steps_44 (lv_at hl 0 rfl) ?_
    refine k_Vi F w (As := [.int (zI (k2 : Int))]) (rest := []) (a := 146) (kd_lt (a := 146) (show kd 146 = (12, 0, 0) from rfl) (by decide)) (sh_12 rfl _ _) rfl (s_X12_isBare hW hwf hc (j := k2) (by omega)) gv_X12_82 hv_X12_isBare ⟨(Nat.le_of_ble_eq_true rfl), (Nat.le_of_ble_eq_true rfl)⟩ hl.1 rfl (Nat.le_of_ble_eq_true rfl) ⟨Nat.zero_le _, Nat.zero_le _⟩ dX12_steps_46 (fun r M1 H locs hp w => ?_)
    rcases hp with ⟨⟨hb4, rfl⟩ | ⟨hb4, rfl⟩, hMe⟩
    · rw [hMe] at w
      refine z_if_eq (tgt := 91) hx hb (by omega) dX12_steps_49 (by decide) (fun c5 => False.elim (by omega)) (fun c5 => ?_)
      refine lv_aload_n hx hb dX12_steps_52 rfl (lv_at hl 2 rfl) ?_
      refine f_12_2 F w (a := 146) rfl tb_45 dX12_steps_53 ?_
      refine lv_iload_n hx hb dX12_steps_56 rfl (lv_at hl 3 rfl) ?_
      refine lv_iload hx hb dX12_steps_57 (lv_at hl 0 rfl) ?_
      refine k_Si F w (As := [.ref (B + 148), .int (zI (t : Int)), .int (zI (k2 : Int))]) (rest := []) (s_X12_isOpen (a := 148) rfl hW hwf (t := t) (j := k2) (by omega) (by omega)) gs_X12_86 hs_X12_isOpen ⟨(Nat.le_of_ble_eq_true rfl), (Nat.le_of_ble_eq_true rfl)⟩ hl.1 rfl (Nat.le_of_ble_eq_true rfl) ⟨Nat.zero_le _, Nat.zero_le _⟩ dX12_steps_59 (fun r M1 H locs hp w => ?_)
      rcases hp with ⟨⟨hb6, rfl⟩ | ⟨hb6, rfl⟩, hMe⟩
      · rw [hMe] at w
        refine z_if_eq (tgt := 91) hx hb (by omega) dX12_steps_62 (by decide) (fun c7 => False.elim (by omega)) (fun c7 => ?_)
        refine lv_aload_n hx hb dX12_steps_65 rfl (lv_at hl 2 rfl) ?_
        refine f_12_2 F w (a := 146) rfl tb_45 dX12_steps_66 ?_
        refine lv_bipush (v := zI 27) hx hb dX12_steps_69 (by decide) ?_
        refine g_iald F w (a := 148) rfl (j := 27) ⟨by decide, by decide⟩ (by omega) dX12_steps_71 ?_
        refine r_val (v := (zI (ed : Int))) (hW.2.2.2.1) ?_
        refine lv_iload_n hx hb dX12_steps_72 rfl (lv_at hl 4 rfl) ?_
        refine z_if_eq (tgt := 83) hx hb (by omega) dX12_steps_73 (by decide) (fun c8 => False.elim (by omega)) (fun c8 => ?_)
        refine lv_iload hx hb dX12_steps_76 (lv_at hl 0 rfl) ?_
        refine lv_iconst (v := zI 1) hx hb dX12_steps_78 rfl ?_
        refine z_iadd (z := (((k2 + 1) : Nat) : Int)) hx hb dX12_steps_79 (by omega) ?_
        refine lv_goto (tgt := 85) hx hb dX12_steps_80 (by decide) ?_
        refine k_Si F w (As := [.int (zI (ed : Int)), .int (zI (((k2 + 1) : Nat) : Int))]) (rest := []) (s_X12_isIn (m9 := ed) (k := (k2 + 1)) (by omega) (by omega)) gs_X12_51 hs_X12_isIn ⟨(Nat.le_of_ble_eq_true rfl), (Nat.le_of_ble_eq_true rfl)⟩ hl.1 rfl (Nat.le_of_ble_eq_true rfl) ⟨Nat.zero_le _, Nat.zero_le _⟩ dX12_steps_85 (fun r M1 H locs hp w => ?_)
        rcases hp with ⟨⟨hb9, rfl⟩ | ⟨hb9, rfl⟩, hMe⟩
        · rw [hMe] at w
          refine z_if_eq (tgt := 93) hx hb (by omega) dX12_steps_88 (by decide) (fun c10 => False.elim (by omega)) (fun c10 => ?_)
          refine lv_iconst (v := zI 0) hx hb dX12_steps_91 rfl ?_
          exact e_z F w hr hlocks (by decide) (Or.inr ⟨stp_n2 (x := x) (by rw [if_neg (by omega)]) ek2 (by first | exact Or.inl (by assumption) | exact Or.inr (Or.inl (by assumption)) | (rw [if_neg (by omega)]; exact Or.inr (Or.inr (by assumption)))), rfl, rfl⟩) dX12_steps_92
        · rw [hMe] at w
          refine z_if_eq (tgt := 93) hx hb (by omega) dX12_steps_88 (by decide) (fun c11 => ?_) (fun c11 => False.elim (by omega))
          refine lv_aload_n hx hb dX12_steps_93 rfl (lv_at hl 2 rfl) ?_
          refine lv_iload_n hx hb dX12_steps_94 rfl (lv_at hl 3 rfl) ?_
          refine lv_iload hx hb dX12_steps_95 (lv_at hl 0 rfl) ?_
          refine k_Vv F w (As := [.int (zI (t : Int)), .int (zI (k2 : Int))]) (rest := []) (a := 146) (kd_lt (a := 146) (show kd 146 = (12, 0, 0) from rfl) (by decide)) (sh_12 rfl _ _) rfl (s_X12_comes hW hwf hc (t := t) (j := k2) (by omega) (by omega)) gv_X12_90 hv_X12_comes ⟨(Nat.le_of_ble_eq_true rfl), (Nat.le_of_ble_eq_true rfl)⟩ hl.1 rfl (Nat.le_of_ble_eq_true rfl) ⟨Nat.zero_le _, Nat.zero_le _⟩ dX12_steps_97 (fun M1 H locs hp w => ?_)
          rcases hp with ⟨hW2, hc2, hF2⟩
          refine lv_iconst (v := zI 1) hx hb dX12_steps_100 rfl ?_
          exact e_z F w hr hlocks (by decide) (Or.inl ⟨k2, stp_y (x := x) (hz := (by rw [if_neg (by omega)])) ek2 (by omega) (by assumption) (by assumption) (by rw [if_neg (by omega)]; assumption), rfl, hW2, hc2, hF2⟩) dX12_steps_101
      · rw [hMe] at w
        refine z_if_eq (tgt := 91) hx hb (by omega) dX12_steps_62 (by decide) (fun c12 => ?_) (fun c12 => False.elim (by omega))
        refine lv_iconst (v := zI 0) hx hb dX12_steps_91 rfl ?_
        exact e_z F w hr hlocks (by decide) (Or.inr ⟨stp_n2 (x := x) (by rw [if_neg (by omega)]) ek2 (by first | exact Or.inl (by assumption) | exact Or.inr (Or.inl (by assumption)) | (rw [if_neg (by omega)]; exact Or.inr (Or.inr (by assumption)))), rfl, rfl⟩) dX12_steps_92
    · rw [hMe] at w
      refine z_if_eq (tgt := 91) hx hb (by omega) dX12_steps_49 (by decide) (fun c13 => ?_) (fun c13 => False.elim (by omega))
      refine lv_iconst (v := zI 0) hx hb dX12_steps_91 rfl ?_
      exact e_z F w hr hlocks (by decide) (Or.inr ⟨stp_n2 (x := x) (by rw [if_neg (by omega)]) ek2 (by first | exact Or.inl (by assumption) | exact Or.inr (Or.inl (by assumption)) | (rw [if_neg (by omega)]; exact Or.inr (Or.inr (by assumption)))), rfl, rfl⟩) dX12_steps_92
  · rw [hMe] at w
    refine z_if_eq (tgt := 91) hx hb (by omega) dX12_steps_40 (by decide) (fun c14 => ?_) (fun c14 => False.elim (by omega))
    refine lv_iconst (v := zI 0) hx hb dX12_steps_91 rfl ?_
    exact e_z F w hr hlocks (by decide) (Or.inr ⟨stp_n1 (x := x) (by rw [if_neg (by omega)]) (by omega), rfl, rfl⟩) dX12_steps_92
