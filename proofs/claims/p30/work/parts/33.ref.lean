theorem dX12_collects_0 : decode cX12_collects 0 = .ok (.bipush 12, 2) := dqS kk_16 (by decide +kernel)
theorem dX12_collects_2 : decode cX12_collects 2 = .ok (.aload_n 0, 1) := dq0 kk_42 (by decide +kernel)
theorem dX12_collects_3 : decode cX12_collects 3 = .ok (.getfield 309, 3) := dqV kk_180 (by decide +kernel)
theorem tb_695 : Cond.fieldLink "ToneLinesModel" 309 "ToneLinesModel" "readingMany" "I" ∈ TB := tbm (tc5 (List.mem_of_getElem? (i := 81) rfl)) rfl
theorem dX12_collects_6 : decode cX12_collects 6 = .ok (.imul, 1) := dq0 kk_104 (by decide +kernel)
theorem dX12_collects_7 : decode cX12_collects 7 = .ok (.istore_n 1, 1) := dq0 kk_60 (by decide +kernel)
theorem dX12_collects_8 : decode cX12_collects 8 = .ok (.iconst 0, 1) := dq0 kk_3 (by decide +kernel)
theorem dX12_collects_9 : decode cX12_collects 9 = .ok (.istore_n 2, 1) := dq0 kk_61 (by decide +kernel)
theorem dX12_collects_10 : decode cX12_collects 10 = .ok (.iload_n 2, 1) := dq0 kk_28 (by decide +kernel)
theorem dX12_collects_11 : decode cX12_collects 11 = .ok (.bipush 12, 2) := dqS kk_16 (by decide +kernel)
theorem dX12_collects_13 : decode cX12_collects 13 = .ok (.if_icmp .ge 37, 3) := dqT kk_162 (by decide +kernel)
theorem dX12_collects_16 : decode cX12_collects 16 = .ok (.aload_n 0, 1) := dq0 kk_42 (by decide +kernel)
theorem dX12_collects_17 : decode cX12_collects 17 = .ok (.getfield 48, 3) := dqV kk_180 (by decide +kernel)
theorem tb_696 : Cond.fieldLink "ToneLinesModel" 48 "ToneLinesModel" "readings" "[I" ∈ TB := tbm (tc5 (List.mem_of_getElem? (i := 80) rfl)) rfl
theorem dX12_collects_20 : decode cX12_collects 20 = .ok (.iload_n 1, 1) := dq0 kk_27 (by decide +kernel)
theorem dX12_collects_21 : decode cX12_collects 21 = .ok (.iload_n 2, 1) := dq0 kk_28 (by decide +kernel)
theorem dX12_collects_22 : decode cX12_collects 22 = .ok (.iadd, 1) := dq0 kk_96 (by decide +kernel)
theorem dX12_collects_23 : decode cX12_collects 23 = .ok (.iload_n 2, 1) := dq0 kk_28 (by decide +kernel)
theorem dX12_collects_24 : decode cX12_collects 24 = .ok (.aload_n 0, 1) := dq0 kk_42 (by decide +kernel)
theorem dX12_collects_25 : decode cX12_collects 25 = .ok (.getfield 17, 3) := dqV kk_180 (by decide +kernel)
theorem dX12_collects_28 : decode cX12_collects 28 = .ok (.bipush 25, 2) := dqS kk_16 (by decide +kernel)
theorem dX12_collects_30 : decode cX12_collects 30 = .ok (.iaload, 1) := dq0 kk_46 (by decide +kernel)
theorem dX12_collects_31 : decode cX12_collects 31 = .ok (.if_icmp .ge 11, 3) := dqT kk_162 (by decide +kernel)
theorem dX12_collects_42 : decode cX12_collects 42 = .ok (.iconst 0, 1) := dq0 kk_3 (by decide +kernel)
theorem dX12_collects_43 : decode cX12_collects 43 = .ok (.iastore, 1) := dq0 kk_79 (by decide +kernel)
theorem dX12_collects_44 : decode cX12_collects 44 = .ok (.iinc 2 1, 3) := dqI kk_132 (by decide +kernel)
theorem dX12_collects_47 : decode cX12_collects 47 = .ok (.goto (-37), 3) := dqT kk_167 (by decide +kernel)
theorem dX12_collects_34 : decode cX12_collects 34 = .ok (.aload_n 0, 1) := dq0 kk_42 (by decide +kernel)
theorem dX12_collects_35 : decode cX12_collects 35 = .ok (.iload_n 2, 1) := dq0 kk_28 (by decide +kernel)
theorem dX12_collects_36 : decode cX12_collects 36 = .ok (.invokevirtual 288, 3) := dqV kk_182 (by decide +kernel)
theorem dX12_collects_39 : decode cX12_collects 39 = .ok (.goto 4, 3) := dqT kk_167 (by decide +kernel)
theorem dX12_collects_50 : decode cX12_collects 50 = .ok (.iconst 0, 1) := dq0 kk_3 (by decide +kernel)
theorem dX12_collects_51 : decode cX12_collects 51 = .ok (.istore_n 2, 1) := dq0 kk_61 (by decide +kernel)
theorem dX12_collects_52 : decode cX12_collects 52 = .ok (.iload_n 2, 1) := dq0 kk_28 (by decide +kernel)
theorem dX12_collects_53 : decode cX12_collects 53 = .ok (.aload_n 0, 1) := dq0 kk_42 (by decide +kernel)
theorem dX12_collects_54 : decode cX12_collects 54 = .ok (.getfield 309, 3) := dqV kk_180 (by decide +kernel)
theorem dX12_collects_57 : decode cX12_collects 57 = .ok (.if_icmp .ge 66, 3) := dqT kk_162 (by decide +kernel)
theorem dX12_collects_123 : decode cX12_collects 123 = .ok (.aload_n 0, 1) := dq0 kk_42 (by decide +kernel)
theorem dX12_collects_124 : decode cX12_collects 124 = .ok (.dup, 1) := dq0 kk_89 (by decide +kernel)
theorem dX12_collects_125 : decode cX12_collects 125 = .ok (.getfield 309, 3) := dqV kk_180 (by decide +kernel)
theorem dX12_collects_128 : decode cX12_collects 128 = .ok (.iconst 1, 1) := dq0 kk_4 (by decide +kernel)
theorem dX12_collects_129 : decode cX12_collects 129 = .ok (.iadd, 1) := dq0 kk_96 (by decide +kernel)
theorem dX12_collects_130 : decode cX12_collects 130 = .ok (.putfield 309, 3) := dqV kk_181 (by decide +kernel)
theorem dX12_collects_133 : decode cX12_collects 133 = .ok (.return_, 1) := dq0 kk_177 (by decide +kernel)
theorem dX12_collects_60 : decode cX12_collects 60 = .ok (.iconst 1, 1) := dq0 kk_4 (by decide +kernel)
theorem dX12_collects_61 : decode cX12_collects 61 = .ok (.istore_n 3, 1) := dq0 kk_62 (by decide +kernel)
theorem dX12_collects_62 : decode cX12_collects 62 = .ok (.iconst 0, 1) := dq0 kk_3 (by decide +kernel)
theorem dX12_collects_63 : decode cX12_collects 63 = .ok (.istore 4, 2) := dqU kk_54 (by decide +kernel)
theorem dX12_collects_65 : decode cX12_collects 65 = .ok (.iload 4, 2) := dqU kk_21 (by decide +kernel)
theorem dX12_collects_67 : decode cX12_collects 67 = .ok (.bipush 12, 2) := dqS kk_16 (by decide +kernel)
theorem dX12_collects_69 : decode cX12_collects 69 = .ok (.if_icmp .ge 43, 3) := dqT kk_162 (by decide +kernel)
theorem dX12_collects_72 : decode cX12_collects 72 = .ok (.iload_n 3, 1) := dq0 kk_29 (by decide +kernel)
theorem dX12_collects_73 : decode cX12_collects 73 = .ok (.ifCond .eq 39, 3) := dqT kk_153 (by decide +kernel)
theorem dX12_collects_76 : decode cX12_collects 76 = .ok (.aload_n 0, 1) := dq0 kk_42 (by decide +kernel)
theorem dX12_collects_77 : decode cX12_collects 77 = .ok (.getfield 48, 3) := dqV kk_180 (by decide +kernel)
theorem dX12_collects_80 : decode cX12_collects 80 = .ok (.bipush 12, 2) := dqS kk_16 (by decide +kernel)
theorem dX12_collects_82 : decode cX12_collects 82 = .ok (.iload_n 2, 1) := dq0 kk_28 (by decide +kernel)
theorem dX12_collects_83 : decode cX12_collects 83 = .ok (.imul, 1) := dq0 kk_104 (by decide +kernel)
theorem dX12_collects_84 : decode cX12_collects 84 = .ok (.iload 4, 2) := dqU kk_21 (by decide +kernel)
theorem dX12_collects_86 : decode cX12_collects 86 = .ok (.iadd, 1) := dq0 kk_96 (by decide +kernel)
theorem dX12_collects_87 : decode cX12_collects 87 = .ok (.iaload, 1) := dq0 kk_46 (by decide +kernel)
theorem dX12_collects_88 : decode cX12_collects 88 = .ok (.aload_n 0, 1) := dq0 kk_42 (by decide +kernel)
theorem dX12_collects_89 : decode cX12_collects 89 = .ok (.getfield 48, 3) := dqV kk_180 (by decide +kernel)
theorem dX12_collects_92 : decode cX12_collects 92 = .ok (.iload_n 1, 1) := dq0 kk_27 (by decide +kernel)
theorem dX12_collects_93 : decode cX12_collects 93 = .ok (.iload 4, 2) := dqU kk_21 (by decide +kernel)
theorem dX12_collects_95 : decode cX12_collects 95 = .ok (.iadd, 1) := dq0 kk_96 (by decide +kernel)
theorem dX12_collects_96 : decode cX12_collects 96 = .ok (.iaload, 1) := dq0 kk_46 (by decide +kernel)
theorem dX12_collects_97 : decode cX12_collects 97 = .ok (.if_icmp .ne 7, 3) := dqT kk_160 (by decide +kernel)
theorem dX12_collects_104 : decode cX12_collects 104 = .ok (.iconst 0, 1) := dq0 kk_3 (by decide +kernel)
theorem dX12_collects_105 : decode cX12_collects 105 = .ok (.istore_n 3, 1) := dq0 kk_62 (by decide +kernel)
theorem dX12_collects_106 : decode cX12_collects 106 = .ok (.iinc 4 1, 3) := dqI kk_132 (by decide +kernel)
theorem dX12_collects_109 : decode cX12_collects 109 = .ok (.goto (-44), 3) := dqT kk_167 (by decide +kernel)
theorem dX12_collects_100 : decode cX12_collects 100 = .ok (.iconst 1, 1) := dq0 kk_4 (by decide +kernel)
theorem dX12_collects_101 : decode cX12_collects 101 = .ok (.goto 4, 3) := dqT kk_167 (by decide +kernel)
theorem dX12_collects_112 : decode cX12_collects 112 = .ok (.iload_n 3, 1) := dq0 kk_29 (by decide +kernel)
theorem dX12_collects_113 : decode cX12_collects 113 = .ok (.ifCond .eq 4, 3) := dqT kk_153 (by decide +kernel)
theorem dX12_collects_117 : decode cX12_collects 117 = .ok (.iinc 2 1, 3) := dqI kk_132 (by decide +kernel)
theorem dX12_collects_120 : decode cX12_collects 120 = .ok (.goto (-68), 3) := dqT kk_167 (by decide +kernel)
theorem dX12_collects_116 : decode cX12_collects 116 = .ok (.return_, 1) := dq0 kk_177 (by decide +kernel)
set_option maxRecDepth 4000 in
theorem q_X12_collects {l : Launch} {D : va_G} {B : Nat} {cy : Nat → ClassId} {M : Mem} {rm : Int} (hgrm : M.1 146 25 = zI rm) (hrm : 0 ≤ rm ∧ rm ≤ 720) (hpre0 : rm ≤ 719) (hI : IvR M) : Cv l D B cy yX12_collects cX12_collects 5 2 45 [.ref (B + 146)] M (fun M1 => (∃ rm2 : Int, M1.1 146 25 = zI rm2 ∧ ((0 ≤ rm2 ∧ rm2 ≤ 720) ∧ rm2 ≤ rm + 1)) ∧ IvR M1 ∧ Fr (fun b9 k9 => (b9 = 146 ∧ k9 = 25) ∨ b9 = 158) M1 M) := by
  refine s_anyQ (by decide) (Nat.le_of_ble_eq_true rfl) ?_
  intro p e s m args below meth c ls Q F hr hlocks hQ w hl
  have F : CallFix p m c cX12_collects 5 s args TB RX12 := F
  have hx := F.1
  have hb := F.2.1
  have hl : lv_has ls 5 [(0, .ref (B + 146))] := hl
  have hF : Fr (fun b9 k9 => (b9 = 146 ∧ k9 = 25) ∨ b9 = 158) M M := Fr.rf
  refine lv_bipush (v := zI 12) hx hb dX12_collects_0 (by decide) ?_
  refine lv_aload_n hx hb dX12_collects_2 rfl (lv_at hl 0 rfl) ?_
  refine f_12_25 F w (a := 146) rfl tb_695 dX12_collects_3 ?_
  refine r_val (v := zI rm) (hgrm) ?_
  refine z_imul (z := (12 * rm)) hx hb dX12_collects_6 (by omega) ?_
  refine lv_istore_n (lv' := [(1, .int (zI (12 * rm))), (0, .ref (B + 146))]) hx hb dX12_collects_7 rfl hl (by decide) rfl (fun ls hl => ?_)
  refine lv_iconst (v := zI 0) hx hb dX12_collects_8 rfl ?_
  refine lv_istore_n (lv' := [(2, .int (zI 0)), (1, .int (zI (12 * rm))), (0, .ref (B + 146))]) hx hb dX12_collects_9 rfl hl (by decide) rfl (fun ls hl => ?_)
  have lp10 : ∀ (f : Nat) (v2_10 : Int)  (NL10 : Mem), (0 ≤ v2_10 ∧ v2_10 ≤ 12) → NL10.1 146 25 = zI rm → IvR NL10 → Fr (fun b9 k9 => (b9 = 146 ∧ k9 = 25) ∨ b9 = 158) NL10 M → (Int.toNat (12 - v2_10) < f) → ∀ (H : Heap) (locs : List Loc) (ls : Array Slot), Wd D B cy s s.heap NL10 H locs → lv_has ls 5 [(2, .int (zI v2_10)), (1, .int (zI (12 * rm))), (0, .ref (B + 146))] → W p l e (rmm 2 45) s m args below meth c H locs 0 0 Q (F0 m 10 ls []) := by
    intro f
    induction f with
    | zero => intros; omega
    | succ f ih10 =>
      intro v2_10  NL10 iv2_10 eg146_25_10 hIL10 hFL10 hf10 H locs ls w hl
      refine lv_iload_n hx hb dX12_collects_10 rfl (lv_at hl 0 rfl) ?_
      refine lv_bipush (v := zI 12) hx hb dX12_collects_11 (by decide) ?_
      refine z_icmp_ge (tgt := 50) hx hb (by omega) (by omega) dX12_collects_13 (by decide) (fun c1 => ?_) (fun c1 => ?_)
      · refine lv_iconst (v := zI 0) hx hb dX12_collects_50 rfl ?_
        refine lv_istore_n (lv' := [(2, .int (zI 0)), (1, .int (zI (12 * rm))), (0, .ref (B + 146))]) hx hb dX12_collects_51 rfl hl (by decide) rfl (fun ls hl => ?_)
        have lp52 : ∀ (f : Nat) (v2_52 : Int), (0 ≤ v2_52 ∧ v2_52 ≤ 720) → (Int.toNat (720 - v2_52) < f) → ∀ (H : Heap) (locs : List Loc) (ls : Array Slot), Wd D B cy s s.heap NL10 H locs → lv_has ls 5 [(2, .int (zI v2_52)), (1, .int (zI (12 * rm))), (0, .ref (B + 146))] → W p l e (rmm 2 45) s m args below meth c H locs 0 0 Q (F0 m 52 ls []) := by
          intro f
          induction f with
          | zero => intros; omega
          | succ f ih52 =>
            intro v2_52  iv2_52 hf52 H locs ls w hl
            refine lv_iload_n hx hb dX12_collects_52 rfl (lv_at hl 0 rfl) ?_
            refine lv_aload_n hx hb dX12_collects_53 rfl (lv_at hl 2 rfl) ?_
            refine f_12_25 F w (a := 146) rfl tb_695 dX12_collects_54 ?_
            refine r_val (v := zI rm) (eg146_25_10) ?_
            refine z_icmp_ge (tgt := 123) hx hb (by omega) (by omega) dX12_collects_57 (by decide) (fun c2 => ?_) (fun c2 => ?_)
            · refine lv_aload_n hx hb dX12_collects_123 rfl (lv_at hl 2 rfl) ?_
              refine lv_dup hx hb dX12_collects_124 rfl ?_
              refine f_12_25 F w (a := 146) rfl tb_695 dX12_collects_125 ?_
              refine r_val (v := zI rm) (eg146_25_10) ?_
              refine lv_iconst (v := zI 1) hx hb dX12_collects_128 rfl ?_
              refine z_iadd (z := (rm + 1)) hx hb dX12_collects_129 (by omega) ?_
              refine u_12_25 F w (a := 146) rfl tb_695 dX12_collects_130 (fun H locs w => ?_)
              rw [hQ]
              exact e_v F w hr hlocks ⟨⟨(rm + 1), (st_at), ⟨by omega, by omega⟩, (by omega)⟩, (IvR.to hIL10 (a := 146) (k := 25) (x := (rm + 1)) (show ivr 146 25 = (0, 720) from rfl) ⟨by omega, by omega⟩ ⟨by decide, by decide, by decide, fun q9 => absurd q9 (by decide)⟩), (Fr.to hFL10 (by first | decide | (dsimp only; first | done | decide | omega) | omega))⟩ dX12_collects_133
            · refine lv_iconst (v := zI 1) hx hb dX12_collects_60 rfl ?_
              refine lv_istore_n (lv' := [(3, .int (zI 1)), (2, .int (zI v2_52)), (1, .int (zI (12 * rm))), (0, .ref (B + 146))]) hx hb dX12_collects_61 rfl hl (by decide) rfl (fun ls hl => ?_)
              refine lv_iconst (v := zI 0) hx hb dX12_collects_62 rfl ?_
              refine lv_istore (lv' := [(4, .int (zI 0)), (3, .int (zI 1)), (2, .int (zI v2_52)), (1, .int (zI (12 * rm))), (0, .ref (B + 146))]) hx hb dX12_collects_63 hl (by decide) rfl (fun ls hl => ?_)
              have lp65 : ∀ (f : Nat) (v4_65 : Int) (v3_65 : Int), (0 ≤ v4_65 ∧ v4_65 ≤ 12) → (0 ≤ v3_65 ∧ v3_65 ≤ 1) → (Int.toNat (12 - v4_65) < f) → ∀ (H : Heap) (locs : List Loc) (ls : Array Slot), Wd D B cy s s.heap NL10 H locs → lv_has ls 5 [(4, .int (zI v4_65)), (3, .int (zI v3_65)), (2, .int (zI v2_52)), (1, .int (zI (12 * rm))), (0, .ref (B + 146))] → W p l e (rmm 2 45) s m args below meth c H locs 0 0 Q (F0 m 65 ls []) := by
                intro f
                induction f with
                | zero => intros; omega
                | succ f ih65 =>
                  intro v4_65 v3_65  iv4_65 iv3_65 hf65 H locs ls w hl
                  refine lv_iload hx hb dX12_collects_65 (lv_at hl 0 rfl) ?_
                  refine lv_bipush (v := zI 12) hx hb dX12_collects_67 (by decide) ?_
                  refine z_icmp_ge (tgt := 112) hx hb (by omega) (by omega) dX12_collects_69 (by decide) (fun c3 => ?_) (fun c3 => ?_)
                  · refine lv_iload_n hx hb dX12_collects_112 rfl (lv_at hl 1 rfl) ?_
                    refine z_if_eq (tgt := 117) hx hb (by omega) dX12_collects_113 (by decide) (fun c4 => ?_) (fun c4 => ?_)
                    · refine z_iinc (v := (v2_52 + 1)) (lv' := [(2, .int (zI (v2_52 + 1))), (4, .int (zI v4_65)), (3, .int (zI v3_65)), (1, .int (zI (12 * rm))), (0, .ref (B + 146))]) hx hb dX12_collects_117 hl (k := 2) rfl (by omega) (by decide) rfl (fun ls hl => ?_)
                      refine lv_goto (tgt := 52) hx hb dX12_collects_120 (by decide) ?_
                      exact ih52 (v2_52 + 1) (by omega)     (by omega) _ _ _ w (lv_sub hl [0, 3, 4] rfl)
                    · rw [hQ]
                      exact e_v F w hr hlocks ⟨⟨rm, (eg146_25_10), ⟨by omega, by omega⟩, (by omega)⟩, hIL10, hFL10⟩ dX12_collects_116
                  · refine lv_iload_n hx hb dX12_collects_72 rfl (lv_at hl 1 rfl) ?_
                    refine z_if_eq (tgt := 112) hx hb (by omega) dX12_collects_73 (by decide) (fun c5 => ?_) (fun c5 => ?_)
                    · refine lv_iload_n hx hb dX12_collects_112 rfl (lv_at hl 1 rfl) ?_
                      refine z_if_eq (tgt := 117) hx hb (by omega) dX12_collects_113 (by decide) (fun c6 => ?_) (fun c6 => False.elim (by omega))
                      refine z_iinc (v := (v2_52 + 1)) (lv' := [(2, .int (zI (v2_52 + 1))), (4, .int (zI v4_65)), (3, .int (zI v3_65)), (1, .int (zI (12 * rm))), (0, .ref (B + 146))]) hx hb dX12_collects_117 hl (k := 2) rfl (by omega) (by decide) rfl (fun ls hl => ?_)
                      refine lv_goto (tgt := 52) hx hb dX12_collects_120 (by decide) ?_
                      exact ih52 (v2_52 + 1) (by omega)     (by omega) _ _ _ w (lv_sub hl [0, 3, 4] rfl)
                    · refine lv_aload_n hx hb dX12_collects_76 rfl (lv_at hl 4 rfl) ?_
                      refine f_12_24 F w (a := 146) rfl tb_696 dX12_collects_77 ?_
                      refine lv_bipush (v := zI 12) hx hb dX12_collects_80 (by decide) ?_
                      refine lv_iload_n hx hb dX12_collects_82 rfl (lv_at hl 2 rfl) ?_
                      refine z_imul (z := (12 * v2_52)) hx hb dX12_collects_83 (by omega) ?_
                      refine lv_iload hx hb dX12_collects_84 (lv_at hl 0 rfl) ?_
                      refine z_iadd (z := ((12 * v2_52) + v4_65)) hx hb dX12_collects_86 (by omega) ?_
                      refine g_iald F w (a := 158) rfl (j := (Int.toNat ((12 * v2_52) + v4_65))) (ix_z (by omega) (by omega)) (by omega) dX12_collects_87 ?_
                      obtain ⟨z7, bz7, ez7⟩ := IvR.ld (k := (Int.toNat ((12 * v2_52) + v4_65))) hIL10 (show ivr 158 (Int.toNat ((12 * v2_52) + v4_65)) = ((-2147483648), 2147483647) from rfl) (show 146 ≤ 158 ∧ 158 < 159 by decide)
                      refine r_val ez7 ?_
                      refine lv_aload_n hx hb dX12_collects_88 rfl (lv_at hl 4 rfl) ?_
                      refine f_12_24 F w (a := 146) rfl tb_696 dX12_collects_89 ?_
                      refine lv_iload_n hx hb dX12_collects_92 rfl (lv_at hl 3 rfl) ?_
                      refine lv_iload hx hb dX12_collects_93 (lv_at hl 0 rfl) ?_
                      refine z_iadd (z := ((12 * rm) + v4_65)) hx hb dX12_collects_95 (by omega) ?_
                      refine g_iald F w (a := 158) rfl (j := (Int.toNat ((12 * rm) + v4_65))) (ix_z (by omega) (by omega)) (by omega) dX12_collects_96 ?_
                      obtain ⟨z8, bz8, ez8⟩ := IvR.ld (k := (Int.toNat ((12 * rm) + v4_65))) hIL10 (show ivr 158 (Int.toNat ((12 * rm) + v4_65)) = ((-2147483648), 2147483647) from rfl) (show 146 ≤ 158 ∧ 158 < 159 by decide)
                      refine r_val ez8 ?_
                      refine z_icmp_ne (tgt := 104) hx hb (by omega) (by omega) dX12_collects_97 (by decide) (fun c9 => ?_) (fun c9 => ?_)
                      · refine lv_iconst (v := zI 0) hx hb dX12_collects_104 rfl ?_
                        refine lv_istore_n (lv' := [(3, .int (zI 0)), (4, .int (zI v4_65)), (2, .int (zI v2_52)), (1, .int (zI (12 * rm))), (0, .ref (B + 146))]) hx hb dX12_collects_105 rfl hl (by decide) rfl (fun ls hl => ?_)
                        refine z_iinc (v := (v4_65 + 1)) (lv' := [(4, .int (zI (v4_65 + 1))), (3, .int (zI 0)), (2, .int (zI v2_52)), (1, .int (zI (12 * rm))), (0, .ref (B + 146))]) hx hb dX12_collects_106 hl (k := 1) rfl (by omega) (by decide) rfl (fun ls hl => ?_)
                        refine lv_goto (tgt := 65) hx hb dX12_collects_109 (by decide) ?_
                        exact ih65 (v4_65 + 1) 0 (by omega) (by omega)     (by omega) _ _ _ w (lv_sub hl [0, 1, 2, 3, 4] rfl)
                      · refine lv_iconst (v := zI 1) hx hb dX12_collects_100 rfl ?_
                        refine lv_goto (tgt := 105) hx hb dX12_collects_101 (by decide) ?_
                        refine lv_istore_n (lv' := [(3, .int (zI 1)), (4, .int (zI v4_65)), (2, .int (zI v2_52)), (1, .int (zI (12 * rm))), (0, .ref (B + 146))]) hx hb dX12_collects_105 rfl hl (by decide) rfl (fun ls hl => ?_)
                        refine z_iinc (v := (v4_65 + 1)) (lv' := [(4, .int (zI (v4_65 + 1))), (3, .int (zI 1)), (2, .int (zI v2_52)), (1, .int (zI (12 * rm))), (0, .ref (B + 146))]) hx hb dX12_collects_106 hl (k := 1) rfl (by omega) (by decide) rfl (fun ls hl => ?_)
                        refine lv_goto (tgt := 65) hx hb dX12_collects_109 (by decide) ?_
                        exact ih65 (v4_65 + 1) 1 (by omega) (by omega)     (by omega) _ _ _ w (lv_sub hl [0, 1, 2, 3, 4] rfl)
              exact lp65 _ 0 1 (by omega) (by omega) (Nat.lt_succ_self _) _ _ _ w (lv_sub hl [0, 1, 2, 3, 4] rfl)
        exact lp52 _ 0 (by omega) (Nat.lt_succ_self _) _ _ _ w (lv_sub hl [0, 1, 2] rfl)
      · refine lv_aload_n hx hb dX12_collects_16 rfl (lv_at hl 2 rfl) ?_
        refine f_12_24 F w (a := 146) rfl tb_696 dX12_collects_17 ?_
        refine lv_iload_n hx hb dX12_collects_20 rfl (lv_at hl 1 rfl) ?_
        refine lv_iload_n hx hb dX12_collects_21 rfl (lv_at hl 0 rfl) ?_
        refine z_iadd (z := ((12 * rm) + v2_10)) hx hb dX12_collects_22 (by omega) ?_
        refine lv_iload_n hx hb dX12_collects_23 rfl (lv_at hl 0 rfl) ?_
        refine lv_aload_n hx hb dX12_collects_24 rfl (lv_at hl 2 rfl) ?_
        refine f_12_2 F w (a := 146) rfl tb_45 dX12_collects_25 ?_
        refine lv_bipush (v := zI 25) hx hb dX12_collects_28 (by decide) ?_
        refine g_iald F w (a := 148) rfl (j := 25) ⟨by decide, by decide⟩ (by omega) dX12_collects_30 ?_
        obtain ⟨z10, bz10, ez10⟩ := IvR.ld (k := 25) hIL10 (show ivr 148 25 = (0, 12) from rfl) (show 146 ≤ 148 ∧ 148 < 159 by decide)
        refine r_val ez10 ?_
        refine z_icmp_ge (tgt := 42) hx hb (by omega) (by omega) dX12_collects_31 (by decide) (fun c11 => ?_) (fun c11 => ?_)
        · refine lv_iconst (v := zI 0) hx hb dX12_collects_42 rfl ?_
          refine g_iast F w (a := 158) rfl (j := (Int.toNat ((12 * rm) + v2_10))) (ix_z (by omega) (by omega)) (by omega) dX12_collects_43 (fun H locs w => ?_)
          refine z_iinc (v := (v2_10 + 1)) (lv' := [(2, .int (zI (v2_10 + 1))), (1, .int (zI (12 * rm))), (0, .ref (B + 146))]) hx hb dX12_collects_44 hl (k := 0) rfl (by omega) (by decide) rfl (fun ls hl => ?_)
          refine lv_goto (tgt := 10) hx hb dX12_collects_47 (by decide) ?_
          exact ih10 (v2_10 + 1) (st NL10 158 (Int.toNat ((12 * rm) + v2_10)) (zI 0)) (by omega)  ((st_ne (Or.inl (by decide))).trans eg146_25_10)  (IvR.to hIL10 (a := 158) (k := (Int.toNat ((12 * rm) + v2_10))) (x := 0) (show ivr 158 (Int.toNat ((12 * rm) + v2_10)) = ((-2147483648), 2147483647) from rfl) ⟨by omega, by omega⟩ ⟨by decide, by decide, by decide, fun q9 => absurd q9 (by decide)⟩) (Fr.to hFL10 (by first | decide | (dsimp only; first | done | decide | omega) | omega)) (by omega) _ _ _ w (lv_sub hl [0, 1, 2] rfl)
        · refine lv_aload_n hx hb dX12_collects_34 rfl (lv_at hl 2 rfl) ?_
          refine lv_iload_n hx hb dX12_collects_35 rfl (lv_at hl 0 rfl) ?_
          refine k_Vi F w (As := [.int (zI v2_10)]) (rest := [.int (zI ((12 * rm) + v2_10)), .ref (B + 158)]) (a := 146) (kd_lt (a := 146) (show kd 146 = (12, 0, 0) from rfl) (by decide)) (sh_12 rfl _ _) rfl (q_X12_reading (y := v2_10) ⟨by omega, by omega⟩  hIL10) gv_X12_288 hv_X12_reading ⟨(Nat.le_of_ble_eq_true rfl), (Nat.le_of_ble_eq_true rfl)⟩ hl.1 rfl (Nat.le_of_ble_eq_true rfl) ⟨Nat.zero_le _, Nat.zero_le _⟩ dX12_collects_36 (fun r12 N13 H locs hp w => ?_)
          obtain ⟨z14, rfl, bz14, hMN13⟩ := hp
          rw [hMN13] at w
          refine lv_goto (tgt := 43) hx hb dX12_collects_39 (by decide) ?_
          refine g_iast F w (a := 158) rfl (j := (Int.toNat ((12 * rm) + v2_10))) (ix_z (by omega) (by omega)) (by omega) dX12_collects_43 (fun H locs w => ?_)
          refine z_iinc (v := (v2_10 + 1)) (lv' := [(2, .int (zI (v2_10 + 1))), (1, .int (zI (12 * rm))), (0, .ref (B + 146))]) hx hb dX12_collects_44 hl (k := 0) rfl (by omega) (by decide) rfl (fun ls hl => ?_)
          refine lv_goto (tgt := 10) hx hb dX12_collects_47 (by decide) ?_
          exact ih10 (v2_10 + 1) (st NL10 158 (Int.toNat ((12 * rm) + v2_10)) (zI z14)) (by omega)  ((st_ne (Or.inl (by decide))).trans eg146_25_10)  (IvR.to hIL10 (a := 158) (k := (Int.toNat ((12 * rm) + v2_10))) (x := z14) (show ivr 158 (Int.toNat ((12 * rm) + v2_10)) = ((-2147483648), 2147483647) from rfl) ⟨by omega, by omega⟩ ⟨by decide, by decide, by decide, fun q9 => absurd q9 (by decide)⟩) (Fr.to hFL10 (by first | decide | (dsimp only; first | done | decide | omega) | omega)) (by omega) _ _ _ w (lv_sub hl [0, 1, 2] rfl)
  exact lp10 _ 0 M (by omega) (hgrm) hI hF (Nat.lt_succ_self _) _ _ _ w (lv_sub hl [0, 1, 2] rfl)
theorem dX12_writes_0 : decode cX12_writes 0 = .ok (.aload_n 0, 1) := dq0 kk_42 (by decide +kernel)
theorem dX12_writes_1 : decode cX12_writes 1 = .ok (.getfield 42, 3) := dqV kk_180 (by decide +kernel)
theorem tb_697 : Cond.fieldLink "ToneLinesModel" 42 "ToneLinesModel" "text" "[I" ∈ TB := tbm (tc5 (List.mem_of_getElem? (i := 77) rfl)) rfl
theorem dX12_writes_4 : decode cX12_writes 4 = .ok (.aload_n 0, 1) := dq0 kk_42 (by decide +kernel)
theorem dX12_writes_5 : decode cX12_writes 5 = .ok (.getfield 291, 3) := dqV kk_180 (by decide +kernel)
theorem tb_698 : Cond.fieldLink "ToneLinesModel" 291 "ToneLinesModel" "textMany" "I" ∈ TB := tbm (tc5 (List.mem_of_getElem? (i := 78) rfl)) rfl
theorem dX12_writes_8 : decode cX12_writes 8 = .ok (.iload_n 1, 1) := dq0 kk_27 (by decide +kernel)
theorem dX12_writes_9 : decode cX12_writes 9 = .ok (.iastore, 1) := dq0 kk_79 (by decide +kernel)
theorem dX12_writes_10 : decode cX12_writes 10 = .ok (.aload_n 0, 1) := dq0 kk_42 (by decide +kernel)
theorem dX12_writes_11 : decode cX12_writes 11 = .ok (.dup, 1) := dq0 kk_89 (by decide +kernel)
theorem dX12_writes_12 : decode cX12_writes 12 = .ok (.getfield 291, 3) := dqV kk_180 (by decide +kernel)
theorem dX12_writes_15 : decode cX12_writes 15 = .ok (.iconst 1, 1) := dq0 kk_4 (by decide +kernel)
theorem dX12_writes_16 : decode cX12_writes 16 = .ok (.iadd, 1) := dq0 kk_96 (by decide +kernel)
theorem dX12_writes_17 : decode cX12_writes 17 = .ok (.putfield 291, 3) := dqV kk_181 (by decide +kernel)
theorem dX12_writes_20 : decode cX12_writes 20 = .ok (.return_, 1) := dq0 kk_177 (by decide +kernel)
set_option maxRecDepth 4000 in
theorem q_X12_writes {l : Launch} {D : va_G} {B : Nat} {cy : Nat → ClassId} {M : Mem} {x : Int} (hx : (-2147483648) ≤ x ∧ x ≤ 2147483647) {tm : Int} (hgtm : M.1 146 22 = zI tm) (htm : 0 ≤ tm ∧ tm ≤ 260) (hpre0 : tm ≤ 259) (hI : IvR M) : Cv l D B cy yX12_writes cX12_writes 2 0 0 [.ref (B + 146), .int (zI x)] M (fun M1 => (∃ tm2 : Int, M1.1 146 22 = zI tm2 ∧ ((0 ≤ tm2 ∧ tm2 ≤ 260) ∧ tm2 = tm + 1)) ∧ IvR M1 ∧ Fr (fun b9 k9 => (b9 = 146 ∧ k9 = 22) ∨ b9 = 156) M1 M) := by
  refine s_anyQ (by decide) (Nat.le_of_ble_eq_true rfl) ?_
  intro p e s m args below meth c ls Q F hr hlocks hQ w hl
  have F : CallFix p m c cX12_writes 2 s args TB RX12 := F
  have hx := F.1
  have hb := F.2.1
  have hl : lv_has ls 2 [(0, .ref (B + 146)), (1, .int (zI x))] := hl
  have hF : Fr (fun b9 k9 => (b9 = 146 ∧ k9 = 22) ∨ b9 = 156) M M := Fr.rf
  refine lv_aload_n hx hb dX12_writes_0 rfl (lv_at hl 0 rfl) ?_
  refine f_12_21 F w (a := 146) rfl tb_697 dX12_writes_1 ?_
  refine lv_aload_n hx hb dX12_writes_4 rfl (lv_at hl 0 rfl) ?_
  refine f_12_22 F w (a := 146) rfl tb_698 dX12_writes_5 ?_
  refine r_val (v := zI tm) (hgtm) ?_
  refine lv_iload_n hx hb dX12_writes_8 rfl (lv_at hl 1 rfl) ?_
  refine g_iast F w (a := 156) rfl (j := (Int.toNat tm)) (ix_z (by omega) (by omega)) (by omega) dX12_writes_9 (fun H locs w => ?_)
  refine lv_aload_n hx hb dX12_writes_10 rfl (lv_at hl 0 rfl) ?_
  refine lv_dup hx hb dX12_writes_11 rfl ?_
  refine f_12_22 F w (a := 146) rfl tb_698 dX12_writes_12 ?_
  refine r_val (v := zI tm) ((st_ne (Or.inl (by decide))).trans hgtm) ?_
  refine lv_iconst (v := zI 1) hx hb dX12_writes_15 rfl ?_
  refine z_iadd (z := (tm + 1)) hx hb dX12_writes_16 (by omega) ?_
  refine u_12_22 F w (a := 146) rfl tb_698 dX12_writes_17 (fun H locs w => ?_)
  rw [hQ]
  exact e_v F w hr hlocks ⟨⟨(tm + 1), (st_at), ⟨by omega, by omega⟩, (by omega)⟩, (IvR.to (IvR.to hI (a := 156) (k := (Int.toNat tm)) (x := x) (show ivr 156 (Int.toNat tm) = ((-2147483648), 2147483647) from rfl) ⟨by omega, by omega⟩ ⟨by decide, by decide, by decide, fun q9 => absurd q9 (by decide)⟩) (a := 146) (k := 22) (x := (tm + 1)) (show ivr 146 22 = (0, 260) from rfl) ⟨by omega, by omega⟩ ⟨by decide, by decide, by decide, fun q9 => absurd q9 (by decide)⟩), (Fr.to (Fr.to hF (by first | decide | (dsimp only; first | done | decide | omega) | omega)) (by first | decide | (dsimp only; first | done | decide | omega) | omega))⟩ dX12_writes_20
theorem dX12_writesNumber_0 : decode cX12_writesNumber 0 = .ok (.iload_n 1, 1) := dq0 kk_27 (by decide +kernel)
theorem dX12_writesNumber_1 : decode cX12_writesNumber 1 = .ok (.bipush 9, 2) := dqS kk_16 (by decide +kernel)
theorem dX12_writesNumber_3 : decode cX12_writesNumber 3 = .ok (.if_icmp .le 9, 3) := dqT kk_164 (by decide +kernel)
theorem dX12_writesNumber_12 : decode cX12_writesNumber 12 = .ok (.aload_n 0, 1) := dq0 kk_42 (by decide +kernel)
theorem dX12_writesNumber_13 : decode cX12_writesNumber 13 = .ok (.bipush 48, 2) := dqS kk_16 (by decide +kernel)
theorem dX12_writesNumber_15 : decode cX12_writesNumber 15 = .ok (.iload_n 1, 1) := dq0 kk_27 (by decide +kernel)
theorem dX12_writesNumber_16 : decode cX12_writesNumber 16 = .ok (.bipush 10, 2) := dqS kk_16 (by decide +kernel)
theorem dX12_writesNumber_18 : decode cX12_writesNumber 18 = .ok (.irem, 1) := dq0 kk_112 (by decide +kernel)
theorem dX12_writesNumber_19 : decode cX12_writesNumber 19 = .ok (.iadd, 1) := dq0 kk_96 (by decide +kernel)
theorem dX12_writesNumber_20 : decode cX12_writesNumber 20 = .ok (.invokevirtual 294, 3) := dqV kk_182 (by decide +kernel)
theorem tk_X12_writes : Cond.code yX12_writes cX12_writes 2 none ∈ TB := tbm (tc6 (List.mem_of_getElem? (i := 220) rfl)) rfl
theorem gc_X12_writes : GoodIn TB (cw yX12_writes cX12_writes 2 none) := goodIn_c2 tk_X12_writes
theorem tb_699 : Cond.methodLink "ToneLinesModel" 294 yX12_writes ∈ TB := tbm (tc6 (List.mem_of_getElem? (i := 217) rfl)) rfl
theorem tb_700 : Cond.instanceMethod yX12_writes ∈ TB := tbm (tc6 (List.mem_of_getElem? (i := 219) rfl)) rfl
theorem tb_701 : Cond.selects "ToneLinesModel" yX12_writes yX12_writes ∈ TB := tbp (List.mem_of_getElem? (i := 83) rfl) rfl
theorem gv_X12_294 : GoodIn TB (wsV RX12 294 RX12 yX12_writes (cw yX12_writes cX12_writes 2 none)) := goodIn_4 tb_699 tb_700 tb_701 tb_38 gc_X12_writes
theorem hv_X12_writes : yX12_writes.cls = RX12 ∧ yX12_writes.cls ≠ "java/lang/invoke/MethodHandle" ∧ yX12_writes.cls ≠ "java/lang/invoke/VarHandle" ∧ (parseMethodDescriptor yX12_writes.desc).map (fun d => d.parameters.length) = some 1 := by decide +kernel
theorem dX12_writesNumber_23 : decode cX12_writesNumber 23 = .ok (.return_, 1) := dq0 kk_177 (by decide +kernel)
theorem dX12_writesNumber_6 : decode cX12_writesNumber 6 = .ok (.aload_n 0, 1) := dq0 kk_42 (by decide +kernel)
theorem dX12_writesNumber_7 : decode cX12_writesNumber 7 = .ok (.bipush 49, 2) := dqS kk_16 (by decide +kernel)
theorem dX12_writesNumber_9 : decode cX12_writesNumber 9 = .ok (.invokevirtual 294, 3) := dqV kk_182 (by decide +kernel)
set_option maxRecDepth 4000 in
theorem q_X12_writesNumber {l : Launch} {D : va_G} {B : Nat} {cy : Nat → ClassId} {M : Mem} {x : Int} (hx : 0 ≤ x ∧ x ≤ 11) {tm : Int} (hgtm : M.1 146 22 = zI tm) (htm : 0 ≤ tm ∧ tm ≤ 260) (hpre0 : tm ≤ 258) (hI : IvR M) : Cv l D B cy yX12_writesNumber cX12_writesNumber 2 1 21 [.ref (B + 146), .int (zI x)] M (fun M1 => (∃ tm2 : Int, M1.1 146 22 = zI tm2 ∧ ((0 ≤ tm2 ∧ tm2 ≤ 260) ∧ tm ≤ tm2 ∧ tm2 ≤ tm + 2)) ∧ IvR M1 ∧ Fr (fun b9 k9 => (b9 = 146 ∧ k9 = 22) ∨ b9 = 156) M1 M) := by
  refine s_anyQ (by decide) (Nat.le_of_ble_eq_true rfl) ?_
  intro p e s m args below meth c ls Q F hr hlocks hQ w hl
  have F : CallFix p m c cX12_writesNumber 2 s args TB RX12 := F
  have hx := F.1
  have hb := F.2.1
  have hl : lv_has ls 2 [(0, .ref (B + 146)), (1, .int (zI x))] := hl
  have hF : Fr (fun b9 k9 => (b9 = 146 ∧ k9 = 22) ∨ b9 = 156) M M := Fr.rf
  refine lv_iload_n hx hb dX12_writesNumber_0 rfl (lv_at hl 1 rfl) ?_
  refine lv_bipush (v := zI 9) hx hb dX12_writesNumber_1 (by decide) ?_
  refine z_icmp_le (tgt := 12) hx hb (by omega) (by omega) dX12_writesNumber_3 (by decide) (fun c1 => ?_) (fun c1 => ?_)
  · refine lv_aload_n hx hb dX12_writesNumber_12 rfl (lv_at hl 0 rfl) ?_
    refine lv_bipush (v := zI 48) hx hb dX12_writesNumber_13 (by decide) ?_
    refine lv_iload_n hx hb dX12_writesNumber_15 rfl (lv_at hl 1 rfl) ?_
    refine lv_bipush (v := zI 10) hx hb dX12_writesNumber_16 (by decide) ?_
    refine lv_irem hx hb dX12_writesNumber_18 (nz_z (by omega) (by omega)) ?_
    obtain ⟨z2, bz2, x0z2, ez2⟩ := rem_ex x 10 (by omega) (by omega)
    refine r_val ez2 ?_
    refine z_iadd (z := (z2 + 48)) hx hb dX12_writesNumber_19 (by omega) ?_
    refine k_Vv F w (As := [.int (zI (z2 + 48))]) (rest := []) (a := 146) (kd_lt (a := 146) (show kd 146 = (12, 0, 0) from rfl) (by decide)) (sh_12 rfl _ _) rfl (q_X12_writes (x := (z2 + 48)) ⟨by omega, by omega⟩ (tm := tm) (hgtm) ⟨by omega, by omega⟩ (by omega) hI) gv_X12_294 hv_X12_writes ⟨(Nat.le_of_ble_eq_true rfl), (Nat.le_of_ble_eq_true rfl)⟩ hl.1 rfl (Nat.le_of_ble_eq_true rfl) ⟨Nat.zero_le _, Nat.zero_le _⟩ dX12_writesNumber_20 (fun N4 H locs hp w => ?_)
    obtain ⟨⟨nz50, enz50, xz5⟩, hIN4, hFN4⟩ := hp
    have hGN4 := Fr.tr hF hFN4 (S := (fun b9 k9 => (b9 = 146 ∧ k9 = 22) ∨ b9 = 156)) (fun b k h => by (try dsimp only at h ⊢); rcases h with ⟨rfl, rfl⟩ | rfl <;> first | decide | omega)
    rw [hQ]
    exact e_v F w hr hlocks ⟨⟨nz50, (enz50), ⟨by omega, by omega⟩, (by omega)⟩, hIN4, hGN4⟩ dX12_writesNumber_23
  · refine lv_aload_n hx hb dX12_writesNumber_6 rfl (lv_at hl 0 rfl) ?_
    refine lv_bipush (v := zI 49) hx hb dX12_writesNumber_7 (by decide) ?_
    refine k_Vv F w (As := [.int (zI 49)]) (rest := []) (a := 146) (kd_lt (a := 146) (show kd 146 = (12, 0, 0) from rfl) (by decide)) (sh_12 rfl _ _) rfl (q_X12_writes (x := 49) ⟨by omega, by omega⟩ (tm := tm) (hgtm) ⟨by omega, by omega⟩ (by omega) hI) gv_X12_294 hv_X12_writes ⟨(Nat.le_of_ble_eq_true rfl), (Nat.le_of_ble_eq_true rfl)⟩ hl.1 rfl (Nat.le_of_ble_eq_true rfl) ⟨Nat.zero_le _, Nat.zero_le _⟩ dX12_writesNumber_9 (fun N7 H locs hp w => ?_)
    obtain ⟨⟨nz80, enz80, xz8⟩, hIN7, hFN7⟩ := hp
    have hGN7 := Fr.tr hF hFN7 (S := (fun b9 k9 => (b9 = 146 ∧ k9 = 22) ∨ b9 = 156)) (fun b k h => by (try dsimp only at h ⊢); rcases h with ⟨rfl, rfl⟩ | rfl <;> first | decide | omega)
    refine lv_aload_n hx hb dX12_writesNumber_12 rfl (lv_at hl 0 rfl) ?_
    refine lv_bipush (v := zI 48) hx hb dX12_writesNumber_13 (by decide) ?_
    refine lv_iload_n hx hb dX12_writesNumber_15 rfl (lv_at hl 1 rfl) ?_
    refine lv_bipush (v := zI 10) hx hb dX12_writesNumber_16 (by decide) ?_
    refine lv_irem hx hb dX12_writesNumber_18 (nz_z (by omega) (by omega)) ?_
    obtain ⟨z9, bz9, x0z9, ez9⟩ := rem_ex x 10 (by omega) (by omega)
    refine r_val ez9 ?_
    refine z_iadd (z := (z9 + 48)) hx hb dX12_writesNumber_19 (by omega) ?_
    refine k_Vv F w (As := [.int (zI (z9 + 48))]) (rest := []) (a := 146) (kd_lt (a := 146) (show kd 146 = (12, 0, 0) from rfl) (by decide)) (sh_12 rfl _ _) rfl (q_X12_writes (x := (z9 + 48)) ⟨by omega, by omega⟩ (tm := nz80) (enz80) ⟨by omega, by omega⟩ (by omega) hIN7) gv_X12_294 hv_X12_writes ⟨(Nat.le_of_ble_eq_true rfl), (Nat.le_of_ble_eq_true rfl)⟩ hl.1 rfl (Nat.le_of_ble_eq_true rfl) ⟨Nat.zero_le _, Nat.zero_le _⟩ dX12_writesNumber_20 (fun N11 H locs hp w => ?_)
    obtain ⟨⟨nz120, enz120, xz12⟩, hIN11, hFN11⟩ := hp
    have hGN11 := Fr.tr hGN7 hFN11 (S := (fun b9 k9 => (b9 = 146 ∧ k9 = 22) ∨ b9 = 156)) (fun b k h => by (try dsimp only at h ⊢); rcases h with ⟨rfl, rfl⟩ | rfl <;> first | decide | omega)
    rw [hQ]
    exact e_v F w hr hlocks ⟨⟨nz120, (enz120), ⟨by omega, by omega⟩, (by omega)⟩, hIN11, hGN11⟩ dX12_writesNumber_23
