theorem dX12_sourcesBy_0 : decode cX12_sourcesBy 0 = .ok (.aload_n 0, 1) := dq0 kk_42 (by decide +kernel)
theorem dX12_sourcesBy_1 : decode cX12_sourcesBy 1 = .ok (.invokevirtual 303, 3) := dqV kk_182 (by decide +kernel)
theorem dX12_sourcesBy_4 : decode cX12_sourcesBy 4 = .ok (.aload_n 0, 1) := dq0 kk_42 (by decide +kernel)
theorem dX12_sourcesBy_5 : decode cX12_sourcesBy 5 = .ok (.bipush (-2), 2) := dqS kk_16 (by decide +kernel)
theorem dX12_sourcesBy_7 : decode cX12_sourcesBy 7 = .ok (.putfield 318, 3) := dqV kk_181 (by decide +kernel)
theorem tb_708 : Cond.fieldLink "ToneLinesModel" 318 "ToneLinesModel" "firstSource" "I" ∈ TB := tbm (tc5 (List.mem_of_getElem? (i := 82) rfl)) rfl
theorem dX12_sourcesBy_10 : decode cX12_sourcesBy 10 = .ok (.iconst 1, 1) := dq0 kk_4 (by decide +kernel)
theorem dX12_sourcesBy_11 : decode cX12_sourcesBy 11 = .ok (.istore_n 2, 1) := dq0 kk_61 (by decide +kernel)
theorem dX12_sourcesBy_12 : decode cX12_sourcesBy 12 = .ok (.iconst 0, 1) := dq0 kk_3 (by decide +kernel)
theorem dX12_sourcesBy_13 : decode cX12_sourcesBy 13 = .ok (.istore_n 3, 1) := dq0 kk_62 (by decide +kernel)
theorem dX12_sourcesBy_14 : decode cX12_sourcesBy 14 = .ok (.iload_n 3, 1) := dq0 kk_29 (by decide +kernel)
theorem dX12_sourcesBy_15 : decode cX12_sourcesBy 15 = .ok (.iload_n 1, 1) := dq0 kk_27 (by decide +kernel)
theorem dX12_sourcesBy_16 : decode cX12_sourcesBy 16 = .ok (.if_icmp .ge 13, 3) := dqT kk_162 (by decide +kernel)
theorem dX12_sourcesBy_29 : decode cX12_sourcesBy 29 = .ok (.iconst 0, 1) := dq0 kk_3 (by decide +kernel)
theorem dX12_sourcesBy_30 : decode cX12_sourcesBy 30 = .ok (.istore_n 3, 1) := dq0 kk_62 (by decide +kernel)
theorem dX12_sourcesBy_31 : decode cX12_sourcesBy 31 = .ok (.iconst 0, 1) := dq0 kk_3 (by decide +kernel)
theorem dX12_sourcesBy_32 : decode cX12_sourcesBy 32 = .ok (.istore 4, 2) := dqU kk_54 (by decide +kernel)
theorem dX12_sourcesBy_34 : decode cX12_sourcesBy 34 = .ok (.iload 4, 2) := dqU kk_21 (by decide +kernel)
theorem dX12_sourcesBy_36 : decode cX12_sourcesBy 36 = .ok (.iload_n 2, 1) := dq0 kk_28 (by decide +kernel)
theorem dX12_sourcesBy_37 : decode cX12_sourcesBy 37 = .ok (.if_icmp .ge 115, 3) := dqT kk_162 (by decide +kernel)
theorem dX12_sourcesBy_40 : decode cX12_sourcesBy 40 = .ok (.aload_n 0, 1) := dq0 kk_42 (by decide +kernel)
theorem dX12_sourcesBy_41 : decode cX12_sourcesBy 41 = .ok (.getfield 17, 3) := dqV kk_180 (by decide +kernel)
theorem dX12_sourcesBy_44 : decode cX12_sourcesBy 44 = .ok (.aload_n 0, 1) := dq0 kk_42 (by decide +kernel)
theorem dX12_sourcesBy_45 : decode cX12_sourcesBy 45 = .ok (.getfield 13, 3) := dqV kk_180 (by decide +kernel)
theorem dX12_sourcesBy_48 : decode cX12_sourcesBy 48 = .ok (.invokestatic 162, 3) := dqV kk_184 (by decide +kernel)
theorem dX12_sourcesBy_51 : decode cX12_sourcesBy 51 = .ok (.aload_n 0, 1) := dq0 kk_42 (by decide +kernel)
theorem dX12_sourcesBy_52 : decode cX12_sourcesBy 52 = .ok (.getfield 17, 3) := dqV kk_180 (by decide +kernel)
theorem dX12_sourcesBy_55 : decode cX12_sourcesBy 55 = .ok (.iconst 0, 1) := dq0 kk_3 (by decide +kernel)
theorem dX12_sourcesBy_56 : decode cX12_sourcesBy 56 = .ok (.iconst 0, 1) := dq0 kk_3 (by decide +kernel)
theorem dX12_sourcesBy_57 : decode cX12_sourcesBy 57 = .ok (.iastore, 1) := dq0 kk_79 (by decide +kernel)
theorem dX12_sourcesBy_58 : decode cX12_sourcesBy 58 = .ok (.iload_n 2, 1) := dq0 kk_28 (by decide +kernel)
theorem dX12_sourcesBy_59 : decode cX12_sourcesBy 59 = .ok (.istore 5, 2) := dqU kk_54 (by decide +kernel)
theorem dX12_sourcesBy_61 : decode cX12_sourcesBy 61 = .ok (.iconst 0, 1) := dq0 kk_3 (by decide +kernel)
theorem dX12_sourcesBy_62 : decode cX12_sourcesBy 62 = .ok (.istore 6, 2) := dqU kk_54 (by decide +kernel)
theorem dX12_sourcesBy_64 : decode cX12_sourcesBy 64 = .ok (.iload 6, 2) := dqU kk_21 (by decide +kernel)
theorem dX12_sourcesBy_66 : decode cX12_sourcesBy 66 = .ok (.iload_n 1, 1) := dq0 kk_27 (by decide +kernel)
theorem dX12_sourcesBy_67 : decode cX12_sourcesBy 67 = .ok (.if_icmp .ge 31, 3) := dqT kk_162 (by decide +kernel)
theorem dX12_sourcesBy_98 : decode cX12_sourcesBy 98 = .ok (.iconst 0, 1) := dq0 kk_3 (by decide +kernel)
theorem dX12_sourcesBy_99 : decode cX12_sourcesBy 99 = .ok (.istore 6, 2) := dqU kk_54 (by decide +kernel)
theorem dX12_sourcesBy_101 : decode cX12_sourcesBy 101 = .ok (.iload 6, 2) := dqU kk_21 (by decide +kernel)
theorem dX12_sourcesBy_103 : decode cX12_sourcesBy 103 = .ok (.aload_n 0, 1) := dq0 kk_42 (by decide +kernel)
theorem dX12_sourcesBy_104 : decode cX12_sourcesBy 104 = .ok (.getfield 239, 3) := dqV kk_180 (by decide +kernel)
theorem dX12_sourcesBy_107 : decode cX12_sourcesBy 107 = .ok (.if_icmp .ge 16, 3) := dqT kk_162 (by decide +kernel)
theorem dX12_sourcesBy_123 : decode cX12_sourcesBy 123 = .ok (.aload_n 0, 1) := dq0 kk_42 (by decide +kernel)
theorem dX12_sourcesBy_124 : decode cX12_sourcesBy 124 = .ok (.invokevirtual 306, 3) := dqV kk_182 (by decide +kernel)
theorem dX12_sourcesBy_127 : decode cX12_sourcesBy 127 = .ok (.ifCond .ne 6, 3) := dqT kk_154 (by decide +kernel)
theorem dX12_sourcesBy_133 : decode cX12_sourcesBy 133 = .ok (.iload_n 3, 1) := dq0 kk_29 (by decide +kernel)
theorem dX12_sourcesBy_134 : decode cX12_sourcesBy 134 = .ok (.ifCond .ne 9, 3) := dqT kk_154 (by decide +kernel)
theorem dX12_sourcesBy_137 : decode cX12_sourcesBy 137 = .ok (.aload_n 0, 1) := dq0 kk_42 (by decide +kernel)
theorem dX12_sourcesBy_138 : decode cX12_sourcesBy 138 = .ok (.iload 4, 2) := dqU kk_21 (by decide +kernel)
theorem dX12_sourcesBy_140 : decode cX12_sourcesBy 140 = .ok (.putfield 318, 3) := dqV kk_181 (by decide +kernel)
theorem dX12_sourcesBy_143 : decode cX12_sourcesBy 143 = .ok (.iinc 3 1, 3) := dqI kk_132 (by decide +kernel)
theorem dX12_sourcesBy_146 : decode cX12_sourcesBy 146 = .ok (.iinc 4 1, 3) := dqI kk_132 (by decide +kernel)
theorem dX12_sourcesBy_149 : decode cX12_sourcesBy 149 = .ok (.goto (-115), 3) := dqT kk_167 (by decide +kernel)
theorem dX12_sourcesBy_130 : decode cX12_sourcesBy 130 = .ok (.goto 16, 3) := dqT kk_167 (by decide +kernel)
theorem dX12_sourcesBy_110 : decode cX12_sourcesBy 110 = .ok (.aload_n 0, 1) := dq0 kk_42 (by decide +kernel)
theorem dX12_sourcesBy_111 : decode cX12_sourcesBy 111 = .ok (.iload 6, 2) := dqU kk_21 (by decide +kernel)
theorem dX12_sourcesBy_113 : decode cX12_sourcesBy 113 = .ok (.invokevirtual 166, 3) := dqV kk_182 (by decide +kernel)
theorem dX12_sourcesBy_116 : decode cX12_sourcesBy 116 = .ok (.pop, 1) := dq0 kk_87 (by decide +kernel)
theorem dX12_sourcesBy_117 : decode cX12_sourcesBy 117 = .ok (.iinc 6 1, 3) := dqI kk_132 (by decide +kernel)
theorem dX12_sourcesBy_120 : decode cX12_sourcesBy 120 = .ok (.goto (-19), 3) := dqT kk_167 (by decide +kernel)
theorem dX12_sourcesBy_152 : decode cX12_sourcesBy 152 = .ok (.iload_n 3, 1) := dq0 kk_29 (by decide +kernel)
theorem dX12_sourcesBy_153 : decode cX12_sourcesBy 153 = .ok (.ireturn, 1) := dq0 kk_172 (by decide +kernel)
theorem dX12_sourcesBy_19 : decode cX12_sourcesBy 19 = .ok (.iload_n 2, 1) := dq0 kk_28 (by decide +kernel)
theorem dX12_sourcesBy_20 : decode cX12_sourcesBy 20 = .ok (.iconst 3, 1) := dq0 kk_6 (by decide +kernel)
theorem dX12_sourcesBy_21 : decode cX12_sourcesBy 21 = .ok (.imul, 1) := dq0 kk_104 (by decide +kernel)
theorem dX12_sourcesBy_22 : decode cX12_sourcesBy 22 = .ok (.istore_n 2, 1) := dq0 kk_61 (by decide +kernel)
theorem dX12_sourcesBy_23 : decode cX12_sourcesBy 23 = .ok (.iinc 3 1, 3) := dqI kk_132 (by decide +kernel)
theorem dX12_sourcesBy_26 : decode cX12_sourcesBy 26 = .ok (.goto (-12), 3) := dqT kk_167 (by decide +kernel)
theorem dX12_sourcesBy_70 : decode cX12_sourcesBy 70 = .ok (.iload 5, 2) := dqU kk_21 (by decide +kernel)
theorem dX12_sourcesBy_72 : decode cX12_sourcesBy 72 = .ok (.iconst 3, 1) := dq0 kk_6 (by decide +kernel)
theorem dX12_sourcesBy_73 : decode cX12_sourcesBy 73 = .ok (.idiv, 1) := dq0 kk_108 (by decide +kernel)
theorem dX12_sourcesBy_74 : decode cX12_sourcesBy 74 = .ok (.istore 5, 2) := dqU kk_54 (by decide +kernel)
theorem dX12_sourcesBy_76 : decode cX12_sourcesBy 76 = .ok (.aload_n 0, 1) := dq0 kk_42 (by decide +kernel)
theorem dX12_sourcesBy_77 : decode cX12_sourcesBy 77 = .ok (.getfield 17, 3) := dqV kk_180 (by decide +kernel)
theorem dX12_sourcesBy_80 : decode cX12_sourcesBy 80 = .ok (.iload 6, 2) := dqU kk_21 (by decide +kernel)
theorem dX12_sourcesBy_82 : decode cX12_sourcesBy 82 = .ok (.iload 4, 2) := dqU kk_21 (by decide +kernel)
theorem dX12_sourcesBy_84 : decode cX12_sourcesBy 84 = .ok (.iload 5, 2) := dqU kk_21 (by decide +kernel)
theorem dX12_sourcesBy_86 : decode cX12_sourcesBy 86 = .ok (.idiv, 1) := dq0 kk_108 (by decide +kernel)
theorem dX12_sourcesBy_87 : decode cX12_sourcesBy 87 = .ok (.iconst 3, 1) := dq0 kk_6 (by decide +kernel)
theorem dX12_sourcesBy_88 : decode cX12_sourcesBy 88 = .ok (.irem, 1) := dq0 kk_112 (by decide +kernel)
theorem dX12_sourcesBy_89 : decode cX12_sourcesBy 89 = .ok (.invokestatic 112, 3) := dqV kk_184 (by decide +kernel)
theorem dX12_sourcesBy_92 : decode cX12_sourcesBy 92 = .ok (.iinc 6 1, 3) := dqI kk_132 (by decide +kernel)
theorem dX12_sourcesBy_95 : decode cX12_sourcesBy 95 = .ok (.goto (-31), 3) := dqT kk_167 (by decide +kernel)
set_option maxRecDepth 4000 in
theorem q_X12_sourcesBy {l : Launch} {D : va_G} {B : Nat} {cy : Nat → ClassId} {M : Mem} {x : Int} (hx : 0 ≤ x ∧ x ≤ 6) (hI : IvR M) : Ci l D B cy yX12_sourcesBy cX12_sourcesBy 7 (some .int) 10 233 [.ref (B + 146), .int (zI x)] M (fun r M1 => ∃ z : Int, r = zI z ∧ ((-2147483648) ≤ z ∧ z ≤ 2147483647) ∧ IvR M1 ∧ Fr (fun b9 k9 => (b9 = 146 ∧ k9 = 26) ∨ (b9 = 146 ∧ k9 = 3) ∨ (b9 = 146 ∧ k9 = 6) ∨ b9 = 148 ∨ b9 = 157) M1 M) := by
  refine s_anyQ (by decide) (Nat.le_of_ble_eq_true rfl) ?_
  intro p e s m args below meth c ls Q F hr hlocks hQ w hl
  have F : CallFix p m c cX12_sourcesBy 7 s args TB RX12 := F
  have hx := F.1
  have hb := F.2.1
  have hl : lv_has ls 7 [(0, .ref (B + 146)), (1, .int (zI x))] := hl
  have hF : Fr (fun b9 k9 => (b9 = 146 ∧ k9 = 26) ∨ (b9 = 146 ∧ k9 = 3) ∨ (b9 = 146 ∧ k9 = 6) ∨ b9 = 148 ∨ b9 = 157) M M := Fr.rf
  refine lv_aload_n hx hb dX12_sourcesBy_0 rfl (lv_at hl 0 rfl) ?_
  refine k_Vv F w (As := []) (rest := []) (a := 146) (kd_lt (a := 146) (show kd 146 = (12, 0, 0) from rfl) (by decide)) (sh_12 rfl _ _) rfl (q_X12_laysDue   hI) gv_X12_303 hv_X12_laysDue ⟨(Nat.le_of_ble_eq_true rfl), (Nat.le_of_ble_eq_true rfl)⟩ hl.1 rfl (Nat.le_of_ble_eq_true rfl) ⟨Nat.zero_le _, Nat.zero_le _⟩ dX12_sourcesBy_1 (fun N2 H locs hp w => ?_)
  obtain ⟨hIN2, hFN2⟩ := hp
  have hGN2 := Fr.tr hF hFN2 (S := (fun b9 k9 => (b9 = 146 ∧ k9 = 26) ∨ (b9 = 146 ∧ k9 = 3) ∨ (b9 = 146 ∧ k9 = 6) ∨ b9 = 148 ∨ b9 = 157)) (fun b k h => by (try dsimp only at h ⊢); rcases h with ⟨rfl, rfl⟩ | ⟨rfl, rfl⟩ | rfl | rfl <;> first | decide | omega)
  refine lv_aload_n hx hb dX12_sourcesBy_4 rfl (lv_at hl 0 rfl) ?_
  refine lv_bipush (v := zI (-2)) hx hb dX12_sourcesBy_5 (by decide) ?_
  refine u_12_26 F w (a := 146) rfl tb_708 dX12_sourcesBy_7 (fun H locs w => ?_)
  refine lv_iconst (v := zI 1) hx hb dX12_sourcesBy_10 rfl ?_
  have hp09 : pw3 0 = 1 := rfl
  refine lv_istore_n (lv' := [(2, .int (zI 1)), (0, .ref (B + 146)), (1, .int (zI x))]) hx hb dX12_sourcesBy_11 rfl hl (by decide) rfl (fun ls hl => ?_)
  refine lv_iconst (v := zI 0) hx hb dX12_sourcesBy_12 rfl ?_
  refine lv_istore_n (lv' := [(3, .int (zI 0)), (2, .int (zI 1)), (0, .ref (B + 146)), (1, .int (zI x))]) hx hb dX12_sourcesBy_13 rfl hl (by decide) rfl (fun ls hl => ?_)
  have lp14 : ∀ (f : Nat) (v3_14 : Int) (v2_14 : Int), (0 ≤ v3_14 ∧ v3_14 ≤ 6) → (1 ≤ v2_14 ∧ v2_14 ≤ 729) → (v2_14 = pw3 v3_14) → (v3_14 ≤ x) → (Int.toNat (6 - v3_14) < f) → ∀ (H : Heap) (locs : List Loc) (ls : Array Slot), Wd D B cy s s.heap (st N2 146 26 (zI (-2))) H locs → lv_has ls 7 [(3, .int (zI v3_14)), (2, .int (zI v2_14)), (0, .ref (B + 146)), (1, .int (zI x))] → W p l e (rmm 10 233) s m args below meth c H locs 0 0 Q (F0 m 14 ls []) := by
    intro f
    induction f with
    | zero => intros; omega
    | succ f ih14 =>
      intro v3_14 v2_14  iv3_14 iv2_14 y14_0 y14_1 hf14 H locs ls w hl
      refine lv_iload_n hx hb dX12_sourcesBy_14 rfl (lv_at hl 0 rfl) ?_
      refine lv_iload_n hx hb dX12_sourcesBy_15 rfl (lv_at hl 3 rfl) ?_
      refine z_icmp_ge (tgt := 29) hx hb (by omega) (by omega) dX12_sourcesBy_16 (by decide) (fun c4 => ?_) (fun c4 => ?_)
      · refine lv_iconst (v := zI 0) hx hb dX12_sourcesBy_29 rfl ?_
        have hp29 : v2_14 = pw3 x := by rw [show x = v3_14 by omega]; omega
        refine lv_istore_n (lv' := [(3, .int (zI 0)), (2, .int (zI v2_14)), (0, .ref (B + 146)), (1, .int (zI x))]) hx hb dX12_sourcesBy_30 rfl hl (by decide) rfl (fun ls hl => ?_)
        refine lv_iconst (v := zI 0) hx hb dX12_sourcesBy_31 rfl ?_
        refine lv_istore (lv' := [(4, .int (zI 0)), (3, .int (zI 0)), (2, .int (zI v2_14)), (0, .ref (B + 146)), (1, .int (zI x))]) hx hb dX12_sourcesBy_32 hl (by decide) rfl (fun ls hl => ?_)
        have lp34 : ∀ (f : Nat) (v4_34 : Int) (v3_34 : Int) (g146_26_34 : Int) (NL34 : Mem), (0 ≤ v4_34 ∧ v4_34 ≤ 729) → ((-2147483648) ≤ v3_34 ∧ v3_34 ≤ 2147483647) → ((-2) ≤ g146_26_34 ∧ g146_26_34 ≤ 729) → NL34.1 146 26 = zI g146_26_34 → (v3_34 ≤ v4_34) → IvR NL34 → Fr (fun b9 k9 => (b9 = 146 ∧ k9 = 26) ∨ (b9 = 146 ∧ k9 = 3) ∨ (b9 = 146 ∧ k9 = 6) ∨ b9 = 148 ∨ b9 = 157) NL34 M → (Int.toNat (v2_14 - v4_34) < f) → ∀ (H : Heap) (locs : List Loc) (ls : Array Slot), Wd D B cy s s.heap NL34 H locs → lv_has ls 7 [(4, .int (zI v4_34)), (3, .int (zI v3_34)), (2, .int (zI v2_14)), (0, .ref (B + 146)), (1, .int (zI x))] → W p l e (rmm 10 233) s m args below meth c H locs 0 0 Q (F0 m 34 ls []) := by
          intro f
          induction f with
          | zero => intros; omega
          | succ f ih34 =>
            intro v4_34 v3_34 g146_26_34 NL34 iv4_34 iv3_34 ig146_26_34 eg146_26_34 y34_0 hIL34 hFL34 hf34 H locs ls w hl
            refine lv_iload hx hb dX12_sourcesBy_34 (lv_at hl 0 rfl) ?_
            refine lv_iload_n hx hb dX12_sourcesBy_36 rfl (lv_at hl 2 rfl) ?_
            refine z_icmp_ge (tgt := 152) hx hb (by omega) (by omega) dX12_sourcesBy_37 (by decide) (fun c5 => ?_) (fun c5 => ?_)
            · refine lv_iload_n hx hb dX12_sourcesBy_152 rfl (lv_at hl 1 rfl) ?_
              rw [hQ]
              exact e_i F w hr hlocks ⟨_, rfl, ⟨by omega, by omega⟩, hIL34, hFL34⟩ dX12_sourcesBy_153
            · refine lv_aload_n hx hb dX12_sourcesBy_40 rfl (lv_at hl 3 rfl) ?_
              refine f_12_2 F w (a := 146) rfl tb_45 dX12_sourcesBy_41 ?_
              refine lv_aload_n hx hb dX12_sourcesBy_44 rfl (lv_at hl 3 rfl) ?_
              refine f_12_1 F w (a := 146) rfl tb_580 dX12_sourcesBy_45 ?_
              obtain ⟨z6, bz6, ez6⟩ := IvR.ld (k := 0) hIL34 (show ivr 147 0 = (0, 12) from rfl) (show 146 ≤ 147 ∧ 147 < 159 by decide)
              refine k_Sv F w (As := [.ref (B + 148), .ref (B + 147)]) (rest := []) (q_copy_148_147 (nn := z6) (ez6) ⟨by omega, by omega⟩  hIL34) gs_X12_162 hs_X12_copy ⟨(Nat.le_of_ble_eq_true rfl), (Nat.le_of_ble_eq_true rfl)⟩ hl.1 rfl (Nat.le_of_ble_eq_true rfl) ⟨Nat.zero_le _, Nat.zero_le _⟩ dX12_sourcesBy_48 (fun N8 H locs hp w => ?_)
              obtain ⟨yN8_148_0, hIN8, hFN8⟩ := hp
              have hGN8 := Fr.tr hFL34 hFN8 (S := (fun b9 k9 => (b9 = 146 ∧ k9 = 26) ∨ (b9 = 146 ∧ k9 = 3) ∨ (b9 = 146 ∧ k9 = 6) ∨ b9 = 148 ∨ b9 = 157)) (fun b k h => by (try dsimp only at h ⊢); rcases h with rfl <;> first | decide | omega)
              have kn10 : N8.1 146 26 = zI g146_26_34 := (hFN8 146 26 (by first | decide | (dsimp only; first | done | decide | omega) | omega)).trans (eg146_26_34)
              have kn11 : N8.1 147 0 = zI z6 := (hFN8 147 0 (by first | decide | (dsimp only; first | done | decide | omega) | omega)).trans (ez6)
              refine lv_aload_n hx hb dX12_sourcesBy_51 rfl (lv_at hl 3 rfl) ?_
              refine f_12_2 F w (a := 146) rfl tb_45 dX12_sourcesBy_52 ?_
              refine lv_iconst (v := zI 0) hx hb dX12_sourcesBy_55 rfl ?_
              refine lv_iconst (v := zI 0) hx hb dX12_sourcesBy_56 rfl ?_
              refine g_iast F w (a := 148) rfl (j := 0) ⟨by decide, by decide⟩ (by omega) dX12_sourcesBy_57 (fun H locs w => ?_)
              refine lv_iload_n hx hb dX12_sourcesBy_58 rfl (lv_at hl 2 rfl) ?_
              refine lv_istore (lv' := [(5, .int (zI v2_14)), (4, .int (zI v4_34)), (3, .int (zI v3_34)), (2, .int (zI v2_14)), (0, .ref (B + 146)), (1, .int (zI x))]) hx hb dX12_sourcesBy_59 hl (by decide) rfl (fun ls hl => ?_)
              refine lv_iconst (v := zI 0) hx hb dX12_sourcesBy_61 rfl ?_
              have hp19 : pw3 (x - 0) = v2_14 := by rw [show x - 0 = x by omega]; omega
              refine lv_istore (lv' := [(6, .int (zI 0)), (5, .int (zI v2_14)), (4, .int (zI v4_34)), (3, .int (zI v3_34)), (2, .int (zI v2_14)), (0, .ref (B + 146)), (1, .int (zI x))]) hx hb dX12_sourcesBy_62 hl (by decide) rfl (fun ls hl => ?_)
              have lp64 : ∀ (f : Nat) (v6_64 : Int) (v5_64 : Int) (g148_0_64 : Int) (NL64 : Mem), (0 ≤ v6_64 ∧ v6_64 ≤ 6) → (1 ≤ v5_64 ∧ v5_64 ≤ 729) → (0 ≤ g148_0_64 ∧ g148_0_64 ≤ 12) → NL64.1 148 0 = zI g148_0_64 → NL64.1 146 26 = zI g146_26_34 → NL64.1 147 0 = zI z6 → (v5_64 = pw3 (x - v6_64)) → (g148_0_64 = v6_64 ∧ v6_64 ≤ x) → IvR NL64 → Fr (fun b9 k9 => (b9 = 146 ∧ k9 = 26) ∨ (b9 = 146 ∧ k9 = 3) ∨ (b9 = 146 ∧ k9 = 6) ∨ b9 = 148 ∨ b9 = 157) NL64 M → (Int.toNat (6 - v6_64) < f) → ∀ (H : Heap) (locs : List Loc) (ls : Array Slot), Wd D B cy s s.heap NL64 H locs → lv_has ls 7 [(6, .int (zI v6_64)), (5, .int (zI v5_64)), (4, .int (zI v4_34)), (3, .int (zI v3_34)), (2, .int (zI v2_14)), (0, .ref (B + 146)), (1, .int (zI x))] → W p l e (rmm 10 233) s m args below meth c H locs 0 0 Q (F0 m 64 ls []) := by
                intro f
                induction f with
                | zero => intros; omega
                | succ f ih64 =>
                  intro v6_64 v5_64 g148_0_64 NL64 iv6_64 iv5_64 ig148_0_64 eg148_0_64 eg146_26_64 eg147_0_64 y64_0 y64_1 hIL64 hFL64 hf64 H locs ls w hl
                  refine lv_iload hx hb dX12_sourcesBy_64 (lv_at hl 0 rfl) ?_
                  refine lv_iload_n hx hb dX12_sourcesBy_66 rfl (lv_at hl 6 rfl) ?_
                  refine z_icmp_ge (tgt := 98) hx hb (by omega) (by omega) dX12_sourcesBy_67 (by decide) (fun c12 => ?_) (fun c12 => ?_)
                  · refine lv_iconst (v := zI 0) hx hb dX12_sourcesBy_98 rfl ?_
                    refine lv_istore (lv' := [(6, .int (zI 0)), (5, .int (zI v5_64)), (4, .int (zI v4_34)), (3, .int (zI v3_34)), (2, .int (zI v2_14)), (0, .ref (B + 146)), (1, .int (zI x))]) hx hb dX12_sourcesBy_99 hl (by decide) rfl (fun ls hl => ?_)
                    have lp101 : ∀ (f : Nat) (v6_101 : Int)  (NL101 : Mem), (0 ≤ v6_101 ∧ v6_101 ≤ 8) → NL101.1 146 26 = zI g146_26_34 → NL101.1 147 0 = zI z6 → IvR NL101 → Fr (fun b9 k9 => (b9 = 146 ∧ k9 = 26) ∨ (b9 = 146 ∧ k9 = 3) ∨ (b9 = 146 ∧ k9 = 6) ∨ b9 = 148 ∨ b9 = 157) NL101 M → (Int.toNat (8 - v6_101) < f) → ∀ (H : Heap) (locs : List Loc) (ls : Array Slot), Wd D B cy s s.heap NL101 H locs → lv_has ls 7 [(6, .int (zI v6_101)), (5, .int (zI v5_64)), (4, .int (zI v4_34)), (3, .int (zI v3_34)), (2, .int (zI v2_14)), (0, .ref (B + 146)), (1, .int (zI x))] → W p l e (rmm 10 233) s m args below meth c H locs 0 0 Q (F0 m 101 ls []) := by
                      intro f
                      induction f with
                      | zero => intros; omega
                      | succ f ih101 =>
                        intro v6_101  NL101 iv6_101 eg146_26_101 eg147_0_101 hIL101 hFL101 hf101 H locs ls w hl
                        refine lv_iload hx hb dX12_sourcesBy_101 (lv_at hl 0 rfl) ?_
                        refine lv_aload_n hx hb dX12_sourcesBy_103 rfl (lv_at hl 5 rfl) ?_
                        refine f_12_5 F w (a := 146) rfl tb_604 dX12_sourcesBy_104 ?_
                        obtain ⟨z13, bz13, ez13⟩ := IvR.ld (k := 5) hIL101 (show ivr 146 5 = (0, 8) from rfl) (show 146 ≤ 146 ∧ 146 < 159 by decide)
                        refine r_val ez13 ?_
                        refine z_icmp_ge (tgt := 123) hx hb (by omega) (by omega) dX12_sourcesBy_107 (by decide) (fun c14 => ?_) (fun c14 => ?_)
                        · refine lv_aload_n hx hb dX12_sourcesBy_123 rfl (lv_at hl 5 rfl) ?_
                          refine k_Vi F w (As := []) (rest := []) (a := 146) (kd_lt (a := 146) (show kd 146 = (12, 0, 0) from rfl) (by decide)) (sh_12 rfl _ _) rfl (q_X12_isDue   hIL101) gv_X12_306 hv_X12_isDue ⟨(Nat.le_of_ble_eq_true rfl), (Nat.le_of_ble_eq_true rfl)⟩ hl.1 rfl (Nat.le_of_ble_eq_true rfl) ⟨Nat.zero_le _, Nat.zero_le _⟩ dX12_sourcesBy_124 (fun r15 N16 H locs hp w => ?_)
                          obtain ⟨z17, rfl, bz17, hMN16⟩ := hp
                          rw [hMN16] at w
                          refine z_if_ne (tgt := 133) hx hb (by omega) dX12_sourcesBy_127 (by decide) (fun c18 => ?_) (fun c18 => ?_)
                          · refine lv_iload_n hx hb dX12_sourcesBy_133 rfl (lv_at hl 3 rfl) ?_
                            refine z_if_ne (tgt := 143) hx hb (by omega) dX12_sourcesBy_134 (by decide) (fun c19 => ?_) (fun c19 => ?_)
                            · obtain ⟨z20, bz20, x0z20, ez20⟩ := add_ex v3_34 1
                              refine lv_iinc (v := zI z20) (lv' := [(3, .int (zI z20)), (6, .int (zI v6_101)), (5, .int (zI v5_64)), (4, .int (zI v4_34)), (2, .int (zI v2_14)), (0, .ref (B + 146)), (1, .int (zI x))]) hx hb dX12_sourcesBy_143 hl (k := 3) rfl (by first | exact ez20 | (rw [← ez20]; rfl)) (by decide) rfl (fun ls hl => ?_)
                              refine z_iinc (v := (v4_34 + 1)) (lv' := [(4, .int (zI (v4_34 + 1))), (3, .int (zI z20)), (6, .int (zI v6_101)), (5, .int (zI v5_64)), (2, .int (zI v2_14)), (0, .ref (B + 146)), (1, .int (zI x))]) hx hb dX12_sourcesBy_146 hl (k := 3) rfl (by omega) (by decide) rfl (fun ls hl => ?_)
                              refine lv_goto (tgt := 34) hx hb dX12_sourcesBy_149 (by decide) ?_
                              exact ih34 (v4_34 + 1) z20 g146_26_34 NL101 (by omega) (by omega) (by omega) (eg146_26_101) (by omega) hIL101 hFL101 (by omega) _ _ _ w (lv_sub hl [0, 1, 4, 5, 6] rfl)
                            · refine lv_aload_n hx hb dX12_sourcesBy_137 rfl (lv_at hl 5 rfl) ?_
                              refine lv_iload hx hb dX12_sourcesBy_138 (lv_at hl 2 rfl) ?_
                              refine u_12_26 F w (a := 146) rfl tb_708 dX12_sourcesBy_140 (fun H locs w => ?_)
                              refine z_iinc (v := (v3_34 + 1)) (lv' := [(3, .int (zI (v3_34 + 1))), (6, .int (zI v6_101)), (5, .int (zI v5_64)), (4, .int (zI v4_34)), (2, .int (zI v2_14)), (0, .ref (B + 146)), (1, .int (zI x))]) hx hb dX12_sourcesBy_143 hl (k := 3) rfl (by omega) (by decide) rfl (fun ls hl => ?_)
                              refine z_iinc (v := (v4_34 + 1)) (lv' := [(4, .int (zI (v4_34 + 1))), (3, .int (zI (v3_34 + 1))), (6, .int (zI v6_101)), (5, .int (zI v5_64)), (2, .int (zI v2_14)), (0, .ref (B + 146)), (1, .int (zI x))]) hx hb dX12_sourcesBy_146 hl (k := 3) rfl (by omega) (by decide) rfl (fun ls hl => ?_)
                              refine lv_goto (tgt := 34) hx hb dX12_sourcesBy_149 (by decide) ?_
                              exact ih34 (v4_34 + 1) (v3_34 + 1) v4_34 (st NL101 146 26 (zI v4_34)) (by omega) (by omega) (by omega) (st_at) (by omega) (IvR.to hIL101 (a := 146) (k := 26) (x := v4_34) (show ivr 146 26 = ((-2147483648), 2147483647) from rfl) ⟨by omega, by omega⟩ ⟨by decide, by decide, by decide, fun q9 => absurd q9 (by decide)⟩) (Fr.to hFL101 (by first | decide | (dsimp only; first | done | decide | omega) | omega)) (by omega) _ _ _ w (lv_sub hl [0, 1, 4, 5, 6] rfl)
                          · refine lv_goto (tgt := 146) hx hb dX12_sourcesBy_130 (by decide) ?_
                            refine z_iinc (v := (v4_34 + 1)) (lv' := [(4, .int (zI (v4_34 + 1))), (6, .int (zI v6_101)), (5, .int (zI v5_64)), (3, .int (zI v3_34)), (2, .int (zI v2_14)), (0, .ref (B + 146)), (1, .int (zI x))]) hx hb dX12_sourcesBy_146 hl (k := 2) rfl (by omega) (by decide) rfl (fun ls hl => ?_)
                            refine lv_goto (tgt := 34) hx hb dX12_sourcesBy_149 (by decide) ?_
                            exact ih34 (v4_34 + 1) v3_34 g146_26_34 NL101 (by omega) (by omega) (by omega) (eg146_26_101) (by omega) hIL101 hFL101 (by omega) _ _ _ w (lv_sub hl [0, 3, 4, 5, 6] rfl)
                        · refine lv_aload_n hx hb dX12_sourcesBy_110 rfl (lv_at hl 5 rfl) ?_
                          refine lv_iload hx hb dX12_sourcesBy_111 (lv_at hl 0 rfl) ?_
                          refine k_Vi F w (As := [.int (zI v6_101)]) (rest := []) (a := 146) (kd_lt (a := 146) (show kd 146 = (12, 0, 0) from rfl) (by decide)) (sh_12 rfl _ _) rfl (q_X12_works (x := v6_101) ⟨by omega, by omega⟩  hIL101) gv_X12_166 hv_X12_works ⟨(Nat.le_of_ble_eq_true rfl), (Nat.le_of_ble_eq_true rfl)⟩ hl.1 rfl (Nat.le_of_ble_eq_true rfl) ⟨Nat.zero_le _, Nat.zero_le _⟩ dX12_sourcesBy_113 (fun r21 N22 H locs hp w => ?_)
                          obtain ⟨z23, rfl, bz23, hIN22, hFN22⟩ := hp
                          have hGN22 := Fr.tr hFL101 hFN22 (S := (fun b9 k9 => (b9 = 146 ∧ k9 = 26) ∨ (b9 = 146 ∧ k9 = 3) ∨ (b9 = 146 ∧ k9 = 6) ∨ b9 = 148 ∨ b9 = 157)) (fun b k h => by (try dsimp only at h ⊢); rcases h with ⟨rfl, rfl⟩ | ⟨rfl, rfl⟩ | rfl <;> first | decide | omega)
                          have kn24 : N22.1 146 26 = zI g146_26_34 := (hFN22 146 26 (by first | decide | (dsimp only; first | done | decide | omega) | omega)).trans (eg146_26_101)
                          have kn25 : N22.1 147 0 = zI z6 := (hFN22 147 0 (by first | decide | (dsimp only; first | done | decide | omega) | omega)).trans (eg147_0_101)
                          have kn26 : N22.1 146 5 = zI z13 := (hFN22 146 5 (by first | decide | (dsimp only; first | done | decide | omega) | omega)).trans (ez13)
                          refine lv_pop hx hb dX12_sourcesBy_116 rfl ?_
                          refine z_iinc (v := (v6_101 + 1)) (lv' := [(6, .int (zI (v6_101 + 1))), (5, .int (zI v5_64)), (4, .int (zI v4_34)), (3, .int (zI v3_34)), (2, .int (zI v2_14)), (0, .ref (B + 146)), (1, .int (zI x))]) hx hb dX12_sourcesBy_117 hl (k := 0) rfl (by omega) (by decide) rfl (fun ls hl => ?_)
                          refine lv_goto (tgt := 101) hx hb dX12_sourcesBy_120 (by decide) ?_
                          exact ih101 (v6_101 + 1) N22 (by omega)  (kn24) (kn25)  hIN22 hGN22 (by omega) _ _ _ w (lv_sub hl [0, 1, 2, 3, 4, 5, 6] rfl)
                    exact lp101 _ 0 NL64 (by omega) (eg146_26_64) (eg147_0_64) hIL64 hFL64 (Nat.lt_succ_self _) _ _ _ w (lv_sub hl [0, 1, 2, 3, 4, 5, 6] rfl)
                  · refine lv_iload hx hb dX12_sourcesBy_70 (lv_at hl 1 rfl) ?_
                    have hpd9 := pw_dn (x := x) (k := v6_64) (by omega)
                    refine lv_iconst (v := zI 3) hx hb dX12_sourcesBy_72 rfl ?_
                    refine lv_idiv hx hb dX12_sourcesBy_73 (nz_z (by omega) (by omega)) ?_
                    obtain ⟨z27, bz27, x0z27, ez27⟩ := div_ex v5_64 3 (by omega) (by omega)
                    refine r_val ez27 ?_
                    refine lv_istore (lv' := [(5, .int (zI z27)), (6, .int (zI v6_64)), (4, .int (zI v4_34)), (3, .int (zI v3_34)), (2, .int (zI v2_14)), (0, .ref (B + 146)), (1, .int (zI x))]) hx hb dX12_sourcesBy_74 hl (by decide) rfl (fun ls hl => ?_)
                    refine lv_aload_n hx hb dX12_sourcesBy_76 rfl (lv_at hl 5 rfl) ?_
                    refine f_12_2 F w (a := 146) rfl tb_45 dX12_sourcesBy_77 ?_
                    refine lv_iload hx hb dX12_sourcesBy_80 (lv_at hl 1 rfl) ?_
                    refine lv_iload hx hb dX12_sourcesBy_82 (lv_at hl 2 rfl) ?_
                    refine lv_iload hx hb dX12_sourcesBy_84 (lv_at hl 0 rfl) ?_
                    refine lv_idiv hx hb dX12_sourcesBy_86 (nz_z (by omega) (by omega)) ?_
                    obtain ⟨z28, bz28, x0z28, ez28⟩ := div_ex v4_34 z27 (by omega) (by omega)
                    refine r_val ez28 ?_
                    refine lv_iconst (v := zI 3) hx hb dX12_sourcesBy_87 rfl ?_
                    refine lv_irem hx hb dX12_sourcesBy_88 (nz_z (by omega) (by omega)) ?_
                    obtain ⟨z29, bz29, x0z29, ez29⟩ := rem_ex z28 3 (by omega) (by omega)
                    refine r_val ez29 ?_
                    refine k_Sv F w (As := [.ref (B + 148), .int (zI v6_64), .int (zI z29)]) (rest := []) (q_insert_148 (t := v6_64) ⟨by omega, by omega⟩ (x := z29) ⟨by omega, by omega⟩ (nn := g148_0_64) (eg148_0_64) ⟨by omega, by omega⟩ (by omega) (by omega) hIL64) gs_X12_112 hs_X12_insert ⟨(Nat.le_of_ble_eq_true rfl), (Nat.le_of_ble_eq_true rfl)⟩ hl.1 rfl (Nat.le_of_ble_eq_true rfl) ⟨Nat.zero_le _, Nat.zero_le _⟩ dX12_sourcesBy_89 (fun N31 H locs hp w => ?_)
                    obtain ⟨yN31_148_0, hIN31, hFN31⟩ := hp
                    have hGN31 := Fr.tr hFL64 hFN31 (S := (fun b9 k9 => (b9 = 146 ∧ k9 = 26) ∨ (b9 = 146 ∧ k9 = 3) ∨ (b9 = 146 ∧ k9 = 6) ∨ b9 = 148 ∨ b9 = 157)) (fun b k h => by (try dsimp only at h ⊢); rcases h with rfl <;> first | decide | omega)
                    have kn33 : N31.1 146 26 = zI g146_26_34 := (hFN31 146 26 (by first | decide | (dsimp only; first | done | decide | omega) | omega)).trans (eg146_26_64)
                    have kn34 : N31.1 147 0 = zI z6 := (hFN31 147 0 (by first | decide | (dsimp only; first | done | decide | omega) | omega)).trans (eg147_0_64)
                    refine z_iinc (v := (v6_64 + 1)) (lv' := [(6, .int (zI (v6_64 + 1))), (5, .int (zI z27)), (4, .int (zI v4_34)), (3, .int (zI v3_34)), (2, .int (zI v2_14)), (0, .ref (B + 146)), (1, .int (zI x))]) hx hb dX12_sourcesBy_92 hl (k := 1) rfl (by omega) (by decide) rfl (fun ls hl => ?_)
                    refine lv_goto (tgt := 64) hx hb dX12_sourcesBy_95 (by decide) ?_
                    exact ih64 (v6_64 + 1) z27 (g148_0_64 + 1) N31 (by omega) (by omega) (by omega) (yN31_148_0) (kn33) (kn34) (by omega) (by omega) hIN31 hGN31 (by omega) _ _ _ w (lv_sub hl [0, 1, 2, 3, 4, 5, 6] rfl)
              exact lp64 _ 0 v2_14 0 (st N8 148 0 (zI 0)) (by omega) (by omega) (by omega) (st_at) ((st_ne (Or.inl (by decide))).trans kn10) ((st_ne (Or.inl (by decide))).trans kn11) (by omega) (by omega) (IvR.to0 hIN8 (a := 148) (k := 0) (by omega)) (Fr.to hGN8 (by first | decide | (dsimp only; first | done | decide | omega) | omega)) (Nat.lt_succ_self _) _ _ _ w (lv_sub hl [0, 1, 2, 3, 4, 5, 6] rfl)
        exact lp34 _ 0 0 (-2) (st N2 146 26 (zI (-2))) (by omega) (by omega) (by omega) (st_at) (by omega) (IvR.to hIN2 (a := 146) (k := 26) (x := (-2)) (show ivr 146 26 = ((-2147483648), 2147483647) from rfl) ⟨by omega, by omega⟩ ⟨by decide, by decide, by decide, fun q9 => absurd q9 (by decide)⟩) (Fr.to hGN2 (by first | decide | (dsimp only; first | done | decide | omega) | omega)) (Nat.lt_succ_self _) _ _ _ w (lv_sub hl [0, 1, 2, 3, 4] rfl)
      · refine lv_iload_n hx hb dX12_sourcesBy_19 rfl (lv_at hl 1 rfl) ?_
        have hpw9 := pw_st (k := v3_14) (by omega)
        have hpx9 := pw_st (k := v3_14 + 1) (by omega)
        refine lv_iconst (v := zI 3) hx hb dX12_sourcesBy_20 rfl ?_
        refine z_imul (z := (3 * v2_14)) hx hb dX12_sourcesBy_21 (by omega) ?_
        refine lv_istore_n (lv' := [(2, .int (zI (3 * v2_14))), (3, .int (zI v3_14)), (0, .ref (B + 146)), (1, .int (zI x))]) hx hb dX12_sourcesBy_22 rfl hl (by decide) rfl (fun ls hl => ?_)
        refine z_iinc (v := (v3_14 + 1)) (lv' := [(3, .int (zI (v3_14 + 1))), (2, .int (zI (3 * v2_14))), (0, .ref (B + 146)), (1, .int (zI x))]) hx hb dX12_sourcesBy_23 hl (k := 1) rfl (by omega) (by decide) rfl (fun ls hl => ?_)
        refine lv_goto (tgt := 14) hx hb dX12_sourcesBy_26 (by decide) ?_
        exact ih14 (v3_14 + 1) (3 * v2_14) (by omega) (by omega)   (by omega) (by omega)  (by omega) _ _ _ w (lv_sub hl [0, 1, 2, 3] rfl)
  exact lp14 _ 0 1 (by omega) (by omega) (by omega) (by omega) (Nat.lt_succ_self _) _ _ _ w (lv_sub hl [0, 1, 2, 3] rfl)
theorem dX12_sources_0 : decode cX12_sources 0 = .ok (.iload_n 1, 1) := dq0 kk_27 (by decide +kernel)
theorem dX12_sources_1 : decode cX12_sources 1 = .ok (.iconst 0, 1) := dq0 kk_3 (by decide +kernel)
theorem dX12_sources_2 : decode cX12_sources 2 = .ok (.bipush 6, 2) := dqS kk_16 (by decide +kernel)
theorem dX12_sources_4 : decode cX12_sources 4 = .ok (.invokestatic 55, 3) := dqV kk_184 (by decide +kernel)
theorem dX12_sources_7 : decode cX12_sources 7 = .ok (.ifCond .eq 11, 3) := dqT kk_153 (by decide +kernel)
theorem dX12_sources_18 : decode cX12_sources 18 = .ok (.iconst (-1), 1) := dq0 kk_2 (by decide +kernel)
theorem dX12_sources_19 : decode cX12_sources 19 = .ok (.ireturn, 1) := dq0 kk_172 (by decide +kernel)
theorem dX12_sources_10 : decode cX12_sources 10 = .ok (.aload_n 0, 1) := dq0 kk_42 (by decide +kernel)
theorem dX12_sources_11 : decode cX12_sources 11 = .ok (.iload_n 1, 1) := dq0 kk_27 (by decide +kernel)
theorem dX12_sources_12 : decode cX12_sources 12 = .ok (.invokevirtual 321, 3) := dqV kk_182 (by decide +kernel)
theorem tk_X12_sourcesBy : Cond.code yX12_sourcesBy cX12_sourcesBy 7 (some .int) ∈ TB := tbm (tc7 (List.mem_of_getElem? (i := 28) rfl)) rfl
theorem gc_X12_sourcesBy : GoodIn TB (cw yX12_sourcesBy cX12_sourcesBy 7 (some .int)) := goodIn_c2 tk_X12_sourcesBy
theorem tb_709 : Cond.methodLink "ToneLinesModel" 321 yX12_sourcesBy ∈ TB := tbm (tc7 (List.mem_of_getElem? (i := 25) rfl)) rfl
theorem tb_710 : Cond.instanceMethod yX12_sourcesBy ∈ TB := tbm (tc7 (List.mem_of_getElem? (i := 27) rfl)) rfl
theorem tb_711 : Cond.selects "ToneLinesModel" yX12_sourcesBy yX12_sourcesBy ∈ TB := tbp (List.mem_of_getElem? (i := 89) rfl) rfl
theorem gv_X12_321 : GoodIn TB (wsV RX12 321 RX12 yX12_sourcesBy (cw yX12_sourcesBy cX12_sourcesBy 7 (some .int))) := goodIn_4 tb_709 tb_710 tb_711 tb_38 gc_X12_sourcesBy
theorem hv_X12_sourcesBy : yX12_sourcesBy.cls = RX12 ∧ yX12_sourcesBy.cls ≠ "java/lang/invoke/MethodHandle" ∧ yX12_sourcesBy.cls ≠ "java/lang/invoke/VarHandle" ∧ (parseMethodDescriptor yX12_sourcesBy.desc).map (fun d => d.parameters.length) = some 1 := by decide +kernel
theorem dX12_sources_15 : decode cX12_sources 15 = .ok (.goto 4, 3) := dqT kk_167 (by decide +kernel)
set_option maxRecDepth 4000 in
theorem q_X12_sources {l : Launch} {D : va_G} {B : Nat} {cy : Nat → ClassId} {M : Mem} {x : Int} (hx : (-2147483648) ≤ x ∧ x ≤ 2147483647) (hI : IvR M) : Ci l D B cy yX12_sources cX12_sources 2 (some .int) 11 259 [.ref (B + 146), .int (zI x)] M (fun r M1 => ∃ z : Int, r = zI z ∧ ((-2147483648) ≤ z ∧ z ≤ 2147483647) ∧ IvR M1 ∧ Fr (fun b9 k9 => (b9 = 146 ∧ k9 = 26) ∨ (b9 = 146 ∧ k9 = 3) ∨ (b9 = 146 ∧ k9 = 6) ∨ b9 = 148 ∨ b9 = 157) M1 M) := by
  refine s_anyQ (by decide) (Nat.le_of_ble_eq_true rfl) ?_
  intro p e s m args below meth c ls Q F hr hlocks hQ w hl
  have F : CallFix p m c cX12_sources 2 s args TB RX12 := F
  have hx := F.1
  have hb := F.2.1
  have hl : lv_has ls 2 [(0, .ref (B + 146)), (1, .int (zI x))] := hl
  have hF : Fr (fun b9 k9 => (b9 = 146 ∧ k9 = 26) ∨ (b9 = 146 ∧ k9 = 3) ∨ (b9 = 146 ∧ k9 = 6) ∨ b9 = 148 ∨ b9 = 157) M M := Fr.rf
  refine lv_iload_n hx hb dX12_sources_0 rfl (lv_at hl 1 rfl) ?_
  refine lv_iconst (v := zI 0) hx hb dX12_sources_1 rfl ?_
  refine lv_bipush (v := zI 6) hx hb dX12_sources_2 (by decide) ?_
  refine k_Si F w (As := [.int (zI x), .int (zI 0), .int (zI 6)]) (rest := []) (q_X12_in (x := x) ⟨by omega, by omega⟩ (x1 := 0) ⟨by omega, by omega⟩ (x2 := 6) ⟨by omega, by omega⟩  hI) gs_X12_55 hs_X12_in ⟨(Nat.le_of_ble_eq_true rfl), (Nat.le_of_ble_eq_true rfl)⟩ hl.1 rfl (Nat.le_of_ble_eq_true rfl) ⟨Nat.zero_le _, Nat.zero_le _⟩ dX12_sources_4 (fun r1 N2 H locs hp w => ?_)
  obtain ⟨z3, rfl, bz3, xz3, hMN2⟩ := hp
  rw [hMN2] at w
  refine z_if_eq (tgt := 18) hx hb (by omega) dX12_sources_7 (by decide) (fun c4 => ?_) (fun c4 => ?_)
  · refine lv_iconst (v := zI (-1)) hx hb dX12_sources_18 rfl ?_
    rw [hQ]
    exact e_i F w hr hlocks ⟨_, rfl, ⟨by omega, by omega⟩, hI, hF⟩ dX12_sources_19
  · refine lv_aload_n hx hb dX12_sources_10 rfl (lv_at hl 0 rfl) ?_
    refine lv_iload_n hx hb dX12_sources_11 rfl (lv_at hl 1 rfl) ?_
    refine k_Vi F w (As := [.int (zI x)]) (rest := []) (a := 146) (kd_lt (a := 146) (show kd 146 = (12, 0, 0) from rfl) (by decide)) (sh_12 rfl _ _) rfl (q_X12_sourcesBy (x := x) ⟨by omega, by omega⟩  hI) gv_X12_321 hv_X12_sourcesBy ⟨(Nat.le_of_ble_eq_true rfl), (Nat.le_of_ble_eq_true rfl)⟩ hl.1 rfl (Nat.le_of_ble_eq_true rfl) ⟨Nat.zero_le _, Nat.zero_le _⟩ dX12_sources_12 (fun r5 N6 H locs hp w => ?_)
    obtain ⟨z7, rfl, bz7, hIN6, hFN6⟩ := hp
    have hGN6 := Fr.tr hF hFN6 (S := (fun b9 k9 => (b9 = 146 ∧ k9 = 26) ∨ (b9 = 146 ∧ k9 = 3) ∨ (b9 = 146 ∧ k9 = 6) ∨ b9 = 148 ∨ b9 = 157)) (fun b k h => by (try dsimp only at h ⊢); rcases h with ⟨rfl, rfl⟩ | ⟨rfl, rfl⟩ | ⟨rfl, rfl⟩ | rfl | rfl <;> first | decide | omega)
    refine lv_goto (tgt := 19) hx hb dX12_sources_15 (by decide) ?_
    rw [hQ]
    exact e_i F w hr hlocks ⟨_, rfl, ⟨by omega, by omega⟩, hIN6, hGN6⟩ dX12_sources_19
theorem dX12_source_0 : decode cX12_source 0 = .ok (.iload_n 1, 1) := dq0 kk_27 (by decide +kernel)
theorem dX12_source_1 : decode cX12_source 1 = .ok (.iconst 0, 1) := dq0 kk_3 (by decide +kernel)
theorem dX12_source_2 : decode cX12_source 2 = .ok (.bipush 6, 2) := dqS kk_16 (by decide +kernel)
theorem dX12_source_4 : decode cX12_source 4 = .ok (.invokestatic 55, 3) := dqV kk_184 (by decide +kernel)
theorem dX12_source_7 : decode cX12_source 7 = .ok (.ifCond .ne 5, 3) := dqT kk_154 (by decide +kernel)
theorem dX12_source_12 : decode cX12_source 12 = .ok (.aload_n 0, 1) := dq0 kk_42 (by decide +kernel)
theorem dX12_source_13 : decode cX12_source 13 = .ok (.iload_n 1, 1) := dq0 kk_27 (by decide +kernel)
theorem dX12_source_14 : decode cX12_source 14 = .ok (.invokevirtual 321, 3) := dqV kk_182 (by decide +kernel)
theorem dX12_source_17 : decode cX12_source 17 = .ok (.pop, 1) := dq0 kk_87 (by decide +kernel)
theorem dX12_source_18 : decode cX12_source 18 = .ok (.aload_n 0, 1) := dq0 kk_42 (by decide +kernel)
theorem dX12_source_19 : decode cX12_source 19 = .ok (.getfield 318, 3) := dqV kk_180 (by decide +kernel)
theorem dX12_source_22 : decode cX12_source 22 = .ok (.ireturn, 1) := dq0 kk_172 (by decide +kernel)
theorem dX12_source_10 : decode cX12_source 10 = .ok (.iconst (-1), 1) := dq0 kk_2 (by decide +kernel)
theorem dX12_source_11 : decode cX12_source 11 = .ok (.ireturn, 1) := dq0 kk_172 (by decide +kernel)
set_option maxRecDepth 4000 in
theorem q_X12_source {l : Launch} {D : va_G} {B : Nat} {cy : Nat → ClassId} {M : Mem} {x : Int} (hx : (-2147483648) ≤ x ∧ x ≤ 2147483647) (hI : IvR M) : Ci l D B cy yX12_source cX12_source 2 (some .int) 11 259 [.ref (B + 146), .int (zI x)] M (fun r M1 => ∃ z : Int, r = zI z ∧ ((-2147483648) ≤ z ∧ z ≤ 2147483647) ∧ IvR M1 ∧ Fr (fun b9 k9 => (b9 = 146 ∧ k9 = 26) ∨ (b9 = 146 ∧ k9 = 3) ∨ (b9 = 146 ∧ k9 = 6) ∨ b9 = 148 ∨ b9 = 157) M1 M) := by
  refine s_anyQ (by decide) (Nat.le_of_ble_eq_true rfl) ?_
  intro p e s m args below meth c ls Q F hr hlocks hQ w hl
  have F : CallFix p m c cX12_source 2 s args TB RX12 := F
  have hx := F.1
  have hb := F.2.1
  have hl : lv_has ls 2 [(0, .ref (B + 146)), (1, .int (zI x))] := hl
  have hF : Fr (fun b9 k9 => (b9 = 146 ∧ k9 = 26) ∨ (b9 = 146 ∧ k9 = 3) ∨ (b9 = 146 ∧ k9 = 6) ∨ b9 = 148 ∨ b9 = 157) M M := Fr.rf
  refine lv_iload_n hx hb dX12_source_0 rfl (lv_at hl 1 rfl) ?_
  refine lv_iconst (v := zI 0) hx hb dX12_source_1 rfl ?_
  refine lv_bipush (v := zI 6) hx hb dX12_source_2 (by decide) ?_
  refine k_Si F w (As := [.int (zI x), .int (zI 0), .int (zI 6)]) (rest := []) (q_X12_in (x := x) ⟨by omega, by omega⟩ (x1 := 0) ⟨by omega, by omega⟩ (x2 := 6) ⟨by omega, by omega⟩  hI) gs_X12_55 hs_X12_in ⟨(Nat.le_of_ble_eq_true rfl), (Nat.le_of_ble_eq_true rfl)⟩ hl.1 rfl (Nat.le_of_ble_eq_true rfl) ⟨Nat.zero_le _, Nat.zero_le _⟩ dX12_source_4 (fun r1 N2 H locs hp w => ?_)
  obtain ⟨z3, rfl, bz3, xz3, hMN2⟩ := hp
  rw [hMN2] at w
  refine z_if_ne (tgt := 12) hx hb (by omega) dX12_source_7 (by decide) (fun c4 => ?_) (fun c4 => ?_)
  · refine lv_aload_n hx hb dX12_source_12 rfl (lv_at hl 0 rfl) ?_
    refine lv_iload_n hx hb dX12_source_13 rfl (lv_at hl 1 rfl) ?_
    refine k_Vi F w (As := [.int (zI x)]) (rest := []) (a := 146) (kd_lt (a := 146) (show kd 146 = (12, 0, 0) from rfl) (by decide)) (sh_12 rfl _ _) rfl (q_X12_sourcesBy (x := x) ⟨by omega, by omega⟩  hI) gv_X12_321 hv_X12_sourcesBy ⟨(Nat.le_of_ble_eq_true rfl), (Nat.le_of_ble_eq_true rfl)⟩ hl.1 rfl (Nat.le_of_ble_eq_true rfl) ⟨Nat.zero_le _, Nat.zero_le _⟩ dX12_source_14 (fun r5 N6 H locs hp w => ?_)
    obtain ⟨z7, rfl, bz7, hIN6, hFN6⟩ := hp
    have hGN6 := Fr.tr hF hFN6 (S := (fun b9 k9 => (b9 = 146 ∧ k9 = 26) ∨ (b9 = 146 ∧ k9 = 3) ∨ (b9 = 146 ∧ k9 = 6) ∨ b9 = 148 ∨ b9 = 157)) (fun b k h => by (try dsimp only at h ⊢); rcases h with ⟨rfl, rfl⟩ | ⟨rfl, rfl⟩ | ⟨rfl, rfl⟩ | rfl | rfl <;> first | decide | omega)
    refine lv_pop hx hb dX12_source_17 rfl ?_
    refine lv_aload_n hx hb dX12_source_18 rfl (lv_at hl 0 rfl) ?_
    refine f_12_26 F w (a := 146) rfl tb_708 dX12_source_19 ?_
    obtain ⟨z8, bz8, ez8⟩ := IvR.ld (k := 26) hIN6 (show ivr 146 26 = ((-2147483648), 2147483647) from rfl) (show 146 ≤ 146 ∧ 146 < 159 by decide)
    refine r_val ez8 ?_
    rw [hQ]
    exact e_i F w hr hlocks ⟨_, rfl, ⟨by omega, by omega⟩, hIN6, hGN6⟩ dX12_source_22
  · refine lv_iconst (v := zI (-1)) hx hb dX12_source_10 rfl ?_
    rw [hQ]
    exact e_i F w hr hlocks ⟨_, rfl, ⟨by omega, by omega⟩, hI, hF⟩ dX12_source_11
theorem dX12_worksOrder_0 : decode cX12_worksOrder 0 = .ok (.aload_n 0, 1) := dq0 kk_42 (by decide +kernel)
theorem dX12_worksOrder_1 : decode cX12_worksOrder 1 = .ok (.getfield 17, 3) := dqV kk_180 (by decide +kernel)
theorem dX12_worksOrder_4 : decode cX12_worksOrder 4 = .ok (.aload_n 0, 1) := dq0 kk_42 (by decide +kernel)
theorem dX12_worksOrder_5 : decode cX12_worksOrder 5 = .ok (.getfield 13, 3) := dqV kk_180 (by decide +kernel)
theorem dX12_worksOrder_8 : decode cX12_worksOrder 8 = .ok (.invokestatic 162, 3) := dqV kk_184 (by decide +kernel)
theorem dX12_worksOrder_11 : decode cX12_worksOrder 11 = .ok (.iconst 1, 1) := dq0 kk_4 (by decide +kernel)
theorem dX12_worksOrder_12 : decode cX12_worksOrder 12 = .ok (.aload_n 0, 1) := dq0 kk_42 (by decide +kernel)
theorem dX12_worksOrder_13 : decode cX12_worksOrder 13 = .ok (.getfield 239, 3) := dqV kk_180 (by decide +kernel)
theorem dX12_worksOrder_16 : decode cX12_worksOrder 16 = .ok (.ishl, 1) := dq0 kk_120 (by decide +kernel)
theorem dX12_worksOrder_17 : decode cX12_worksOrder 17 = .ok (.iconst 1, 1) := dq0 kk_4 (by decide +kernel)
theorem dX12_worksOrder_18 : decode cX12_worksOrder 18 = .ok (.isub, 1) := dq0 kk_100 (by decide +kernel)
theorem dX12_worksOrder_19 : decode cX12_worksOrder 19 = .ok (.istore_n 2, 1) := dq0 kk_61 (by decide +kernel)
theorem dX12_worksOrder_20 : decode cX12_worksOrder 20 = .ok (.iload_n 1, 1) := dq0 kk_27 (by decide +kernel)
theorem dX12_worksOrder_21 : decode cX12_worksOrder 21 = .ok (.istore_n 3, 1) := dq0 kk_62 (by decide +kernel)
theorem dX12_worksOrder_22 : decode cX12_worksOrder 22 = .ok (.aload_n 0, 1) := dq0 kk_42 (by decide +kernel)
theorem dX12_worksOrder_23 : decode cX12_worksOrder 23 = .ok (.getfield 239, 3) := dqV kk_180 (by decide +kernel)
theorem dX12_worksOrder_26 : decode cX12_worksOrder 26 = .ok (.istore 4, 2) := dqU kk_54 (by decide +kernel)
theorem dX12_worksOrder_28 : decode cX12_worksOrder 28 = .ok (.iload 4, 2) := dqU kk_21 (by decide +kernel)
theorem dX12_worksOrder_30 : decode cX12_worksOrder 30 = .ok (.ifCond .le 75, 3) := dqT kk_158 (by decide +kernel)
theorem dX12_worksOrder_105 : decode cX12_worksOrder 105 = .ok (.return_, 1) := dq0 kk_177 (by decide +kernel)
theorem dX12_worksOrder_33 : decode cX12_worksOrder 33 = .ok (.iload_n 3, 1) := dq0 kk_29 (by decide +kernel)
theorem dX12_worksOrder_34 : decode cX12_worksOrder 34 = .ok (.iload 4, 2) := dqU kk_21 (by decide +kernel)
theorem dX12_worksOrder_36 : decode cX12_worksOrder 36 = .ok (.irem, 1) := dq0 kk_112 (by decide +kernel)
theorem dX12_worksOrder_37 : decode cX12_worksOrder 37 = .ok (.istore 5, 2) := dqU kk_54 (by decide +kernel)
theorem dX12_worksOrder_39 : decode cX12_worksOrder 39 = .ok (.iload_n 3, 1) := dq0 kk_29 (by decide +kernel)
theorem dX12_worksOrder_40 : decode cX12_worksOrder 40 = .ok (.iload 4, 2) := dqU kk_21 (by decide +kernel)
theorem dX12_worksOrder_42 : decode cX12_worksOrder 42 = .ok (.idiv, 1) := dq0 kk_108 (by decide +kernel)
theorem dX12_worksOrder_43 : decode cX12_worksOrder 43 = .ok (.istore_n 3, 1) := dq0 kk_62 (by decide +kernel)
theorem dX12_worksOrder_44 : decode cX12_worksOrder 44 = .ok (.iload_n 2, 1) := dq0 kk_28 (by decide +kernel)
theorem dX12_worksOrder_45 : decode cX12_worksOrder 45 = .ok (.invokestatic 63, 3) := dqV kk_184 (by decide +kernel)
theorem dX12_worksOrder_48 : decode cX12_worksOrder 48 = .ok (.istore 6, 2) := dqU kk_54 (by decide +kernel)
theorem dX12_worksOrder_50 : decode cX12_worksOrder 50 = .ok (.iconst 0, 1) := dq0 kk_3 (by decide +kernel)
theorem dX12_worksOrder_51 : decode cX12_worksOrder 51 = .ok (.istore 7, 2) := dqU kk_54 (by decide +kernel)
theorem dX12_worksOrder_53 : decode cX12_worksOrder 53 = .ok (.iload 7, 2) := dqU kk_21 (by decide +kernel)
theorem dX12_worksOrder_55 : decode cX12_worksOrder 55 = .ok (.iload 5, 2) := dqU kk_21 (by decide +kernel)
theorem dX12_worksOrder_57 : decode cX12_worksOrder 57 = .ok (.if_icmp .ge 26, 3) := dqT kk_162 (by decide +kernel)
theorem dX12_worksOrder_83 : decode cX12_worksOrder 83 = .ok (.iload_n 2, 1) := dq0 kk_28 (by decide +kernel)
theorem dX12_worksOrder_84 : decode cX12_worksOrder 84 = .ok (.iconst 1, 1) := dq0 kk_4 (by decide +kernel)
theorem dX12_worksOrder_85 : decode cX12_worksOrder 85 = .ok (.iload 6, 2) := dqU kk_21 (by decide +kernel)
theorem dX12_worksOrder_87 : decode cX12_worksOrder 87 = .ok (.ishl, 1) := dq0 kk_120 (by decide +kernel)
theorem dX12_worksOrder_88 : decode cX12_worksOrder 88 = .ok (.iconst (-1), 1) := dq0 kk_2 (by decide +kernel)
theorem dX12_worksOrder_89 : decode cX12_worksOrder 89 = .ok (.ixor, 1) := dq0 kk_130 (by decide +kernel)
theorem dX12_worksOrder_90 : decode cX12_worksOrder 90 = .ok (.iand, 1) := dq0 kk_126 (by decide +kernel)
theorem dX12_worksOrder_91 : decode cX12_worksOrder 91 = .ok (.istore_n 2, 1) := dq0 kk_61 (by decide +kernel)
theorem dX12_worksOrder_92 : decode cX12_worksOrder 92 = .ok (.aload_n 0, 1) := dq0 kk_42 (by decide +kernel)
theorem dX12_worksOrder_93 : decode cX12_worksOrder 93 = .ok (.iload 6, 2) := dqU kk_21 (by decide +kernel)
theorem dX12_worksOrder_95 : decode cX12_worksOrder 95 = .ok (.invokevirtual 166, 3) := dqV kk_182 (by decide +kernel)
theorem dX12_worksOrder_98 : decode cX12_worksOrder 98 = .ok (.pop, 1) := dq0 kk_87 (by decide +kernel)
theorem dX12_worksOrder_99 : decode cX12_worksOrder 99 = .ok (.iinc 4 (-1), 3) := dqI kk_132 (by decide +kernel)
theorem dX12_worksOrder_102 : decode cX12_worksOrder 102 = .ok (.goto (-74), 3) := dqT kk_167 (by decide +kernel)
theorem dX12_worksOrder_60 : decode cX12_worksOrder 60 = .ok (.iload_n 2, 1) := dq0 kk_28 (by decide +kernel)
theorem dX12_worksOrder_61 : decode cX12_worksOrder 61 = .ok (.iconst 1, 1) := dq0 kk_4 (by decide +kernel)
theorem dX12_worksOrder_62 : decode cX12_worksOrder 62 = .ok (.iload 6, 2) := dqU kk_21 (by decide +kernel)
theorem dX12_worksOrder_64 : decode cX12_worksOrder 64 = .ok (.iconst 1, 1) := dq0 kk_4 (by decide +kernel)
theorem dX12_worksOrder_65 : decode cX12_worksOrder 65 = .ok (.iadd, 1) := dq0 kk_96 (by decide +kernel)
theorem dX12_worksOrder_66 : decode cX12_worksOrder 66 = .ok (.ishl, 1) := dq0 kk_120 (by decide +kernel)
theorem dX12_worksOrder_67 : decode cX12_worksOrder 67 = .ok (.iconst 1, 1) := dq0 kk_4 (by decide +kernel)
theorem dX12_worksOrder_68 : decode cX12_worksOrder 68 = .ok (.isub, 1) := dq0 kk_100 (by decide +kernel)
theorem dX12_worksOrder_69 : decode cX12_worksOrder 69 = .ok (.iconst (-1), 1) := dq0 kk_2 (by decide +kernel)
theorem dX12_worksOrder_70 : decode cX12_worksOrder 70 = .ok (.ixor, 1) := dq0 kk_130 (by decide +kernel)
theorem dX12_worksOrder_71 : decode cX12_worksOrder 71 = .ok (.iand, 1) := dq0 kk_126 (by decide +kernel)
theorem dX12_worksOrder_72 : decode cX12_worksOrder 72 = .ok (.invokestatic 63, 3) := dqV kk_184 (by decide +kernel)
theorem dX12_worksOrder_75 : decode cX12_worksOrder 75 = .ok (.istore 6, 2) := dqU kk_54 (by decide +kernel)
theorem dX12_worksOrder_77 : decode cX12_worksOrder 77 = .ok (.iinc 7 1, 3) := dqI kk_132 (by decide +kernel)
theorem dX12_worksOrder_80 : decode cX12_worksOrder 80 = .ok (.goto (-27), 3) := dqT kk_167 (by decide +kernel)
set_option maxRecDepth 4000 in
theorem q_X12_worksOrder {l : Launch} {D : va_G} {B : Nat} {cy : Nat → ClassId} {M : Mem} {x : Int} (hx : 0 ≤ x ∧ x ≤ 719) {rn : Int} (hgrn : M.1 146 5 = zI rn) (hrn : 0 ≤ rn ∧ rn ≤ 8) (hpre0 : rn ≤ 6) (hI : IvR M) : Cv l D B cy yX12_worksOrder cX12_worksOrder 8 8 189 [.ref (B + 146), .int (zI x)] M (fun M1 => IvR M1 ∧ Fr (fun b9 k9 => (b9 = 146 ∧ k9 = 3) ∨ (b9 = 146 ∧ k9 = 6) ∨ b9 = 148) M1 M) := by
  refine s_anyQ (by decide) (Nat.le_of_ble_eq_true rfl) ?_
  intro p e s m args below meth c ls Q F hr hlocks hQ w hl
  have F : CallFix p m c cX12_worksOrder 8 s args TB RX12 := F
  have hx := F.1
  have hb := F.2.1
  have hl : lv_has ls 8 [(0, .ref (B + 146)), (1, .int (zI x))] := hl
  have hF : Fr (fun b9 k9 => (b9 = 146 ∧ k9 = 3) ∨ (b9 = 146 ∧ k9 = 6) ∨ b9 = 148) M M := Fr.rf
  refine lv_aload_n hx hb dX12_worksOrder_0 rfl (lv_at hl 0 rfl) ?_
  refine f_12_2 F w (a := 146) rfl tb_45 dX12_worksOrder_1 ?_
  refine lv_aload_n hx hb dX12_worksOrder_4 rfl (lv_at hl 0 rfl) ?_
  refine f_12_1 F w (a := 146) rfl tb_580 dX12_worksOrder_5 ?_
  obtain ⟨z1, bz1, ez1⟩ := IvR.ld (k := 0) hI (show ivr 147 0 = (0, 12) from rfl) (show 146 ≤ 147 ∧ 147 < 159 by decide)
  refine k_Sv F w (As := [.ref (B + 148), .ref (B + 147)]) (rest := []) (q_copy_148_147 (nn := z1) (ez1) ⟨by omega, by omega⟩  hI) gs_X12_162 hs_X12_copy ⟨(Nat.le_of_ble_eq_true rfl), (Nat.le_of_ble_eq_true rfl)⟩ hl.1 rfl (Nat.le_of_ble_eq_true rfl) ⟨Nat.zero_le _, Nat.zero_le _⟩ dX12_worksOrder_8 (fun N3 H locs hp w => ?_)
  obtain ⟨yN3_148_0, hIN3, hFN3⟩ := hp
  have hGN3 := Fr.tr hF hFN3 (S := (fun b9 k9 => (b9 = 146 ∧ k9 = 3) ∨ (b9 = 146 ∧ k9 = 6) ∨ b9 = 148)) (fun b k h => by (try dsimp only at h ⊢); rcases h with rfl <;> first | decide | omega)
  have kn5 : N3.1 146 5 = zI rn := (hFN3 146 5 (by first | decide | (dsimp only; first | done | decide | omega) | omega)).trans (hgrn)
  have kn6 : N3.1 147 0 = zI z1 := (hFN3 147 0 (by first | decide | (dsimp only; first | done | decide | omega) | omega)).trans (ez1)
  refine lv_iconst (v := zI 1) hx hb dX12_worksOrder_11 rfl ?_
  refine lv_aload_n hx hb dX12_worksOrder_12 rfl (lv_at hl 0 rfl) ?_
  refine f_12_5 F w (a := 146) rfl tb_604 dX12_worksOrder_13 ?_
  refine r_val (v := zI rn) (kn5) ?_
  obtain ⟨z7, bz7, x0z7, ez7⟩ := shl_ex 1 rn
  refine lv_ishl hx hb dX12_worksOrder_16 ?_
  refine r_val ez7 ?_
  have hwi9 := wo_init (n := rn) (by omega) (by omega) ez7
  refine lv_iconst (v := zI 1) hx hb dX12_worksOrder_17 rfl ?_
  refine z_isub (z := (z7 - 1)) hx hb dX12_worksOrder_18 (by omega) ?_
  refine lv_istore_n (lv' := [(2, .int (zI (z7 - 1))), (0, .ref (B + 146)), (1, .int (zI x))]) hx hb dX12_worksOrder_19 rfl hl (by decide) rfl (fun ls hl => ?_)
  refine lv_iload_n hx hb dX12_worksOrder_20 rfl (lv_at hl 2 rfl) ?_
  refine lv_istore_n (lv' := [(3, .int (zI x)), (2, .int (zI (z7 - 1))), (0, .ref (B + 146)), (1, .int (zI x))]) hx hb dX12_worksOrder_21 rfl hl (by decide) rfl (fun ls hl => ?_)
  refine lv_aload_n hx hb dX12_worksOrder_22 rfl (lv_at hl 2 rfl) ?_
  refine f_12_5 F w (a := 146) rfl tb_604 dX12_worksOrder_23 ?_
  refine r_val (v := zI rn) (kn5) ?_
  refine lv_istore (lv' := [(4, .int (zI rn)), (3, .int (zI x)), (2, .int (zI (z7 - 1))), (0, .ref (B + 146)), (1, .int (zI x))]) hx hb dX12_worksOrder_26 hl (by decide) rfl (fun ls hl => ?_)
  have lp28 : ∀ (f : Nat) (v4_28 : Int) (v3_28 : Int) (v2_28 : Int)  (NL28 : Mem), (0 ≤ v4_28 ∧ v4_28 ≤ 8) → (0 ≤ v3_28 ∧ v3_28 ≤ 719) → (0 ≤ v2_28 ∧ v2_28 ≤ 63) → NL28.1 146 5 = zI rn → NL28.1 147 0 = zI z1 → (v4_28 = popI v2_28) → IvR NL28 → Fr (fun b9 k9 => (b9 = 146 ∧ k9 = 3) ∨ (b9 = 146 ∧ k9 = 6) ∨ b9 = 148) NL28 M → (Int.toNat (v4_28 - 0) < f) → ∀ (H : Heap) (locs : List Loc) (ls : Array Slot), Wd D B cy s s.heap NL28 H locs → lv_has ls 8 [(4, .int (zI v4_28)), (3, .int (zI v3_28)), (2, .int (zI v2_28)), (0, .ref (B + 146)), (1, .int (zI x))] → W p l e (rmm 8 189) s m args below meth c H locs 0 0 Q (F0 m 28 ls []) := by
    intro f
    induction f with
    | zero => intros; omega
    | succ f ih28 =>
      intro v4_28 v3_28 v2_28  NL28 iv4_28 iv3_28 iv2_28 eg146_5_28 eg147_0_28 y28_0 hIL28 hFL28 hf28 H locs ls w hl
      refine lv_iload hx hb dX12_worksOrder_28 (lv_at hl 0 rfl) ?_
      refine z_if_le (tgt := 105) hx hb (by omega) dX12_worksOrder_30 (by decide) (fun c8 => ?_) (fun c8 => ?_)
      · rw [hQ]
        exact e_v F w hr hlocks ⟨hIL28, hFL28⟩ dX12_worksOrder_105
      · refine lv_iload_n hx hb dX12_worksOrder_33 rfl (lv_at hl 1 rfl) ?_
        refine lv_iload hx hb dX12_worksOrder_34 (lv_at hl 0 rfl) ?_
        refine lv_irem hx hb dX12_worksOrder_36 (nz_z (by omega) (by omega)) ?_
        obtain ⟨z9, bz9, x0z9, ez9⟩ := rem_ex v3_28 v4_28 (by omega) (by omega)
        refine r_val ez9 ?_
        refine lv_istore (lv' := [(5, .int (zI z9)), (4, .int (zI v4_28)), (3, .int (zI v3_28)), (2, .int (zI v2_28)), (0, .ref (B + 146)), (1, .int (zI x))]) hx hb dX12_worksOrder_37 hl (by decide) rfl (fun ls hl => ?_)
        refine lv_iload_n hx hb dX12_worksOrder_39 rfl (lv_at hl 2 rfl) ?_
        refine lv_iload hx hb dX12_worksOrder_40 (lv_at hl 1 rfl) ?_
        refine lv_idiv hx hb dX12_worksOrder_42 (nz_z (by omega) (by omega)) ?_
        obtain ⟨z10, bz10, x0z10, ez10⟩ := div_ex v3_28 v4_28 (by omega) (by omega)
        refine r_val ez10 ?_
        refine lv_istore_n (lv' := [(3, .int (zI z10)), (5, .int (zI z9)), (4, .int (zI v4_28)), (2, .int (zI v2_28)), (0, .ref (B + 146)), (1, .int (zI x))]) hx hb dX12_worksOrder_43 rfl hl (by decide) rfl (fun ls hl => ?_)
        refine lv_iload_n hx hb dX12_worksOrder_44 rfl (lv_at hl 3 rfl) ?_
        refine k_Si F w (As := [.int (zI v2_28)]) (rest := []) (q_firstOf (x := v2_28) ⟨by omega, by omega⟩ ) gs_X12_63 hs_X12_firstOf ⟨(Nat.le_of_ble_eq_true rfl), (Nat.le_of_ble_eq_true rfl)⟩ hl.1 rfl (Nat.le_of_ble_eq_true rfl) ⟨Nat.zero_le _, Nat.zero_le _⟩ dX12_worksOrder_45 (fun r11 N12 H locs hp w => ?_)
        obtain ⟨hrz13, hMz13⟩ := hp
        rw [hMz13] at w
        obtain ⟨z13, bz13, xz13, xcz13, ez13⟩ := low2_ex v2_28 (by omega)
        refine r_val (hrz13.trans ez13) ?_
        have hwf9 := wo_first (x := v2_28) (by omega) (by omega) ez13 (by omega)
        refine lv_istore (lv' := [(6, .int (zI z13)), (3, .int (zI z10)), (5, .int (zI z9)), (4, .int (zI v4_28)), (2, .int (zI v2_28)), (0, .ref (B + 146)), (1, .int (zI x))]) hx hb dX12_worksOrder_48 hl (by decide) rfl (fun ls hl => ?_)
        refine lv_iconst (v := zI 0) hx hb dX12_worksOrder_50 rfl ?_
        refine lv_istore (lv' := [(7, .int (zI 0)), (6, .int (zI z13)), (3, .int (zI z10)), (5, .int (zI z9)), (4, .int (zI v4_28)), (2, .int (zI v2_28)), (0, .ref (B + 146)), (1, .int (zI x))]) hx hb dX12_worksOrder_51 hl (by decide) rfl (fun ls hl => ?_)
        have lp53 : ∀ (f : Nat) (v7_53 : Int) (v6_53 : Int), (0 ≤ v7_53 ∧ v7_53 ≤ 7) → (0 ≤ v6_53 ∧ v6_53 ≤ 5) → (tbI v2_28 v6_53 = 1 ∧ abI v2_28 v6_53 = popI v2_28 - 1 - v7_53) → (Int.toNat (7 - v7_53) < f) → ∀ (H : Heap) (locs : List Loc) (ls : Array Slot), Wd D B cy s s.heap NL28 H locs → lv_has ls 8 [(7, .int (zI v7_53)), (6, .int (zI v6_53)), (3, .int (zI z10)), (5, .int (zI z9)), (4, .int (zI v4_28)), (2, .int (zI v2_28)), (0, .ref (B + 146)), (1, .int (zI x))] → W p l e (rmm 8 189) s m args below meth c H locs 0 0 Q (F0 m 53 ls []) := by
          intro f
          induction f with
          | zero => intros; omega
          | succ f ih53 =>
            intro v7_53 v6_53  iv7_53 iv6_53 y53_0 hf53 H locs ls w hl
            refine lv_iload hx hb dX12_worksOrder_53 (lv_at hl 0 rfl) ?_
            refine lv_iload hx hb dX12_worksOrder_55 (lv_at hl 3 rfl) ?_
            refine z_icmp_ge (tgt := 83) hx hb (by omega) (by omega) dX12_worksOrder_57 (by decide) (fun c14 => ?_) (fun c14 => ?_)
            · refine lv_iload_n hx hb dX12_worksOrder_83 rfl (lv_at hl 5 rfl) ?_
              refine lv_iconst (v := zI 1) hx hb dX12_worksOrder_84 rfl ?_
              refine lv_iload hx hb dX12_worksOrder_85 (lv_at hl 1 rfl) ?_
              obtain ⟨z15, bz15, x0z15, ez15⟩ := shl_ex 1 v6_53
              refine lv_ishl hx hb dX12_worksOrder_87 ?_
              refine r_val ez15 ?_
              refine lv_iconst (v := zI (-1)) hx hb dX12_worksOrder_88 rfl ?_
              refine lv_ixor hx hb dX12_worksOrder_89 ?_
              refine r_val (not_ex z15) ?_
              obtain ⟨z16, bz16, x0z16, x1z16, ez16⟩ := and_ex v2_28 (-z15 - 1) (by omega) (by omega)
              refine lv_iand hx hb dX12_worksOrder_90 ?_
              refine r_val ez16 ?_
              have hwr9 := wo_rem (x := v2_28) (r := v6_53) (v := z15) (w := z16) (by omega) (by omega) (by omega) (by omega) ez15 (by omega) ez16
              refine lv_istore_n (lv' := [(2, .int (zI z16)), (7, .int (zI v7_53)), (6, .int (zI v6_53)), (3, .int (zI z10)), (5, .int (zI z9)), (4, .int (zI v4_28)), (0, .ref (B + 146)), (1, .int (zI x))]) hx hb dX12_worksOrder_91 rfl hl (by decide) rfl (fun ls hl => ?_)
              refine lv_aload_n hx hb dX12_worksOrder_92 rfl (lv_at hl 6 rfl) ?_
              refine lv_iload hx hb dX12_worksOrder_93 (lv_at hl 2 rfl) ?_
              refine k_Vi F w (As := [.int (zI v6_53)]) (rest := []) (a := 146) (kd_lt (a := 146) (show kd 146 = (12, 0, 0) from rfl) (by decide)) (sh_12 rfl _ _) rfl (q_X12_works (x := v6_53) ⟨by omega, by omega⟩  hIL28) gv_X12_166 hv_X12_works ⟨(Nat.le_of_ble_eq_true rfl), (Nat.le_of_ble_eq_true rfl)⟩ hl.1 rfl (Nat.le_of_ble_eq_true rfl) ⟨Nat.zero_le _, Nat.zero_le _⟩ dX12_worksOrder_95 (fun r17 N18 H locs hp w => ?_)
              obtain ⟨z19, rfl, bz19, hIN18, hFN18⟩ := hp
              have hGN18 := Fr.tr hFL28 hFN18 (S := (fun b9 k9 => (b9 = 146 ∧ k9 = 3) ∨ (b9 = 146 ∧ k9 = 6) ∨ b9 = 148)) (fun b k h => by (try dsimp only at h ⊢); rcases h with ⟨rfl, rfl⟩ | ⟨rfl, rfl⟩ | rfl <;> first | decide | omega)
              have kn20 : N18.1 146 5 = zI rn := (hFN18 146 5 (by first | decide | (dsimp only; first | done | decide | omega) | omega)).trans (eg146_5_28)
              have kn21 : N18.1 147 0 = zI z1 := (hFN18 147 0 (by first | decide | (dsimp only; first | done | decide | omega) | omega)).trans (eg147_0_28)
              refine lv_pop hx hb dX12_worksOrder_98 rfl ?_
              refine z_iinc (v := (v4_28 - 1)) (lv' := [(4, .int (zI (v4_28 - 1))), (2, .int (zI z16)), (7, .int (zI v7_53)), (6, .int (zI v6_53)), (3, .int (zI z10)), (5, .int (zI z9)), (0, .ref (B + 146)), (1, .int (zI x))]) hx hb dX12_worksOrder_99 hl (k := 5) rfl (by omega) (by decide) rfl (fun ls hl => ?_)
              refine lv_goto (tgt := 28) hx hb dX12_worksOrder_102 (by decide) ?_
              exact ih28 (v4_28 - 1) z10 z16 N18 (by omega) (by omega) (by omega)  (kn20) (kn21) (by omega) hIN18 hGN18 (by omega) _ _ _ w (lv_sub hl [0, 4, 1, 6, 7] rfl)
            · refine lv_iload_n hx hb dX12_worksOrder_60 rfl (lv_at hl 5 rfl) ?_
              refine lv_iconst (v := zI 1) hx hb dX12_worksOrder_61 rfl ?_
              refine lv_iload hx hb dX12_worksOrder_62 (lv_at hl 1 rfl) ?_
              refine lv_iconst (v := zI 1) hx hb dX12_worksOrder_64 rfl ?_
              refine z_iadd (z := (v6_53 + 1)) hx hb dX12_worksOrder_65 (by omega) ?_
              obtain ⟨z22, bz22, x0z22, ez22⟩ := shl_ex 1 (v6_53 + 1)
              refine lv_ishl hx hb dX12_worksOrder_66 ?_
              refine r_val ez22 ?_
              refine lv_iconst (v := zI 1) hx hb dX12_worksOrder_67 rfl ?_
              refine z_isub (z := (z22 - 1)) hx hb dX12_worksOrder_68 (by omega) ?_
              refine lv_iconst (v := zI (-1)) hx hb dX12_worksOrder_69 rfl ?_
              refine lv_ixor hx hb dX12_worksOrder_70 ?_
              refine r_val (not_ex (z22 - 1)) ?_
              obtain ⟨z23, bz23, x0z23, x1z23, ez23⟩ := and_ex v2_28 (-(z22 - 1) - 1) (by omega) (by omega)
              refine lv_iand hx hb dX12_worksOrder_71 ?_
              refine r_val ez23 ?_
              refine k_Si F w (As := [.int (zI z23)]) (rest := []) (q_firstOf (x := z23) ⟨by omega, by omega⟩ ) gs_X12_63 hs_X12_firstOf ⟨(Nat.le_of_ble_eq_true rfl), (Nat.le_of_ble_eq_true rfl)⟩ hl.1 rfl (Nat.le_of_ble_eq_true rfl) ⟨Nat.zero_le _, Nat.zero_le _⟩ dX12_worksOrder_72 (fun r24 N25 H locs hp w => ?_)
              obtain ⟨hrz26, hMz26⟩ := hp
              rw [hMz26] at w
              obtain ⟨z26, bz26, xz26, xcz26, ez26⟩ := low2_ex z23 (by omega)
              refine r_val (hrz26.trans ez26) ?_
              have hwn9 := wo_next (x := v2_28) (r := v6_53) (v := z22) (w := z23) (by omega) (by omega) (by omega) (by omega) (by omega) ez22 (by omega) ez23 (by omega) (by omega) ez26
              refine lv_istore (lv' := [(6, .int (zI z26)), (7, .int (zI v7_53)), (3, .int (zI z10)), (5, .int (zI z9)), (4, .int (zI v4_28)), (2, .int (zI v2_28)), (0, .ref (B + 146)), (1, .int (zI x))]) hx hb dX12_worksOrder_75 hl (by decide) rfl (fun ls hl => ?_)
              refine z_iinc (v := (v7_53 + 1)) (lv' := [(7, .int (zI (v7_53 + 1))), (6, .int (zI z26)), (3, .int (zI z10)), (5, .int (zI z9)), (4, .int (zI v4_28)), (2, .int (zI v2_28)), (0, .ref (B + 146)), (1, .int (zI x))]) hx hb dX12_worksOrder_77 hl (k := 1) rfl (by omega) (by decide) rfl (fun ls hl => ?_)
              refine lv_goto (tgt := 53) hx hb dX12_worksOrder_80 (by decide) ?_
              exact ih53 (v7_53 + 1) z26 (by omega) (by omega)   (by omega)  (by omega) _ _ _ w (lv_sub hl [0, 1, 2, 3, 4, 5, 6, 7] rfl)
        exact lp53 _ 0 z13 (by omega) (by omega) (by omega) (Nat.lt_succ_self _) _ _ _ w (lv_sub hl [0, 1, 2, 3, 4, 5, 6, 7] rfl)
  exact lp28 _ rn x (z7 - 1) N3 (by omega) (by omega) (by omega) (kn5) (kn6) (by omega) hIN3 hGN3 (Nat.lt_succ_self _) _ _ _ w (lv_sub hl [0, 1, 2, 3, 4] rfl)
theorem dX12_orders_0 : decode cX12_orders 0 = .ok (.iload_n 1, 1) := dq0 kk_27 (by decide +kernel)
theorem dX12_orders_1 : decode cX12_orders 1 = .ok (.iconst 0, 1) := dq0 kk_3 (by decide +kernel)
theorem dX12_orders_2 : decode cX12_orders 2 = .ok (.iconst 1, 1) := dq0 kk_4 (by decide +kernel)
theorem dX12_orders_3 : decode cX12_orders 3 = .ok (.invokestatic 55, 3) := dqV kk_184 (by decide +kernel)
theorem dX12_orders_6 : decode cX12_orders 6 = .ok (.ifCond .ne 5, 3) := dqT kk_154 (by decide +kernel)
theorem dX12_orders_11 : decode cX12_orders 11 = .ok (.aload_n 0, 1) := dq0 kk_42 (by decide +kernel)
theorem dX12_orders_12 : decode cX12_orders 12 = .ok (.getfield 239, 3) := dqV kk_180 (by decide +kernel)
theorem dX12_orders_15 : decode cX12_orders 15 = .ok (.bipush 6, 2) := dqS kk_16 (by decide +kernel)
theorem dX12_orders_17 : decode cX12_orders 17 = .ok (.if_icmp .le 6, 3) := dqT kk_164 (by decide +kernel)
theorem dX12_orders_23 : decode cX12_orders 23 = .ok (.aload_n 0, 1) := dq0 kk_42 (by decide +kernel)
theorem dX12_orders_24 : decode cX12_orders 24 = .ok (.invokevirtual 303, 3) := dqV kk_182 (by decide +kernel)
theorem dX12_orders_27 : decode cX12_orders 27 = .ok (.iconst 1, 1) := dq0 kk_4 (by decide +kernel)
theorem dX12_orders_28 : decode cX12_orders 28 = .ok (.istore_n 2, 1) := dq0 kk_61 (by decide +kernel)
theorem dX12_orders_29 : decode cX12_orders 29 = .ok (.iconst 2, 1) := dq0 kk_5 (by decide +kernel)
theorem dX12_orders_30 : decode cX12_orders 30 = .ok (.istore_n 3, 1) := dq0 kk_62 (by decide +kernel)
theorem dX12_orders_31 : decode cX12_orders 31 = .ok (.iload_n 3, 1) := dq0 kk_29 (by decide +kernel)
theorem dX12_orders_32 : decode cX12_orders 32 = .ok (.aload_n 0, 1) := dq0 kk_42 (by decide +kernel)
theorem dX12_orders_33 : decode cX12_orders 33 = .ok (.getfield 239, 3) := dqV kk_180 (by decide +kernel)
theorem dX12_orders_36 : decode cX12_orders 36 = .ok (.if_icmp .gt 13, 3) := dqT kk_163 (by decide +kernel)
theorem dX12_orders_49 : decode cX12_orders 49 = .ok (.iconst 0, 1) := dq0 kk_3 (by decide +kernel)
theorem dX12_orders_50 : decode cX12_orders 50 = .ok (.istore_n 3, 1) := dq0 kk_62 (by decide +kernel)
theorem dX12_orders_51 : decode cX12_orders 51 = .ok (.aload_n 0, 1) := dq0 kk_42 (by decide +kernel)
theorem dX12_orders_52 : decode cX12_orders 52 = .ok (.iconst 0, 1) := dq0 kk_3 (by decide +kernel)
theorem dX12_orders_53 : decode cX12_orders 53 = .ok (.putfield 309, 3) := dqV kk_181 (by decide +kernel)
theorem dX12_orders_56 : decode cX12_orders 56 = .ok (.iconst 0, 1) := dq0 kk_3 (by decide +kernel)
theorem dX12_orders_57 : decode cX12_orders 57 = .ok (.istore 4, 2) := dqU kk_54 (by decide +kernel)
theorem dX12_orders_59 : decode cX12_orders 59 = .ok (.iload 4, 2) := dqU kk_21 (by decide +kernel)
theorem dX12_orders_61 : decode cX12_orders 61 = .ok (.iload_n 2, 1) := dq0 kk_28 (by decide +kernel)
theorem dX12_orders_62 : decode cX12_orders 62 = .ok (.if_icmp .ge 29, 3) := dqT kk_162 (by decide +kernel)
theorem dX12_orders_65 : decode cX12_orders 65 = .ok (.aload_n 0, 1) := dq0 kk_42 (by decide +kernel)
theorem dX12_orders_66 : decode cX12_orders 66 = .ok (.iload 4, 2) := dqU kk_21 (by decide +kernel)
theorem dX12_orders_68 : decode cX12_orders 68 = .ok (.invokevirtual 312, 3) := dqV kk_182 (by decide +kernel)
theorem tk_X12_worksOrder : Cond.code yX12_worksOrder cX12_worksOrder 8 none ∈ TB := tbm (tc7 (List.mem_of_getElem? (i := 16) rfl)) rfl
theorem gc_X12_worksOrder : GoodIn TB (cw yX12_worksOrder cX12_worksOrder 8 none) := goodIn_c2 tk_X12_worksOrder
theorem tb_712 : Cond.methodLink "ToneLinesModel" 312 yX12_worksOrder ∈ TB := tbm (tc7 (List.mem_of_getElem? (i := 13) rfl)) rfl
theorem tb_713 : Cond.instanceMethod yX12_worksOrder ∈ TB := tbm (tc7 (List.mem_of_getElem? (i := 15) rfl)) rfl
theorem tb_714 : Cond.selects "ToneLinesModel" yX12_worksOrder yX12_worksOrder ∈ TB := tbp (List.mem_of_getElem? (i := 87) rfl) rfl
theorem gv_X12_312 : GoodIn TB (wsV RX12 312 RX12 yX12_worksOrder (cw yX12_worksOrder cX12_worksOrder 8 none)) := goodIn_4 tb_712 tb_713 tb_714 tb_38 gc_X12_worksOrder
theorem hv_X12_worksOrder : yX12_worksOrder.cls = RX12 ∧ yX12_worksOrder.cls ≠ "java/lang/invoke/MethodHandle" ∧ yX12_worksOrder.cls ≠ "java/lang/invoke/VarHandle" ∧ (parseMethodDescriptor yX12_worksOrder.desc).map (fun d => d.parameters.length) = some 1 := by decide +kernel
theorem dX12_orders_71 : decode cX12_orders 71 = .ok (.aload_n 0, 1) := dq0 kk_42 (by decide +kernel)
theorem dX12_orders_72 : decode cX12_orders 72 = .ok (.invokevirtual 306, 3) := dqV kk_182 (by decide +kernel)
theorem dX12_orders_75 : decode cX12_orders 75 = .ok (.ifCond .eq 6, 3) := dqT kk_153 (by decide +kernel)
theorem dX12_orders_81 : decode cX12_orders 81 = .ok (.aload_n 0, 1) := dq0 kk_42 (by decide +kernel)
theorem dX12_orders_82 : decode cX12_orders 82 = .ok (.invokevirtual 315, 3) := dqV kk_182 (by decide +kernel)
theorem tk_X12_collects : Cond.code yX12_collects cX12_collects 5 none ∈ TB := tbm (tc7 (List.mem_of_getElem? (i := 20) rfl)) rfl
theorem gc_X12_collects : GoodIn TB (cw yX12_collects cX12_collects 5 none) := goodIn_c2 tk_X12_collects
theorem tb_715 : Cond.methodLink "ToneLinesModel" 315 yX12_collects ∈ TB := tbm (tc7 (List.mem_of_getElem? (i := 17) rfl)) rfl
theorem tb_716 : Cond.instanceMethod yX12_collects ∈ TB := tbm (tc7 (List.mem_of_getElem? (i := 19) rfl)) rfl
theorem tb_717 : Cond.selects "ToneLinesModel" yX12_collects yX12_collects ∈ TB := tbp (List.mem_of_getElem? (i := 88) rfl) rfl
theorem gv_X12_315 : GoodIn TB (wsV RX12 315 RX12 yX12_collects (cw yX12_collects cX12_collects 5 none)) := goodIn_4 tb_715 tb_716 tb_717 tb_38 gc_X12_collects
theorem hv_X12_collects : yX12_collects.cls = RX12 ∧ yX12_collects.cls ≠ "java/lang/invoke/MethodHandle" ∧ yX12_collects.cls ≠ "java/lang/invoke/VarHandle" ∧ (parseMethodDescriptor yX12_collects.desc).map (fun d => d.parameters.length) = some 0 := by decide +kernel
theorem dX12_orders_85 : decode cX12_orders 85 = .ok (.iinc 4 1, 3) := dqI kk_132 (by decide +kernel)
theorem dX12_orders_88 : decode cX12_orders 88 = .ok (.goto (-29), 3) := dqT kk_167 (by decide +kernel)
theorem dX12_orders_78 : decode cX12_orders 78 = .ok (.iinc 3 1, 3) := dqI kk_132 (by decide +kernel)
theorem dX12_orders_91 : decode cX12_orders 91 = .ok (.iload_n 1, 1) := dq0 kk_27 (by decide +kernel)
theorem dX12_orders_92 : decode cX12_orders 92 = .ok (.ifCond .ne 10, 3) := dqT kk_154 (by decide +kernel)
theorem dX12_orders_102 : decode cX12_orders 102 = .ok (.iload_n 3, 1) := dq0 kk_29 (by decide +kernel)
theorem dX12_orders_103 : decode cX12_orders 103 = .ok (.ireturn, 1) := dq0 kk_172 (by decide +kernel)
theorem dX12_orders_95 : decode cX12_orders 95 = .ok (.aload_n 0, 1) := dq0 kk_42 (by decide +kernel)
theorem dX12_orders_96 : decode cX12_orders 96 = .ok (.getfield 309, 3) := dqV kk_180 (by decide +kernel)
theorem dX12_orders_99 : decode cX12_orders 99 = .ok (.goto 4, 3) := dqT kk_167 (by decide +kernel)
theorem dX12_orders_39 : decode cX12_orders 39 = .ok (.iload_n 2, 1) := dq0 kk_28 (by decide +kernel)
theorem dX12_orders_40 : decode cX12_orders 40 = .ok (.iload_n 3, 1) := dq0 kk_29 (by decide +kernel)
theorem dX12_orders_41 : decode cX12_orders 41 = .ok (.imul, 1) := dq0 kk_104 (by decide +kernel)
theorem dX12_orders_42 : decode cX12_orders 42 = .ok (.istore_n 2, 1) := dq0 kk_61 (by decide +kernel)
theorem dX12_orders_43 : decode cX12_orders 43 = .ok (.iinc 3 1, 3) := dqI kk_132 (by decide +kernel)
theorem dX12_orders_46 : decode cX12_orders 46 = .ok (.goto (-15), 3) := dqT kk_167 (by decide +kernel)
theorem dX12_orders_20 : decode cX12_orders 20 = .ok (.bipush (-2), 2) := dqS kk_16 (by decide +kernel)
theorem dX12_orders_22 : decode cX12_orders 22 = .ok (.ireturn, 1) := dq0 kk_172 (by decide +kernel)
theorem dX12_orders_9 : decode cX12_orders 9 = .ok (.iconst (-1), 1) := dq0 kk_2 (by decide +kernel)
theorem dX12_orders_10 : decode cX12_orders 10 = .ok (.ireturn, 1) := dq0 kk_172 (by decide +kernel)
set_option maxRecDepth 4000 in
theorem q_X12_orders {l : Launch} {D : va_G} {B : Nat} {cy : Nat → ClassId} {M : Mem} {x : Int} (hx : (-2147483648) ≤ x ∧ x ≤ 2147483647) {rn : Int} (hgrn : M.1 146 5 = zI rn) (hrn : 0 ≤ rn ∧ rn ≤ 8) (hI : IvR M) : Ci l D B cy yX12_orders cX12_orders 5 (some .int) 10 233 [.ref (B + 146), .int (zI x)] M (fun r M1 => ∃ z : Int, r = zI z ∧ ((-2147483648) ≤ z ∧ z ≤ 2147483647) ∧ IvR M1 ∧ Fr (fun b9 k9 => (b9 = 146 ∧ k9 = 25) ∨ (b9 = 146 ∧ k9 = 3) ∨ (b9 = 146 ∧ k9 = 6) ∨ b9 = 148 ∨ b9 = 157 ∨ b9 = 158) M1 M) := by
  refine s_anyQ (by decide) (Nat.le_of_ble_eq_true rfl) ?_
  intro p e s m args below meth c ls Q F hr hlocks hQ w hl
  have F : CallFix p m c cX12_orders 5 s args TB RX12 := F
  have hx := F.1
  have hb := F.2.1
  have hl : lv_has ls 5 [(0, .ref (B + 146)), (1, .int (zI x))] := hl
  have hF : Fr (fun b9 k9 => (b9 = 146 ∧ k9 = 25) ∨ (b9 = 146 ∧ k9 = 3) ∨ (b9 = 146 ∧ k9 = 6) ∨ b9 = 148 ∨ b9 = 157 ∨ b9 = 158) M M := Fr.rf
  refine lv_iload_n hx hb dX12_orders_0 rfl (lv_at hl 1 rfl) ?_
  refine lv_iconst (v := zI 0) hx hb dX12_orders_1 rfl ?_
  refine lv_iconst (v := zI 1) hx hb dX12_orders_2 rfl ?_
  refine k_Si F w (As := [.int (zI x), .int (zI 0), .int (zI 1)]) (rest := []) (q_X12_in (x := x) ⟨by omega, by omega⟩ (x1 := 0) ⟨by omega, by omega⟩ (x2 := 1) ⟨by omega, by omega⟩  hI) gs_X12_55 hs_X12_in ⟨(Nat.le_of_ble_eq_true rfl), (Nat.le_of_ble_eq_true rfl)⟩ hl.1 rfl (Nat.le_of_ble_eq_true rfl) ⟨Nat.zero_le _, Nat.zero_le _⟩ dX12_orders_3 (fun r1 N2 H locs hp w => ?_)
  obtain ⟨z3, rfl, bz3, xz3, hMN2⟩ := hp
  rw [hMN2] at w
  refine z_if_ne (tgt := 11) hx hb (by omega) dX12_orders_6 (by decide) (fun c4 => ?_) (fun c4 => ?_)
  · refine lv_aload_n hx hb dX12_orders_11 rfl (lv_at hl 0 rfl) ?_
    refine f_12_5 F w (a := 146) rfl tb_604 dX12_orders_12 ?_
    refine r_val (v := zI rn) (hgrn) ?_
    refine lv_bipush (v := zI 6) hx hb dX12_orders_15 (by decide) ?_
    refine z_icmp_le (tgt := 23) hx hb (by omega) (by omega) dX12_orders_17 (by decide) (fun c5 => ?_) (fun c5 => ?_)
    · refine lv_aload_n hx hb dX12_orders_23 rfl (lv_at hl 0 rfl) ?_
      refine k_Vv F w (As := []) (rest := []) (a := 146) (kd_lt (a := 146) (show kd 146 = (12, 0, 0) from rfl) (by decide)) (sh_12 rfl _ _) rfl (q_X12_laysDue   hI) gv_X12_303 hv_X12_laysDue ⟨(Nat.le_of_ble_eq_true rfl), (Nat.le_of_ble_eq_true rfl)⟩ hl.1 rfl (Nat.le_of_ble_eq_true rfl) ⟨Nat.zero_le _, Nat.zero_le _⟩ dX12_orders_24 (fun N7 H locs hp w => ?_)
      obtain ⟨hIN7, hFN7⟩ := hp
      have hGN7 := Fr.tr hF hFN7 (S := (fun b9 k9 => (b9 = 146 ∧ k9 = 25) ∨ (b9 = 146 ∧ k9 = 3) ∨ (b9 = 146 ∧ k9 = 6) ∨ b9 = 148 ∨ b9 = 157 ∨ b9 = 158)) (fun b k h => by (try dsimp only at h ⊢); rcases h with ⟨rfl, rfl⟩ | ⟨rfl, rfl⟩ | rfl | rfl <;> first | decide | omega)
      have kn9 : N7.1 146 5 = zI rn := (hFN7 146 5 (by first | decide | (dsimp only; first | done | decide | omega) | omega)).trans (hgrn)
      refine lv_iconst (v := zI 1) hx hb dX12_orders_27 rfl ?_
      refine lv_istore_n (lv' := [(2, .int (zI 1)), (0, .ref (B + 146)), (1, .int (zI x))]) hx hb dX12_orders_28 rfl hl (by decide) rfl (fun ls hl => ?_)
      refine lv_iconst (v := zI 2) hx hb dX12_orders_29 rfl ?_
      refine lv_istore_n (lv' := [(3, .int (zI 2)), (2, .int (zI 1)), (0, .ref (B + 146)), (1, .int (zI x))]) hx hb dX12_orders_30 rfl hl (by decide) rfl (fun ls hl => ?_)
      have hf19 : fct (2 - 1) = 1 := rfl
      have lp31 : ∀ (f : Nat) (v3_31 : Int) (v2_31 : Int), (2 ≤ v3_31 ∧ v3_31 ≤ 7) → (1 ≤ v2_31 ∧ v2_31 ≤ 720) → (v2_31 = fct (v3_31 - 1)) → (Int.toNat (7 - v3_31) < f) → ∀ (H : Heap) (locs : List Loc) (ls : Array Slot), Wd D B cy s s.heap N7 H locs → lv_has ls 5 [(3, .int (zI v3_31)), (2, .int (zI v2_31)), (0, .ref (B + 146)), (1, .int (zI x))] → W p l e (rmm 10 233) s m args below meth c H locs 0 0 Q (F0 m 31 ls []) := by
        intro f
        induction f with
        | zero => intros; omega
        | succ f ih31 =>
          intro v3_31 v2_31  iv3_31 iv2_31 y31_0 hf31 H locs ls w hl
          refine lv_iload_n hx hb dX12_orders_31 rfl (lv_at hl 0 rfl) ?_
          refine lv_aload_n hx hb dX12_orders_32 rfl (lv_at hl 2 rfl) ?_
          refine f_12_5 F w (a := 146) rfl tb_604 dX12_orders_33 ?_
          refine r_val (v := zI rn) (kn9) ?_
          refine z_icmp_gt (tgt := 49) hx hb (by omega) (by omega) dX12_orders_36 (by decide) (fun c10 => ?_) (fun c10 => ?_)
          · refine lv_iconst (v := zI 0) hx hb dX12_orders_49 rfl ?_
            refine lv_istore_n (lv' := [(3, .int (zI 0)), (2, .int (zI v2_31)), (0, .ref (B + 146)), (1, .int (zI x))]) hx hb dX12_orders_50 rfl hl (by decide) rfl (fun ls hl => ?_)
            refine lv_aload_n hx hb dX12_orders_51 rfl (lv_at hl 2 rfl) ?_
            refine lv_iconst (v := zI 0) hx hb dX12_orders_52 rfl ?_
            refine u_12_25 F w (a := 146) rfl tb_695 dX12_orders_53 (fun H locs w => ?_)
            refine lv_iconst (v := zI 0) hx hb dX12_orders_56 rfl ?_
            refine lv_istore (lv' := [(4, .int (zI 0)), (3, .int (zI 0)), (2, .int (zI v2_31)), (0, .ref (B + 146)), (1, .int (zI x))]) hx hb dX12_orders_57 hl (by decide) rfl (fun ls hl => ?_)
            have lp59 : ∀ (f : Nat) (v4_59 : Int) (v3_59 : Int) (g146_25_59 : Int) (NL59 : Mem), (0 ≤ v4_59 ∧ v4_59 ≤ 720) → ((-2147483648) ≤ v3_59 ∧ v3_59 ≤ 2147483647) → (0 ≤ g146_25_59 ∧ g146_25_59 ≤ 720) → NL59.1 146 25 = zI g146_25_59 → NL59.1 146 5 = zI rn → (g146_25_59 ≤ v4_59 ∧ v3_59 ≤ v4_59) → IvR NL59 → Fr (fun b9 k9 => (b9 = 146 ∧ k9 = 25) ∨ (b9 = 146 ∧ k9 = 3) ∨ (b9 = 146 ∧ k9 = 6) ∨ b9 = 148 ∨ b9 = 157 ∨ b9 = 158) NL59 M → (Int.toNat (v2_31 - v4_59) < f) → ∀ (H : Heap) (locs : List Loc) (ls : Array Slot), Wd D B cy s s.heap NL59 H locs → lv_has ls 5 [(4, .int (zI v4_59)), (3, .int (zI v3_59)), (2, .int (zI v2_31)), (0, .ref (B + 146)), (1, .int (zI x))] → W p l e (rmm 10 233) s m args below meth c H locs 0 0 Q (F0 m 59 ls []) := by
              intro f
              induction f with
              | zero => intros; omega
              | succ f ih59 =>
                intro v4_59 v3_59 g146_25_59 NL59 iv4_59 iv3_59 ig146_25_59 eg146_25_59 eg146_5_59 y59_0 hIL59 hFL59 hf59 H locs ls w hl
                refine lv_iload hx hb dX12_orders_59 (lv_at hl 0 rfl) ?_
                refine lv_iload_n hx hb dX12_orders_61 rfl (lv_at hl 2 rfl) ?_
                refine z_icmp_ge (tgt := 91) hx hb (by omega) (by omega) dX12_orders_62 (by decide) (fun c11 => ?_) (fun c11 => ?_)
                · refine lv_iload_n hx hb dX12_orders_91 rfl (lv_at hl 4 rfl) ?_
                  refine z_if_ne (tgt := 102) hx hb (by omega) dX12_orders_92 (by decide) (fun c12 => ?_) (fun c12 => ?_)
                  · refine lv_iload_n hx hb dX12_orders_102 rfl (lv_at hl 1 rfl) ?_
                    rw [hQ]
                    exact e_i F w hr hlocks ⟨_, rfl, ⟨by omega, by omega⟩, hIL59, hFL59⟩ dX12_orders_103
                  · refine lv_aload_n hx hb dX12_orders_95 rfl (lv_at hl 3 rfl) ?_
                    refine f_12_25 F w (a := 146) rfl tb_695 dX12_orders_96 ?_
                    refine r_val (v := zI g146_25_59) (eg146_25_59) ?_
                    refine lv_goto (tgt := 103) hx hb dX12_orders_99 (by decide) ?_
                    rw [hQ]
                    exact e_i F w hr hlocks ⟨_, rfl, ⟨by omega, by omega⟩, hIL59, hFL59⟩ dX12_orders_103
                · refine lv_aload_n hx hb dX12_orders_65 rfl (lv_at hl 3 rfl) ?_
                  refine lv_iload hx hb dX12_orders_66 (lv_at hl 0 rfl) ?_
                  refine k_Vv F w (As := [.int (zI v4_59)]) (rest := []) (a := 146) (kd_lt (a := 146) (show kd 146 = (12, 0, 0) from rfl) (by decide)) (sh_12 rfl _ _) rfl (q_X12_worksOrder (x := v4_59) ⟨by omega, by omega⟩ (rn := rn) (eg146_5_59) ⟨by omega, by omega⟩ (by omega) hIL59) gv_X12_312 hv_X12_worksOrder ⟨(Nat.le_of_ble_eq_true rfl), (Nat.le_of_ble_eq_true rfl)⟩ hl.1 rfl (Nat.le_of_ble_eq_true rfl) ⟨Nat.zero_le _, Nat.zero_le _⟩ dX12_orders_68 (fun N14 H locs hp w => ?_)
                  obtain ⟨hIN14, hFN14⟩ := hp
                  have hGN14 := Fr.tr hFL59 hFN14 (S := (fun b9 k9 => (b9 = 146 ∧ k9 = 25) ∨ (b9 = 146 ∧ k9 = 3) ∨ (b9 = 146 ∧ k9 = 6) ∨ b9 = 148 ∨ b9 = 157 ∨ b9 = 158)) (fun b k h => by (try dsimp only at h ⊢); rcases h with ⟨rfl, rfl⟩ | ⟨rfl, rfl⟩ | rfl <;> first | decide | omega)
                  have kn16 : N14.1 146 25 = zI g146_25_59 := (hFN14 146 25 (by first | decide | (dsimp only; first | done | decide | omega) | omega)).trans (eg146_25_59)
                  have kn17 : N14.1 146 5 = zI rn := (hFN14 146 5 (by first | decide | (dsimp only; first | done | decide | omega) | omega)).trans (eg146_5_59)
                  refine lv_aload_n hx hb dX12_orders_71 rfl (lv_at hl 3 rfl) ?_
                  refine k_Vi F w (As := []) (rest := []) (a := 146) (kd_lt (a := 146) (show kd 146 = (12, 0, 0) from rfl) (by decide)) (sh_12 rfl _ _) rfl (q_X12_isDue   hIN14) gv_X12_306 hv_X12_isDue ⟨(Nat.le_of_ble_eq_true rfl), (Nat.le_of_ble_eq_true rfl)⟩ hl.1 rfl (Nat.le_of_ble_eq_true rfl) ⟨Nat.zero_le _, Nat.zero_le _⟩ dX12_orders_72 (fun r18 N19 H locs hp w => ?_)
                  obtain ⟨z20, rfl, bz20, hMN19⟩ := hp
                  rw [hMN19] at w
                  refine z_if_eq (tgt := 81) hx hb (by omega) dX12_orders_75 (by decide) (fun c21 => ?_) (fun c21 => ?_)
                  · refine lv_aload_n hx hb dX12_orders_81 rfl (lv_at hl 3 rfl) ?_
                    refine k_Vv F w (As := []) (rest := []) (a := 146) (kd_lt (a := 146) (show kd 146 = (12, 0, 0) from rfl) (by decide)) (sh_12 rfl _ _) rfl (q_X12_collects (rm := g146_25_59) (kn16) ⟨by omega, by omega⟩ (by omega) hIN14) gv_X12_315 hv_X12_collects ⟨(Nat.le_of_ble_eq_true rfl), (Nat.le_of_ble_eq_true rfl)⟩ hl.1 rfl (Nat.le_of_ble_eq_true rfl) ⟨Nat.zero_le _, Nat.zero_le _⟩ dX12_orders_82 (fun N23 H locs hp w => ?_)
                    obtain ⟨⟨nz240, enz240, xz24⟩, hIN23, hFN23⟩ := hp
                    have hGN23 := Fr.tr hGN14 hFN23 (S := (fun b9 k9 => (b9 = 146 ∧ k9 = 25) ∨ (b9 = 146 ∧ k9 = 3) ∨ (b9 = 146 ∧ k9 = 6) ∨ b9 = 148 ∨ b9 = 157 ∨ b9 = 158)) (fun b k h => by (try dsimp only at h ⊢); rcases h with ⟨rfl, rfl⟩ | rfl <;> first | decide | omega)
                    have kn25 : N23.1 146 5 = zI rn := (hFN23 146 5 (by first | decide | (dsimp only; first | done | decide | omega) | omega)).trans (kn17)
                    refine z_iinc (v := (v4_59 + 1)) (lv' := [(4, .int (zI (v4_59 + 1))), (3, .int (zI v3_59)), (2, .int (zI v2_31)), (0, .ref (B + 146)), (1, .int (zI x))]) hx hb dX12_orders_85 hl (k := 0) rfl (by omega) (by decide) rfl (fun ls hl => ?_)
                    refine lv_goto (tgt := 59) hx hb dX12_orders_88 (by decide) ?_
                    exact ih59 (v4_59 + 1) v3_59 nz240 N23 (by omega) (by omega) (by omega) (enz240) (kn25) (by omega) hIN23 hGN23 (by omega) _ _ _ w (lv_sub hl [0, 1, 2, 3, 4] rfl)
                  · obtain ⟨z26, bz26, x0z26, ez26⟩ := add_ex v3_59 1
                    refine lv_iinc (v := zI z26) (lv' := [(3, .int (zI z26)), (4, .int (zI v4_59)), (2, .int (zI v2_31)), (0, .ref (B + 146)), (1, .int (zI x))]) hx hb dX12_orders_78 hl (k := 1) rfl (by first | exact ez26 | (rw [← ez26]; rfl)) (by decide) rfl (fun ls hl => ?_)
                    refine lv_aload_n hx hb dX12_orders_81 rfl (lv_at hl 3 rfl) ?_
                    refine k_Vv F w (As := []) (rest := []) (a := 146) (kd_lt (a := 146) (show kd 146 = (12, 0, 0) from rfl) (by decide)) (sh_12 rfl _ _) rfl (q_X12_collects (rm := g146_25_59) (kn16) ⟨by omega, by omega⟩ (by omega) hIN14) gv_X12_315 hv_X12_collects ⟨(Nat.le_of_ble_eq_true rfl), (Nat.le_of_ble_eq_true rfl)⟩ hl.1 rfl (Nat.le_of_ble_eq_true rfl) ⟨Nat.zero_le _, Nat.zero_le _⟩ dX12_orders_82 (fun N28 H locs hp w => ?_)
                    obtain ⟨⟨nz290, enz290, xz29⟩, hIN28, hFN28⟩ := hp
                    have hGN28 := Fr.tr hGN14 hFN28 (S := (fun b9 k9 => (b9 = 146 ∧ k9 = 25) ∨ (b9 = 146 ∧ k9 = 3) ∨ (b9 = 146 ∧ k9 = 6) ∨ b9 = 148 ∨ b9 = 157 ∨ b9 = 158)) (fun b k h => by (try dsimp only at h ⊢); rcases h with ⟨rfl, rfl⟩ | rfl <;> first | decide | omega)
                    have kn30 : N28.1 146 5 = zI rn := (hFN28 146 5 (by first | decide | (dsimp only; first | done | decide | omega) | omega)).trans (kn17)
                    refine z_iinc (v := (v4_59 + 1)) (lv' := [(4, .int (zI (v4_59 + 1))), (3, .int (zI z26)), (2, .int (zI v2_31)), (0, .ref (B + 146)), (1, .int (zI x))]) hx hb dX12_orders_85 hl (k := 1) rfl (by omega) (by decide) rfl (fun ls hl => ?_)
                    refine lv_goto (tgt := 59) hx hb dX12_orders_88 (by decide) ?_
                    exact ih59 (v4_59 + 1) z26 nz290 N28 (by omega) (by omega) (by omega) (enz290) (kn30) (by omega) hIN28 hGN28 (by omega) _ _ _ w (lv_sub hl [0, 1, 2, 3, 4] rfl)
            exact lp59 _ 0 0 0 (st N7 146 25 (zI 0)) (by omega) (by omega) (by omega) (st_at) ((st_ne (Or.inr (by decide))).trans kn9) (by omega) (IvR.to hIN7 (a := 146) (k := 25) (x := 0) (show ivr 146 25 = (0, 720) from rfl) ⟨by omega, by omega⟩ ⟨by decide, by decide, by decide, fun q9 => absurd q9 (by decide)⟩) (Fr.to hGN7 (by first | decide | (dsimp only; first | done | decide | omega) | omega)) (Nat.lt_succ_self _) _ _ _ w (lv_sub hl [0, 1, 2, 3, 4] rfl)
          · refine lv_iload_n hx hb dX12_orders_39 rfl (lv_at hl 1 rfl) ?_
            refine lv_iload_n hx hb dX12_orders_40 rfl (lv_at hl 0 rfl) ?_
            refine lv_imul hx hb dX12_orders_41 ?_
            have hfc9 := fc_mul (a := v2_31) (k := v3_31) (by omega) (by omega)
            refine r_val hfc9.2.2 ?_
            have hfe9 : fct ((v3_31 + 1) - 1) = fct v3_31 := congrArg fct (by omega)
            refine lv_istore_n (lv' := [(2, .int (zI (fct v3_31))), (3, .int (zI v3_31)), (0, .ref (B + 146)), (1, .int (zI x))]) hx hb dX12_orders_42 rfl hl (by decide) rfl (fun ls hl => ?_)
            refine z_iinc (v := (v3_31 + 1)) (lv' := [(3, .int (zI (v3_31 + 1))), (2, .int (zI (fct v3_31))), (0, .ref (B + 146)), (1, .int (zI x))]) hx hb dX12_orders_43 hl (k := 1) rfl (by omega) (by decide) rfl (fun ls hl => ?_)
            refine lv_goto (tgt := 31) hx hb dX12_orders_46 (by decide) ?_
            exact ih31 (v3_31 + 1) (fct v3_31) (by omega) (by omega)   (by omega)  (by omega) _ _ _ w (lv_sub hl [0, 1, 2, 3] rfl)
      exact lp31 _ 2 1 (by omega) (by omega) (by omega) (Nat.lt_succ_self _) _ _ _ w (lv_sub hl [0, 1, 2, 3] rfl)
    · refine lv_bipush (v := zI (-2)) hx hb dX12_orders_20 (by decide) ?_
      rw [hQ]
      exact e_i F w hr hlocks ⟨_, rfl, ⟨by omega, by omega⟩, hI, hF⟩ dX12_orders_22
  · refine lv_iconst (v := zI (-1)) hx hb dX12_orders_9 rfl ?_
    rw [hQ]
    exact e_i F w hr hlocks ⟨_, rfl, ⟨by omega, by omega⟩, hI, hF⟩ dX12_orders_10
