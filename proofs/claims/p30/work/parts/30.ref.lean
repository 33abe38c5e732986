-- the words of the reference, one behind the other: where each begins, where its 0 stands
def wpT : List Nat := [0, 6, 11, 18, 24, 28, 33, 38, 43, 48, 53, 58, 62, 66, 71, 75, 81, 86, 92, 97, 100, 103, 107, 113, 117, 123, 128, 134, 141, 147]
def weT : List Nat := [5, 10, 17, 23, 27, 32, 37, 42, 47, 52, 57, 61, 65, 70, 74, 80, 85, 91, 96, 99, 102, 106, 112, 116, 122, 127, 133, 140, 146]
def wdN : List Nat := [97, 103, 97, 105, 110, 0, 108, 105, 110, 107, 0, 115, 112, 114, 101, 97, 100, 0, 115, 104, 105, 102, 116, 0, 99, 117, 116, 0, 100, 111, 99, 107, 0, 100, 114, 111, 112, 0, 102, 117, 115, 101, 0, 116, 117, 114, 110, 0, 102, 108, 97, 116, 0, 102, 105, 108, 108, 0, 108, 111, 119, 0, 109, 105, 100, 0, 104, 105, 103, 104, 0, 97, 110, 121, 0, 114, 105, 103, 104, 116, 0, 108, 101, 102, 116, 0, 102, 105, 114, 115, 116, 0, 108, 97, 115, 116, 0, 116, 111, 0, 105, 102, 0, 110, 111, 116, 0, 98, 101, 103, 105, 110, 0, 101, 110, 100, 0, 104, 101, 97, 118, 121, 0, 109, 97, 110, 121, 0, 102, 108, 111, 97, 116, 0, 98, 101, 102, 111, 114, 101, 0, 97, 102, 116, 101, 114, 0]
def wpos (w : Int) : Int := ((wpT.getD w.toNat 0 : Nat) : Int)
def wend (w : Int) : Int := ((weT.getD w.toNat 0 : Nat) : Int)
theorem wd_N : ∀ k : Nat, k < 147 → wdT.getD k 0 = ((wdN.getD k 0 : Nat) : Int) ∧ wdN.getD k 0 ≤ 127 := by decide +kernel
theorem w_nat1 : ∀ w : Nat, w < 29 → (wpT.getD w 0 ≤ weT.getD w 0 ∧ weT.getD w 0 ≤ 146 ∧ weT.getD w 0 ≤ wpT.getD w 0 + 9) ∧ wpT.getD (w + 1) 0 = weT.getD w 0 + 1 := by decide +kernel
theorem w_nat2 : ∀ w : Nat, w < 29 → ∀ j : Nat, j < 10 → weT.getD w 0 < wpT.getD w 0 + j ∨ ((wdN.getD (wpT.getD w 0 + j) 0 ≠ 0 ∨ wpT.getD w 0 + j = weT.getD w 0) ∧ (wdN.getD (wpT.getD w 0 + j) 0 = 0 ∨ wpT.getD w 0 + j < weT.getD w 0)) := by decide +kernel
theorem w_rg {w : Int} (h : 0 ≤ w ∧ w < 29) : (0 ≤ wpos w ∧ wpos w ≤ wend w ∧ wend w ≤ 146) ∧ wpos (w + 1) = wend w + 1 := by
  have := w_nat1 w.toNat (by omega)
  unfold wpos wend
  rw [show (w + 1).toNat = w.toNat + 1 by omega]
  omega
theorem wd_ld {M : Mem} (hI : IvR M) {w k : Int} (hw : 0 ≤ w ∧ w < 29) (hk : wpos w ≤ k ∧ k ≤ wend w) : ∃ z : Int, (-128 ≤ z ∧ z ≤ 127) ∧ (z ≠ 0 ∨ k = wend w) ∧ (z = 0 ∨ k < wend w) ∧ M.1 152 (Int.toNat k) = zI z := by
  unfold wpos wend at *
  have h1 := w_nat1 w.toNat (by omega)
  have h2 := w_nat2 w.toNat (by omega) (k.toNat - wpT.getD w.toNat 0) (by omega)
  rw [show wpT.getD w.toNat 0 + (k.toNat - wpT.getD w.toNat 0) = k.toNat by omega] at h2
  have h3 := wd_N k.toNat (by omega)
  have h4 := hI.2.2 k.toNat (by omega)
  rw [h3.1] at h4
  exact ⟨_, by omega, by omega, by omega, h4⟩
theorem dX12_wordAt_0 : decode cX12_wordAt 0 = .ok (.iconst 0, 1) := rdX12_wordAt_0
theorem dX12_wordAt_1 : decode cX12_wordAt 1 = .ok (.istore_n 3, 1) := rdX12_wordAt_1
theorem dX12_wordAt_2 : decode cX12_wordAt 2 = .ok (.iconst 0, 1) := rdX12_wordAt_2
theorem dX12_wordAt_3 : decode cX12_wordAt 3 = .ok (.istore 4, 2) := rdX12_wordAt_3
theorem dX12_wordAt_5 : decode cX12_wordAt 5 = .ok (.iload 4, 2) := rdX12_wordAt_5
theorem dX12_wordAt_7 : decode cX12_wordAt 7 = .ok (.bipush 29, 2) := rdX12_wordAt_7
theorem dX12_wordAt_9 : decode cX12_wordAt 9 = .ok (.if_icmp .ge 90, 3) := rdX12_wordAt_9
theorem dX12_wordAt_12 : decode cX12_wordAt 12 = .ok (.iconst 0, 1) := rdX12_wordAt_12
theorem dX12_wordAt_13 : decode cX12_wordAt 13 = .ok (.istore 5, 2) := rdX12_wordAt_13
theorem dX12_wordAt_15 : decode cX12_wordAt 15 = .ok (.iconst 1, 1) := rdX12_wordAt_15
theorem dX12_wordAt_16 : decode cX12_wordAt 16 = .ok (.istore 6, 2) := rdX12_wordAt_16
theorem dX12_wordAt_18 : decode cX12_wordAt 18 = .ok (.aload_n 0, 1) := rdX12_wordAt_18
theorem dX12_wordAt_19 : decode cX12_wordAt 19 = .ok (.getfield 29, 3) := rdX12_wordAt_19
theorem tb_664 : Cond.fieldLink "ToneLinesModel" 29 "ToneLinesModel" "words" "[B" ∈ TB := rtb_126
theorem dX12_wordAt_22 : decode cX12_wordAt 22 = .ok (.iload_n 3, 1) := rdX12_wordAt_22
theorem dX12_wordAt_23 : decode cX12_wordAt 23 = .ok (.baload, 1) := rdX12_wordAt_23
theorem dX12_wordAt_24 : decode cX12_wordAt 24 = .ok (.ifCond .eq 50, 3) := rdX12_wordAt_24
theorem dX12_wordAt_74 : decode cX12_wordAt 74 = .ok (.iinc 3 1, 3) := rdX12_wordAt_74
theorem dX12_wordAt_77 : decode cX12_wordAt 77 = .ok (.iload 6, 2) := rdX12_wordAt_77
theorem dX12_wordAt_79 : decode cX12_wordAt 79 = .ok (.ifCond .eq 14, 3) := rdX12_wordAt_79
theorem dX12_wordAt_82 : decode cX12_wordAt 82 = .ok (.iload_n 1, 1) := rdX12_wordAt_82
theorem dX12_wordAt_83 : decode cX12_wordAt 83 = .ok (.iload 5, 2) := rdX12_wordAt_83
theorem dX12_wordAt_85 : decode cX12_wordAt 85 = .ok (.iadd, 1) := rdX12_wordAt_85
theorem dX12_wordAt_86 : decode cX12_wordAt 86 = .ok (.iload_n 2, 1) := rdX12_wordAt_86
theorem dX12_wordAt_87 : decode cX12_wordAt 87 = .ok (.if_icmp .ne 6, 3) := rdX12_wordAt_87
theorem dX12_wordAt_93 : decode cX12_wordAt 93 = .ok (.iinc 4 1, 3) := rdX12_wordAt_93
theorem dX12_wordAt_96 : decode cX12_wordAt 96 = .ok (.goto (-91), 3) := rdX12_wordAt_96
theorem dX12_wordAt_90 : decode cX12_wordAt 90 = .ok (.iload 4, 2) := rdX12_wordAt_90
theorem dX12_wordAt_92 : decode cX12_wordAt 92 = .ok (.ireturn, 1) := rdX12_wordAt_92
theorem dX12_wordAt_27 : decode cX12_wordAt 27 = .ok (.iload 6, 2) := rdX12_wordAt_27
theorem dX12_wordAt_29 : decode cX12_wordAt 29 = .ok (.ifCond .eq 33, 3) := rdX12_wordAt_29
theorem dX12_wordAt_32 : decode cX12_wordAt 32 = .ok (.iload_n 1, 1) := rdX12_wordAt_32
theorem dX12_wordAt_33 : decode cX12_wordAt 33 = .ok (.iload 5, 2) := rdX12_wordAt_33
theorem dX12_wordAt_35 : decode cX12_wordAt 35 = .ok (.iadd, 1) := rdX12_wordAt_35
theorem dX12_wordAt_36 : decode cX12_wordAt 36 = .ok (.iload_n 2, 1) := rdX12_wordAt_36
theorem dX12_wordAt_37 : decode cX12_wordAt 37 = .ok (.if_icmp .ge 25, 3) := rdX12_wordAt_37
theorem dX12_wordAt_62 : decode cX12_wordAt 62 = .ok (.iconst 0, 1) := rdX12_wordAt_62
theorem dX12_wordAt_63 : decode cX12_wordAt 63 = .ok (.istore 6, 2) := rdX12_wordAt_63
theorem dX12_wordAt_65 : decode cX12_wordAt 65 = .ok (.iinc 5 1, 3) := rdX12_wordAt_65
theorem dX12_wordAt_68 : decode cX12_wordAt 68 = .ok (.iinc 3 1, 3) := rdX12_wordAt_68
theorem dX12_wordAt_71 : decode cX12_wordAt 71 = .ok (.goto (-53), 3) := rdX12_wordAt_71
theorem dX12_wordAt_40 : decode cX12_wordAt 40 = .ok (.aload_n 0, 1) := rdX12_wordAt_40
theorem dX12_wordAt_41 : decode cX12_wordAt 41 = .ok (.getfield 23, 3) := rdX12_wordAt_41
theorem dX12_wordAt_44 : decode cX12_wordAt 44 = .ok (.iload_n 1, 1) := rdX12_wordAt_44
theorem dX12_wordAt_45 : decode cX12_wordAt 45 = .ok (.iload 5, 2) := rdX12_wordAt_45
theorem dX12_wordAt_47 : decode cX12_wordAt 47 = .ok (.iadd, 1) := rdX12_wordAt_47
theorem dX12_wordAt_48 : decode cX12_wordAt 48 = .ok (.iaload, 1) := rdX12_wordAt_48
theorem dX12_wordAt_49 : decode cX12_wordAt 49 = .ok (.aload_n 0, 1) := rdX12_wordAt_49
theorem dX12_wordAt_50 : decode cX12_wordAt 50 = .ok (.getfield 29, 3) := rdX12_wordAt_50
theorem dX12_wordAt_53 : decode cX12_wordAt 53 = .ok (.iload_n 3, 1) := rdX12_wordAt_53
theorem dX12_wordAt_54 : decode cX12_wordAt 54 = .ok (.baload, 1) := rdX12_wordAt_54
theorem dX12_wordAt_55 : decode cX12_wordAt 55 = .ok (.if_icmp .ne 7, 3) := rdX12_wordAt_55
theorem dX12_wordAt_58 : decode cX12_wordAt 58 = .ok (.iconst 1, 1) := rdX12_wordAt_58
theorem dX12_wordAt_59 : decode cX12_wordAt 59 = .ok (.goto 4, 3) := rdX12_wordAt_59
theorem dX12_wordAt_99 : decode cX12_wordAt 99 = .ok (.bipush 29, 2) := rdX12_wordAt_99
theorem dX12_wordAt_101 : decode cX12_wordAt 101 = .ok (.ireturn, 1) := rdX12_wordAt_101
set_option maxRecDepth 4000 in
theorem q_X12_wordAt {l : Launch} {D : va_G} {B : Nat} {cy : Nat → ClassId} {M : Mem} {x : Int} (hx : 0 ≤ x ∧ x ≤ 300) {x1 : Int} (hx1 : 0 ≤ x1 ∧ x1 ≤ 300) (hI : IvR M) : Ci l D B cy yX12_wordAt cX12_wordAt 7 (some .int) 0 0 [.ref (B + 146), .int (zI x), .int (zI x1)] M (fun r M1 => ∃ z : Int, r = zI z ∧ (0 ≤ z ∧ z ≤ 29) ∧ M1 = M) := by
  refine s_anyQ (by decide) (Nat.le_of_ble_eq_true rfl) ?_
  intro p e s m args below meth c ls Q F hr hlocks hQ w hl
  have F : CallFix p m c cX12_wordAt 7 s args TB RX12 := F
  have hx := F.1
  have hb := F.2.1
  have hl : lv_has ls 7 [(0, .ref (B + 146)), (1, .int (zI x)), (2, .int (zI x1))] := hl
  refine lv_iconst (v := zI 0) hx hb dX12_wordAt_0 rfl ?_
  refine lv_istore_n (lv' := [(3, .int (zI 0)), (0, .ref (B + 146)), (1, .int (zI x)), (2, .int (zI x1))]) hx hb dX12_wordAt_1 rfl hl (by decide) rfl (fun ls hl => ?_)
  refine lv_iconst (v := zI 0) hx hb dX12_wordAt_2 rfl ?_
  refine lv_istore (lv' := [(4, .int (zI 0)), (3, .int (zI 0)), (0, .ref (B + 146)), (1, .int (zI x)), (2, .int (zI x1))]) hx hb dX12_wordAt_3 hl (by decide) rfl (fun ls hl => ?_)
  have hw0 : wpos 0 = 0 := rfl
  have lp5 : ∀ (f : Nat) (v4_5 : Int) (v3_5 : Int), (0 ≤ v4_5 ∧ v4_5 ≤ 63) → ((-2147483648) ≤ v3_5 ∧ v3_5 ≤ 2147483647) → (v3_5 = wpos v4_5) → (Int.toNat (29 - v4_5) < f) → ∀ (H : Heap) (locs : List Loc) (ls : Array Slot), Wd D B cy s s.heap M H locs → lv_has ls 7 [(4, .int (zI v4_5)), (3, .int (zI v3_5)), (0, .ref (B + 146)), (1, .int (zI x)), (2, .int (zI x1))] → W p l e (rmm 0 0) s m args below meth c H locs 0 0 Q (F0 m 5 ls []) := by
    intro f
    induction f with
    | zero => intros; omega
    | succ f ih5 =>
      intro v4_5 v3_5  iv4_5 iv3_5 y5_0 hf5 H locs ls w hl
      refine lv_iload hx hb dX12_wordAt_5 (lv_at hl 0 rfl) ?_
      refine lv_bipush (v := zI 29) hx hb dX12_wordAt_7 (by decide) ?_
      refine z_icmp_ge (tgt := 99) hx hb (by omega) (by omega) dX12_wordAt_9 (by decide) (fun c1 => ?_) (fun c1 => ?_)
      · refine lv_bipush (v := zI 29) hx hb dX12_wordAt_99 (by decide) ?_
        rw [hQ]
        exact e_i F w hr hlocks ⟨_, rfl, ⟨by omega, by omega⟩, rfl⟩ dX12_wordAt_101
      · refine lv_iconst (v := zI 0) hx hb dX12_wordAt_12 rfl ?_
        refine lv_istore (lv' := [(5, .int (zI 0)), (4, .int (zI v4_5)), (3, .int (zI v3_5)), (0, .ref (B + 146)), (1, .int (zI x)), (2, .int (zI x1))]) hx hb dX12_wordAt_13 hl (by decide) rfl (fun ls hl => ?_)
        have hwr := w_rg (w := v4_5) (by omega)
        refine lv_iconst (v := zI 1) hx hb dX12_wordAt_15 rfl ?_
        refine lv_istore (lv' := [(6, .int (zI 1)), (5, .int (zI 0)), (4, .int (zI v4_5)), (3, .int (zI v3_5)), (0, .ref (B + 146)), (1, .int (zI x)), (2, .int (zI x1))]) hx hb dX12_wordAt_16 hl (by decide) rfl (fun ls hl => ?_)
        have lp18 : ∀ (f : Nat) (v6_18 : Int) (v5_18 : Int) (v3_18 : Int), (0 ≤ v6_18 ∧ v6_18 ≤ 1) → ((-2147483648) ≤ v5_18 ∧ v5_18 ≤ 2147483647) → ((-2147483648) ≤ v3_18 ∧ v3_18 ≤ 2147483647) → (wpos v4_5 ≤ v3_18 ∧ v3_18 ≤ wend v4_5) → (0 ≤ v5_18 ∧ v5_18 ≤ v3_18) → (Int.toNat (147 - v3_18) < f) → ∀ (H : Heap) (locs : List Loc) (ls : Array Slot), Wd D B cy s s.heap M H locs → lv_has ls 7 [(6, .int (zI v6_18)), (5, .int (zI v5_18)), (4, .int (zI v4_5)), (3, .int (zI v3_18)), (0, .ref (B + 146)), (1, .int (zI x)), (2, .int (zI x1))] → W p l e (rmm 0 0) s m args below meth c H locs 0 0 Q (F0 m 18 ls []) := by
          intro f
          induction f with
          | zero => intros; omega
          | succ f ih18 =>
            intro v6_18 v5_18 v3_18  iv6_18 iv5_18 iv3_18 y18_0 y18_1 hf18 H locs ls w hl
            refine lv_aload_n hx hb dX12_wordAt_18 rfl (lv_at hl 4 rfl) ?_
            refine f_12_12 F w (a := 146) rfl tb_664 dX12_wordAt_19 ?_
            refine lv_iload_n hx hb dX12_wordAt_22 rfl (lv_at hl 3 rfl) ?_
            refine g_bald F w (a := 152) rfl (j := (Int.toNat v3_18)) (ix_z (by omega) (by omega)) (by omega) dX12_wordAt_23 ?_
            obtain ⟨z2, bz2, x0z2, x1z2, ez2⟩ := wd_ld hI (w := v4_5) (by omega) (k := v3_18) (by omega)
            refine r_val ez2 ?_
            refine z_if_eq (tgt := 74) hx hb (by omega) dX12_wordAt_24 (by decide) (fun c3 => ?_) (fun c3 => ?_)
            · obtain ⟨z4, bz4, x0z4, ez4⟩ := add_ex v3_18 1
              refine lv_iinc (v := zI z4) (lv' := [(3, .int (zI z4)), (6, .int (zI v6_18)), (5, .int (zI v5_18)), (4, .int (zI v4_5)), (0, .ref (B + 146)), (1, .int (zI x)), (2, .int (zI x1))]) hx hb dX12_wordAt_74 hl (k := 3) rfl (by first | exact ez4 | (rw [← ez4]; rfl)) (by decide) rfl (fun ls hl => ?_)
              refine lv_iload hx hb dX12_wordAt_77 (lv_at hl 1 rfl) ?_
              refine z_if_eq (tgt := 93) hx hb (by omega) dX12_wordAt_79 (by decide) (fun c5 => ?_) (fun c5 => ?_)
              · refine z_iinc (v := (v4_5 + 1)) (lv' := [(4, .int (zI (v4_5 + 1))), (3, .int (zI z4)), (6, .int (zI v6_18)), (5, .int (zI v5_18)), (0, .ref (B + 146)), (1, .int (zI x)), (2, .int (zI x1))]) hx hb dX12_wordAt_93 hl (k := 3) rfl (by omega) (by decide) rfl (fun ls hl => ?_)
                refine lv_goto (tgt := 5) hx hb dX12_wordAt_96 (by decide) ?_
                exact ih5 (v4_5 + 1) z4 (by omega) (by omega)   (by omega)  (by omega) _ _ _ w (lv_sub hl [0, 1, 4, 5, 6] rfl)
              · refine lv_iload_n hx hb dX12_wordAt_82 rfl (lv_at hl 5 rfl) ?_
                refine lv_iload hx hb dX12_wordAt_83 (lv_at hl 2 rfl) ?_
                obtain ⟨z6, bz6, x0z6, ez6⟩ := add_ex x v5_18
                refine lv_iadd hx hb dX12_wordAt_85 ?_
                refine r_val ez6 ?_
                refine lv_iload_n hx hb dX12_wordAt_86 rfl (lv_at hl 6 rfl) ?_
                refine z_icmp_ne (tgt := 93) hx hb (by omega) (by omega) dX12_wordAt_87 (by decide) (fun c7 => ?_) (fun c7 => ?_)
                · refine z_iinc (v := (v4_5 + 1)) (lv' := [(4, .int (zI (v4_5 + 1))), (3, .int (zI z4)), (6, .int (zI v6_18)), (5, .int (zI v5_18)), (0, .ref (B + 146)), (1, .int (zI x)), (2, .int (zI x1))]) hx hb dX12_wordAt_93 hl (k := 3) rfl (by omega) (by decide) rfl (fun ls hl => ?_)
                  refine lv_goto (tgt := 5) hx hb dX12_wordAt_96 (by decide) ?_
                  exact ih5 (v4_5 + 1) z4 (by omega) (by omega)   (by omega)  (by omega) _ _ _ w (lv_sub hl [0, 1, 4, 5, 6] rfl)
                · refine lv_iload hx hb dX12_wordAt_90 (lv_at hl 3 rfl) ?_
                  rw [hQ]
                  exact e_i F w hr hlocks ⟨_, rfl, ⟨by omega, by omega⟩, rfl⟩ dX12_wordAt_92
            · refine lv_iload hx hb dX12_wordAt_27 (lv_at hl 0 rfl) ?_
              refine z_if_eq (tgt := 62) hx hb (by omega) dX12_wordAt_29 (by decide) (fun c8 => ?_) (fun c8 => ?_)
              · refine lv_iconst (v := zI 0) hx hb dX12_wordAt_62 rfl ?_
                refine lv_istore (lv' := [(6, .int (zI 0)), (5, .int (zI v5_18)), (4, .int (zI v4_5)), (3, .int (zI v3_18)), (0, .ref (B + 146)), (1, .int (zI x)), (2, .int (zI x1))]) hx hb dX12_wordAt_63 hl (by decide) rfl (fun ls hl => ?_)
                obtain ⟨z9, bz9, x0z9, ez9⟩ := add_ex v5_18 1
                refine lv_iinc (v := zI z9) (lv' := [(5, .int (zI z9)), (6, .int (zI 0)), (4, .int (zI v4_5)), (3, .int (zI v3_18)), (0, .ref (B + 146)), (1, .int (zI x)), (2, .int (zI x1))]) hx hb dX12_wordAt_65 hl (k := 1) rfl (by first | exact ez9 | (rw [← ez9]; rfl)) (by decide) rfl (fun ls hl => ?_)
                obtain ⟨z10, bz10, x0z10, ez10⟩ := add_ex v3_18 1
                refine lv_iinc (v := zI z10) (lv' := [(3, .int (zI z10)), (5, .int (zI z9)), (6, .int (zI 0)), (4, .int (zI v4_5)), (0, .ref (B + 146)), (1, .int (zI x)), (2, .int (zI x1))]) hx hb dX12_wordAt_68 hl (k := 3) rfl (by first | exact ez10 | (rw [← ez10]; rfl)) (by decide) rfl (fun ls hl => ?_)
                refine lv_goto (tgt := 18) hx hb dX12_wordAt_71 (by decide) ?_
                exact ih18 0 z9 z10 (by omega) (by omega) (by omega)   (by omega) (by omega)  (by omega) _ _ _ w (lv_sub hl [2, 1, 3, 0, 4, 5, 6] rfl)
              · refine lv_iload_n hx hb dX12_wordAt_32 rfl (lv_at hl 5 rfl) ?_
                refine lv_iload hx hb dX12_wordAt_33 (lv_at hl 1 rfl) ?_
                obtain ⟨z11, bz11, x0z11, ez11⟩ := add_ex x v5_18
                refine lv_iadd hx hb dX12_wordAt_35 ?_
                refine r_val ez11 ?_
                refine lv_iload_n hx hb dX12_wordAt_36 rfl (lv_at hl 6 rfl) ?_
                refine z_icmp_ge (tgt := 62) hx hb (by omega) (by omega) dX12_wordAt_37 (by decide) (fun c12 => ?_) (fun c12 => ?_)
                · refine lv_iconst (v := zI 0) hx hb dX12_wordAt_62 rfl ?_
                  refine lv_istore (lv' := [(6, .int (zI 0)), (5, .int (zI v5_18)), (4, .int (zI v4_5)), (3, .int (zI v3_18)), (0, .ref (B + 146)), (1, .int (zI x)), (2, .int (zI x1))]) hx hb dX12_wordAt_63 hl (by decide) rfl (fun ls hl => ?_)
                  obtain ⟨z13, bz13, x0z13, ez13⟩ := add_ex v5_18 1
                  refine lv_iinc (v := zI z13) (lv' := [(5, .int (zI z13)), (6, .int (zI 0)), (4, .int (zI v4_5)), (3, .int (zI v3_18)), (0, .ref (B + 146)), (1, .int (zI x)), (2, .int (zI x1))]) hx hb dX12_wordAt_65 hl (k := 1) rfl (by first | exact ez13 | (rw [← ez13]; rfl)) (by decide) rfl (fun ls hl => ?_)
                  obtain ⟨z14, bz14, x0z14, ez14⟩ := add_ex v3_18 1
                  refine lv_iinc (v := zI z14) (lv' := [(3, .int (zI z14)), (5, .int (zI z13)), (6, .int (zI 0)), (4, .int (zI v4_5)), (0, .ref (B + 146)), (1, .int (zI x)), (2, .int (zI x1))]) hx hb dX12_wordAt_68 hl (k := 3) rfl (by first | exact ez14 | (rw [← ez14]; rfl)) (by decide) rfl (fun ls hl => ?_)
                  refine lv_goto (tgt := 18) hx hb dX12_wordAt_71 (by decide) ?_
                  exact ih18 0 z13 z14 (by omega) (by omega) (by omega)   (by omega) (by omega)  (by omega) _ _ _ w (lv_sub hl [2, 1, 3, 0, 4, 5, 6] rfl)
                · refine lv_aload_n hx hb dX12_wordAt_40 rfl (lv_at hl 4 rfl) ?_
                  refine f_12_7 F w (a := 146) rfl tb_588 dX12_wordAt_41 ?_
                  refine lv_iload_n hx hb dX12_wordAt_44 rfl (lv_at hl 5 rfl) ?_
                  refine lv_iload hx hb dX12_wordAt_45 (lv_at hl 1 rfl) ?_
                  obtain ⟨z15, bz15, x0z15, ez15⟩ := add_ex x v5_18
                  refine lv_iadd hx hb dX12_wordAt_47 ?_
                  refine r_val ez15 ?_
                  refine g_iald F w (a := 150) rfl (j := (Int.toNat z15)) (ix_z (by omega) (by omega)) (by omega) dX12_wordAt_48 ?_
                  obtain ⟨z16, bz16, ez16⟩ := IvR.ld (k := (Int.toNat z15)) hI (show ivr 150 (Int.toNat z15) = (0, 255) from rfl) (show 146 ≤ 150 ∧ 150 < 159 by decide)
                  refine r_val ez16 ?_
                  refine lv_aload_n hx hb dX12_wordAt_49 rfl (lv_at hl 4 rfl) ?_
                  refine f_12_12 F w (a := 146) rfl tb_664 dX12_wordAt_50 ?_
                  refine lv_iload_n hx hb dX12_wordAt_53 rfl (lv_at hl 3 rfl) ?_
                  refine g_bald F w (a := 152) rfl (j := (Int.toNat v3_18)) (ix_z (by omega) (by omega)) (by omega) dX12_wordAt_54 ?_
                  obtain ⟨z17, bz17, x0z17, x1z17, ez17⟩ := wd_ld hI (w := v4_5) (by omega) (k := v3_18) (by omega)
                  refine r_val ez17 ?_
                  refine z_icmp_ne (tgt := 62) hx hb (by omega) (by omega) dX12_wordAt_55 (by decide) (fun c18 => ?_) (fun c18 => ?_)
                  · refine lv_iconst (v := zI 0) hx hb dX12_wordAt_62 rfl ?_
                    refine lv_istore (lv' := [(6, .int (zI 0)), (5, .int (zI v5_18)), (4, .int (zI v4_5)), (3, .int (zI v3_18)), (0, .ref (B + 146)), (1, .int (zI x)), (2, .int (zI x1))]) hx hb dX12_wordAt_63 hl (by decide) rfl (fun ls hl => ?_)
                    obtain ⟨z19, bz19, x0z19, ez19⟩ := add_ex v5_18 1
                    refine lv_iinc (v := zI z19) (lv' := [(5, .int (zI z19)), (6, .int (zI 0)), (4, .int (zI v4_5)), (3, .int (zI v3_18)), (0, .ref (B + 146)), (1, .int (zI x)), (2, .int (zI x1))]) hx hb dX12_wordAt_65 hl (k := 1) rfl (by first | exact ez19 | (rw [← ez19]; rfl)) (by decide) rfl (fun ls hl => ?_)
                    obtain ⟨z20, bz20, x0z20, ez20⟩ := add_ex v3_18 1
                    refine lv_iinc (v := zI z20) (lv' := [(3, .int (zI z20)), (5, .int (zI z19)), (6, .int (zI 0)), (4, .int (zI v4_5)), (0, .ref (B + 146)), (1, .int (zI x)), (2, .int (zI x1))]) hx hb dX12_wordAt_68 hl (k := 3) rfl (by first | exact ez20 | (rw [← ez20]; rfl)) (by decide) rfl (fun ls hl => ?_)
                    refine lv_goto (tgt := 18) hx hb dX12_wordAt_71 (by decide) ?_
                    exact ih18 0 z19 z20 (by omega) (by omega) (by omega)   (by omega) (by omega)  (by omega) _ _ _ w (lv_sub hl [2, 1, 3, 0, 4, 5, 6] rfl)
                  · refine lv_iconst (v := zI 1) hx hb dX12_wordAt_58 rfl ?_
                    refine lv_goto (tgt := 63) hx hb dX12_wordAt_59 (by decide) ?_
                    refine lv_istore (lv' := [(6, .int (zI 1)), (5, .int (zI v5_18)), (4, .int (zI v4_5)), (3, .int (zI v3_18)), (0, .ref (B + 146)), (1, .int (zI x)), (2, .int (zI x1))]) hx hb dX12_wordAt_63 hl (by decide) rfl (fun ls hl => ?_)
                    obtain ⟨z21, bz21, x0z21, ez21⟩ := add_ex v5_18 1
                    refine lv_iinc (v := zI z21) (lv' := [(5, .int (zI z21)), (6, .int (zI 1)), (4, .int (zI v4_5)), (3, .int (zI v3_18)), (0, .ref (B + 146)), (1, .int (zI x)), (2, .int (zI x1))]) hx hb dX12_wordAt_65 hl (k := 1) rfl (by first | exact ez21 | (rw [← ez21]; rfl)) (by decide) rfl (fun ls hl => ?_)
                    obtain ⟨z22, bz22, x0z22, ez22⟩ := add_ex v3_18 1
                    refine lv_iinc (v := zI z22) (lv' := [(3, .int (zI z22)), (5, .int (zI z21)), (6, .int (zI 1)), (4, .int (zI v4_5)), (0, .ref (B + 146)), (1, .int (zI x)), (2, .int (zI x1))]) hx hb dX12_wordAt_68 hl (k := 3) rfl (by first | exact ez22 | (rw [← ez22]; rfl)) (by decide) rfl (fun ls hl => ?_)
                    refine lv_goto (tgt := 18) hx hb dX12_wordAt_71 (by decide) ?_
                    exact ih18 1 z21 z22 (by omega) (by omega) (by omega)   (by omega) (by omega)  (by omega) _ _ _ w (lv_sub hl [2, 1, 3, 0, 4, 5, 6] rfl)
        exact lp18 _ 1 0 v3_5 (by omega) (by omega) (by omega) (by omega) (by omega) (Nat.lt_succ_self _) _ _ _ w (lv_sub hl [0, 1, 2, 3, 4, 5, 6] rfl)
  exact lp5 _ 0 0 (by omega) (by omega) (by omega) (Nat.lt_succ_self _) _ _ _ w (lv_sub hl [0, 1, 2, 3, 4] rfl)
theorem dX12_goesOn_0 : decode cX12_goesOn 0 = .ok (.aload_n 0, 1) := rdX12_goesOn_0
theorem dX12_goesOn_1 : decode cX12_goesOn 1 = .ok (.getfield 204, 3) := rdX12_goesOn_1
theorem dX12_goesOn_4 : decode cX12_goesOn 4 = .ok (.istore_n 1, 1) := rdX12_goesOn_4
theorem dX12_goesOn_5 : decode cX12_goesOn 5 = .ok (.aload_n 0, 1) := rdX12_goesOn_5
theorem dX12_goesOn_6 : decode cX12_goesOn 6 = .ok (.getfield 172, 3) := rdX12_goesOn_6
theorem dX12_goesOn_9 : decode cX12_goesOn 9 = .ok (.istore_n 2, 1) := rdX12_goesOn_9
theorem dX12_goesOn_10 : decode cX12_goesOn 10 = .ok (.aload_n 0, 1) := rdX12_goesOn_10
theorem dX12_goesOn_11 : decode cX12_goesOn 11 = .ok (.invokevirtual 179, 3) := rdX12_goesOn_11
theorem dX12_goesOn_14 : decode cX12_goesOn 14 = .ok (.aload_n 0, 1) := rdX12_goesOn_14
theorem dX12_goesOn_15 : decode cX12_goesOn 15 = .ok (.aload_n 0, 1) := rdX12_goesOn_15
theorem dX12_goesOn_16 : decode cX12_goesOn 16 = .ok (.getfield 172, 3) := rdX12_goesOn_16
theorem dX12_goesOn_19 : decode cX12_goesOn 19 = .ok (.putfield 207, 3) := rdX12_goesOn_19
theorem tb_665 : Cond.fieldLink "ToneLinesModel" 207 "ToneLinesModel" "begun" "I" ∈ TB := rtb_131
theorem dX12_goesOn_22 : decode cX12_goesOn 22 = .ok (.aload_n 0, 1) := rdX12_goesOn_22
theorem dX12_goesOn_23 : decode cX12_goesOn 23 = .ok (.getfield 207, 3) := rdX12_goesOn_23
theorem dX12_goesOn_26 : decode cX12_goesOn 26 = .ok (.iload_n 2, 1) := rdX12_goesOn_26
theorem dX12_goesOn_27 : decode cX12_goesOn 27 = .ok (.if_icmp .ne 17, 3) := rdX12_goesOn_27
theorem dX12_goesOn_44 : decode cX12_goesOn 44 = .ok (.iconst 0, 1) := rdX12_goesOn_44
theorem dX12_goesOn_45 : decode cX12_goesOn 45 = .ok (.istore_n 3, 1) := rdX12_goesOn_45
theorem dX12_goesOn_46 : decode cX12_goesOn 46 = .ok (.aload_n 0, 1) := rdX12_goesOn_46
theorem dX12_goesOn_47 : decode cX12_goesOn 47 = .ok (.invokevirtual 175, 3) := rdX12_goesOn_47
theorem dX12_goesOn_50 : decode cX12_goesOn 50 = .ok (.istore 4, 2) := rdX12_goesOn_50
theorem dX12_goesOn_52 : decode cX12_goesOn 52 = .ok (.aload_n 0, 1) := rdX12_goesOn_52
theorem dX12_goesOn_53 : decode cX12_goesOn 53 = .ok (.bipush 29, 2) := rdX12_goesOn_53
theorem dX12_goesOn_55 : decode cX12_goesOn 55 = .ok (.putfield 210, 3) := rdX12_goesOn_55
theorem dX12_goesOn_58 : decode cX12_goesOn 58 = .ok (.iload 4, 2) := rdX12_goesOn_58
theorem dX12_goesOn_60 : decode cX12_goesOn 60 = .ok (.iconst (-1), 1) := rdX12_goesOn_60
theorem dX12_goesOn_61 : decode cX12_goesOn 61 = .ok (.if_icmp .ne 11, 3) := rdX12_goesOn_61
theorem dX12_goesOn_72 : decode cX12_goesOn 72 = .ok (.iload 4, 2) := rdX12_goesOn_72
theorem dX12_goesOn_74 : decode cX12_goesOn 74 = .ok (.bipush 97, 2) := rdX12_goesOn_74
theorem dX12_goesOn_76 : decode cX12_goesOn 76 = .ok (.bipush 122, 2) := rdX12_goesOn_76
theorem dX12_goesOn_78 : decode cX12_goesOn 78 = .ok (.invokestatic 55, 3) := rdX12_goesOn_78
theorem dX12_goesOn_81 : decode cX12_goesOn 81 = .ok (.ifCond .eq 62, 3) := rdX12_goesOn_81
theorem dX12_goesOn_143 : decode cX12_goesOn 143 = .ok (.aload_n 0, 1) := rdX12_goesOn_143
theorem dX12_goesOn_144 : decode cX12_goesOn 144 = .ok (.dup, 1) := rdX12_goesOn_144
theorem dX12_goesOn_145 : decode cX12_goesOn 145 = .ok (.getfield 172, 3) := rdX12_goesOn_145
theorem dX12_goesOn_148 : decode cX12_goesOn 148 = .ok (.iconst 1, 1) := rdX12_goesOn_148
theorem dX12_goesOn_149 : decode cX12_goesOn 149 = .ok (.iadd, 1) := rdX12_goesOn_149
theorem dX12_goesOn_150 : decode cX12_goesOn 150 = .ok (.putfield 172, 3) := rdX12_goesOn_150
theorem dX12_goesOn_153 : decode cX12_goesOn 153 = .ok (.aload_n 0, 1) := rdX12_goesOn_153
theorem dX12_goesOn_154 : decode cX12_goesOn 154 = .ok (.iload 4, 2) := rdX12_goesOn_154
theorem dX12_goesOn_156 : decode cX12_goesOn 156 = .ok (.invokestatic 182, 3) := rdX12_goesOn_156
theorem dX12_goesOn_159 : decode cX12_goesOn 159 = .ok (.ifCond .eq 15, 3) := rdX12_goesOn_159
theorem dX12_goesOn_174 : decode cX12_goesOn 174 = .ok (.iload 4, 2) := rdX12_goesOn_174
theorem dX12_goesOn_176 : decode cX12_goesOn 176 = .ok (.bipush 59, 2) := rdX12_goesOn_176
theorem dX12_goesOn_178 : decode cX12_goesOn 178 = .ok (.if_icmp .ne 7, 3) := rdX12_goesOn_178
theorem dX12_goesOn_185 : decode cX12_goesOn 185 = .ok (.iconst 4, 1) := rdX12_goesOn_185
theorem dX12_goesOn_186 : decode cX12_goesOn 186 = .ok (.putfield 204, 3) := rdX12_goesOn_186
theorem dX12_goesOn_189 : decode cX12_goesOn 189 = .ok (.aload_n 0, 1) := rdX12_goesOn_189
theorem dX12_goesOn_190 : decode cX12_goesOn 190 = .ok (.iload 4, 2) := rdX12_goesOn_190
theorem dX12_goesOn_192 : decode cX12_goesOn 192 = .ok (.bipush 48, 2) := rdX12_goesOn_192
theorem dX12_goesOn_194 : decode cX12_goesOn 194 = .ok (.isub, 1) := rdX12_goesOn_194
theorem dX12_goesOn_195 : decode cX12_goesOn 195 = .ok (.putfield 185, 3) := rdX12_goesOn_195
theorem dX12_goesOn_198 : decode cX12_goesOn 198 = .ok (.return_, 1) := rdX12_goesOn_198
theorem dX12_goesOn_181 : decode cX12_goesOn 181 = .ok (.iconst 3, 1) := rdX12_goesOn_181
theorem dX12_goesOn_182 : decode cX12_goesOn 182 = .ok (.goto 4, 3) := rdX12_goesOn_182
theorem dX12_goesOn_162 : decode cX12_goesOn 162 = .ok (.iload_n 3, 1) := rdX12_goesOn_162
theorem dX12_goesOn_163 : decode cX12_goesOn 163 = .ok (.ifCond .eq 7, 3) := rdX12_goesOn_163
theorem dX12_goesOn_170 : decode cX12_goesOn 170 = .ok (.iconst 2, 1) := rdX12_goesOn_170
theorem dX12_goesOn_171 : decode cX12_goesOn 171 = .ok (.goto 15, 3) := rdX12_goesOn_171
theorem dX12_goesOn_84 : decode cX12_goesOn 84 = .ok (.aload_n 0, 1) := rdX12_goesOn_84
theorem dX12_goesOn_85 : decode cX12_goesOn 85 = .ok (.invokevirtual 175, 3) := rdX12_goesOn_85
theorem dX12_goesOn_88 : decode cX12_goesOn 88 = .ok (.bipush 97, 2) := rdX12_goesOn_88
theorem dX12_goesOn_90 : decode cX12_goesOn 90 = .ok (.bipush 122, 2) := rdX12_goesOn_90
theorem dX12_goesOn_92 : decode cX12_goesOn 92 = .ok (.invokestatic 55, 3) := rdX12_goesOn_92
theorem dX12_goesOn_95 : decode cX12_goesOn 95 = .ok (.ifCond .eq 16, 3) := rdX12_goesOn_95
theorem dX12_goesOn_111 : decode cX12_goesOn 111 = .ok (.aload_n 0, 1) := rdX12_goesOn_111
theorem dX12_goesOn_112 : decode cX12_goesOn 112 = .ok (.iload_n 3, 1) := rdX12_goesOn_112
theorem dX12_goesOn_113 : decode cX12_goesOn 113 = .ok (.ifCond .eq 7, 3) := rdX12_goesOn_113
theorem dX12_goesOn_120 : decode cX12_goesOn 120 = .ok (.iconst 1, 1) := rdX12_goesOn_120
theorem dX12_goesOn_121 : decode cX12_goesOn 121 = .ok (.putfield 204, 3) := rdX12_goesOn_121
theorem dX12_goesOn_124 : decode cX12_goesOn 124 = .ok (.aload_n 0, 1) := rdX12_goesOn_124
theorem dX12_goesOn_125 : decode cX12_goesOn 125 = .ok (.aload_n 0, 1) := rdX12_goesOn_125
theorem dX12_goesOn_126 : decode cX12_goesOn 126 = .ok (.aload_n 0, 1) := rdX12_goesOn_126
theorem dX12_goesOn_127 : decode cX12_goesOn 127 = .ok (.getfield 207, 3) := rdX12_goesOn_127
theorem dX12_goesOn_130 : decode cX12_goesOn 130 = .ok (.aload_n 0, 1) := rdX12_goesOn_130
theorem dX12_goesOn_131 : decode cX12_goesOn 131 = .ok (.getfield 172, 3) := rdX12_goesOn_131
theorem dX12_goesOn_134 : decode cX12_goesOn 134 = .ok (.invokevirtual 213, 3) := rdX12_goesOn_134
theorem tk_X12_wordAt : Cond.code yX12_wordAt cX12_wordAt 7 (some .int) ∈ TB := rtk_X12_wordAt
theorem gc_X12_wordAt : GoodIn TB (cw yX12_wordAt cX12_wordAt 7 (some .int)) := goodIn_c2 tk_X12_wordAt
theorem tb_666 : Cond.methodLink "ToneLinesModel" 213 yX12_wordAt ∈ TB := rtb_133
theorem tb_667 : Cond.instanceMethod yX12_wordAt ∈ TB := rtb_134
theorem tb_668 : Cond.selects "ToneLinesModel" yX12_wordAt yX12_wordAt ∈ TB := rtb_135
theorem gv_X12_213 : GoodIn TB (wsV RX12 213 RX12 yX12_wordAt (cw yX12_wordAt cX12_wordAt 7 (some .int))) := goodIn_4 tb_666 tb_667 tb_668 tb_38 gc_X12_wordAt
theorem hv_X12_wordAt : yX12_wordAt.cls = RX12 ∧ yX12_wordAt.cls ≠ "java/lang/invoke/MethodHandle" ∧ yX12_wordAt.cls ≠ "java/lang/invoke/VarHandle" ∧ (parseMethodDescriptor yX12_wordAt.desc).map (fun d => d.parameters.length) = some 2 := rhv_X12_wordAt
theorem dX12_goesOn_137 : decode cX12_goesOn 137 = .ok (.putfield 210, 3) := rdX12_goesOn_137
theorem dX12_goesOn_140 : decode cX12_goesOn 140 = .ok (.goto 58, 3) := rdX12_goesOn_140
theorem dX12_goesOn_98 : decode cX12_goesOn 98 = .ok (.aload_n 0, 1) := rdX12_goesOn_98
theorem dX12_goesOn_99 : decode cX12_goesOn 99 = .ok (.dup, 1) := rdX12_goesOn_99
theorem dX12_goesOn_100 : decode cX12_goesOn 100 = .ok (.getfield 172, 3) := rdX12_goesOn_100
theorem dX12_goesOn_103 : decode cX12_goesOn 103 = .ok (.iconst 1, 1) := rdX12_goesOn_103
theorem dX12_goesOn_104 : decode cX12_goesOn 104 = .ok (.iadd, 1) := rdX12_goesOn_104
theorem dX12_goesOn_105 : decode cX12_goesOn 105 = .ok (.putfield 172, 3) := rdX12_goesOn_105
theorem dX12_goesOn_108 : decode cX12_goesOn 108 = .ok (.goto (-24), 3) := rdX12_goesOn_108
theorem dX12_goesOn_64 : decode cX12_goesOn 64 = .ok (.aload_n 0, 1) := rdX12_goesOn_64
theorem dX12_goesOn_65 : decode cX12_goesOn 65 = .ok (.iconst 0, 1) := rdX12_goesOn_65
theorem dX12_goesOn_66 : decode cX12_goesOn 66 = .ok (.putfield 204, 3) := rdX12_goesOn_66
theorem dX12_goesOn_69 : decode cX12_goesOn 69 = .ok (.goto 129, 3) := rdX12_goesOn_69
theorem dX12_goesOn_30 : decode cX12_goesOn 30 = .ok (.iload_n 1, 1) := rdX12_goesOn_30
theorem dX12_goesOn_31 : decode cX12_goesOn 31 = .ok (.iconst 1, 1) := rdX12_goesOn_31
theorem dX12_goesOn_32 : decode cX12_goesOn 32 = .ok (.if_icmp .eq 8, 3) := rdX12_goesOn_32
theorem dX12_goesOn_40 : decode cX12_goesOn 40 = .ok (.iconst 1, 1) := rdX12_goesOn_40
theorem dX12_goesOn_41 : decode cX12_goesOn 41 = .ok (.goto 4, 3) := rdX12_goesOn_41
theorem dX12_goesOn_166 : decode cX12_goesOn 166 = .ok (.iconst 4, 1) := rdX12_goesOn_166
theorem dX12_goesOn_167 : decode cX12_goesOn 167 = .ok (.goto 19, 3) := rdX12_goesOn_167
theorem dX12_goesOn_116 : decode cX12_goesOn 116 = .ok (.iconst 4, 1) := rdX12_goesOn_116
theorem dX12_goesOn_117 : decode cX12_goesOn 117 = .ok (.goto 4, 3) := rdX12_goesOn_117
theorem dX12_goesOn_35 : decode cX12_goesOn 35 = .ok (.iload_n 1, 1) := rdX12_goesOn_35
theorem dX12_goesOn_36 : decode cX12_goesOn 36 = .ok (.iconst 2, 1) := rdX12_goesOn_36
theorem dX12_goesOn_37 : decode cX12_goesOn 37 = .ok (.if_icmp .ne 7, 3) := rdX12_goesOn_37
set_option maxHeartbeats 4000000 in
set_option maxRecDepth 4000 in
theorem q_X12_goesOn {l : Launch} {D : va_G} {B : Nat} {cy : Nat → ClassId} {M : Mem}  (hI : IvR M) : Cv l D B cy yX12_goesOn cX12_goesOn 5 2 42 [.ref (B + 146)] M (fun M1 => (∃ tk2 nb2 : Int, M1.1 146 13 = zI tk2 ∧ M1.1 146 11 = zI nb2 ∧ (((-2147483648) ≤ tk2 ∧ tk2 ≤ 2147483647) ∧ ((-99) ≤ nb2 ∧ nb2 ≤ 300) ∧ (tk2 ≠ 2 ∨ 0 ≤ nb2))) ∧ IvR M1 ∧ Fr (fun b9 k9 => (b9 = 146 ∧ k9 = 11) ∨ (b9 = 146 ∧ k9 = 13) ∨ (b9 = 146 ∧ k9 = 14) ∨ (b9 = 146 ∧ k9 = 15) ∨ (b9 = 146 ∧ k9 = 9)) M1 M) := by
  refine s_anyQ (by decide) (Nat.le_of_ble_eq_true rfl) ?_
  intro p e s m args below meth c ls Q F hr hlocks hQ w hl
  have F : CallFix p m c cX12_goesOn 5 s args TB RX12 := F
  have hx := F.1
  have hb := F.2.1
  have hl : lv_has ls 5 [(0, .ref (B + 146))] := hl
  have hF : Fr (fun b9 k9 => (b9 = 146 ∧ k9 = 11) ∨ (b9 = 146 ∧ k9 = 13) ∨ (b9 = 146 ∧ k9 = 14) ∨ (b9 = 146 ∧ k9 = 15) ∨ (b9 = 146 ∧ k9 = 9)) M M := Fr.rf
  refine lv_aload_n hx hb dX12_goesOn_0 rfl (lv_at hl 0 rfl) ?_
  refine f_12_13 F w (a := 146) rfl tb_602 dX12_goesOn_1 ?_
  obtain ⟨z1, bz1, ez1⟩ := IvR.ld (k := 13) hI (show ivr 146 13 = ((-2147483648), 2147483647) from rfl) (show 146 ≤ 146 ∧ 146 < 159 by decide)
  refine r_val ez1 ?_
  refine lv_istore_n (lv' := [(1, .int (zI z1)), (0, .ref (B + 146))]) hx hb dX12_goesOn_4 rfl hl (by decide) rfl (fun ls hl => ?_)
  refine lv_aload_n hx hb dX12_goesOn_5 rfl (lv_at hl 1 rfl) ?_
  refine f_12_9 F w (a := 146) rfl tb_586 dX12_goesOn_6 ?_
  obtain ⟨z2, bz2, ez2⟩ := IvR.ld (k := 9) hI (show ivr 146 9 = (0, 300) from rfl) (show 146 ≤ 146 ∧ 146 < 159 by decide)
  refine r_val ez2 ?_
  refine lv_istore_n (lv' := [(2, .int (zI z2)), (1, .int (zI z1)), (0, .ref (B + 146))]) hx hb dX12_goesOn_9 rfl hl (by decide) rfl (fun ls hl => ?_)
  refine lv_aload_n hx hb dX12_goesOn_10 rfl (lv_at hl 2 rfl) ?_
  refine k_Vv F w (As := []) (rest := []) (a := 146) (kd_lt (a := 146) (show kd 146 = (12, 0, 0) from rfl) (by decide)) (sh_12 rfl _ _) rfl (q_X12_blanks (ai := z2) (ez2) ⟨by omega, by omega⟩  hI) gv_X12_179 hv_X12_blanks ⟨(Nat.le_of_ble_eq_true rfl), (Nat.le_of_ble_eq_true rfl)⟩ hl.1 rfl (Nat.le_of_ble_eq_true rfl) ⟨Nat.zero_le _, Nat.zero_le _⟩ dX12_goesOn_11 (fun N4 H locs hp w => ?_)
  obtain ⟨⟨nz50, enz50, xz5⟩, hIN4, hFN4⟩ := hp
  have hGN4 := Fr.tr hF hFN4 (S := (fun b9 k9 => (b9 = 146 ∧ k9 = 11) ∨ (b9 = 146 ∧ k9 = 13) ∨ (b9 = 146 ∧ k9 = 14) ∨ (b9 = 146 ∧ k9 = 15) ∨ (b9 = 146 ∧ k9 = 9))) (fun b k h => by (try dsimp only at h ⊢); rcases h with ⟨rfl, rfl⟩ <;> first | decide | omega)
  have kn6 : N4.1 146 13 = zI z1 := (hFN4 146 13 (by first | decide | (dsimp only; first | done | decide | omega) | omega)).trans (ez1)
  refine lv_aload_n hx hb dX12_goesOn_14 rfl (lv_at hl 2 rfl) ?_
  refine lv_aload_n hx hb dX12_goesOn_15 rfl (lv_at hl 2 rfl) ?_
  refine f_12_9 F w (a := 146) rfl tb_586 dX12_goesOn_16 ?_
  refine r_val (v := zI nz50) (enz50) ?_
  refine u_12_14 F w (a := 146) rfl tb_665 dX12_goesOn_19 (fun H locs w => ?_)
  refine lv_aload_n hx hb dX12_goesOn_22 rfl (lv_at hl 2 rfl) ?_
  refine f_12_14 F w (a := 146) rfl tb_665 dX12_goesOn_23 ?_
  refine r_val (v := zI nz50) (st_at) ?_
  refine lv_iload_n hx hb dX12_goesOn_26 rfl (lv_at hl 0 rfl) ?_
  refine z_icmp_ne (tgt := 44) hx hb (by omega) (by omega) dX12_goesOn_27 (by decide) (fun c7 => ?_) (fun c7 => ?_)
  · refine lv_iconst (v := zI 0) hx hb dX12_goesOn_44 rfl ?_
    refine lv_istore_n (lv' := [(3, .int (zI 0)), (2, .int (zI z2)), (1, .int (zI z1)), (0, .ref (B + 146))]) hx hb dX12_goesOn_45 rfl hl (by decide) rfl (fun ls hl => ?_)
    refine lv_aload_n hx hb dX12_goesOn_46 rfl (lv_at hl 3 rfl) ?_
    obtain ⟨z8, bz8, ez8⟩ := IvR.ld (k := 8) hIN4 (show ivr 146 8 = (0, 300) from rfl) (show 146 ≤ 146 ∧ 146 < 159 by decide)
    obtain ⟨z9, bz9, ez9⟩ := IvR.ld (k := (Int.toNat nz50)) hIN4 (show ivr 150 (Int.toNat nz50) = (0, 255) from rfl) (show 146 ≤ 150 ∧ 150 < 159 by decide)
    refine k_Vi F w (As := []) (rest := []) (a := 146) (kd_lt (a := 146) (show kd 146 = (12, 0, 0) from rfl) (by decide)) (sh_12 rfl _ _) rfl (q_X12_here (ai := nz50) ((st_ne (Or.inr (by decide))).trans enz50) ⟨by omega, by omega⟩ (td := z8) ((st_ne (Or.inr (by decide))).trans ez8) ⟨by omega, by omega⟩ (tv := z9) ((st_ne (Or.inl (by decide))).trans ez9) ⟨by omega, by omega⟩  (IvR.to hIN4 (a := 146) (k := 14) (x := nz50) (show ivr 146 14 = ((-2147483648), 2147483647) from rfl) ⟨by omega, by omega⟩ ⟨by decide, by decide, by decide, fun q9 => absurd q9 (by decide)⟩)) gv_X12_175 hv_X12_here ⟨(Nat.le_of_ble_eq_true rfl), (Nat.le_of_ble_eq_true rfl)⟩ hl.1 rfl (Nat.le_of_ble_eq_true rfl) ⟨Nat.zero_le _, Nat.zero_le _⟩ dX12_goesOn_47 (fun r10 N11 H locs hp w => ?_)
    obtain ⟨z12, rfl, bz12, xz12, hMN11⟩ := hp
    rw [hMN11] at w
    refine lv_istore (lv' := [(4, .int (zI z12)), (3, .int (zI 0)), (2, .int (zI z2)), (1, .int (zI z1)), (0, .ref (B + 146))]) hx hb dX12_goesOn_50 hl (by decide) rfl (fun ls hl => ?_)
    refine lv_aload_n hx hb dX12_goesOn_52 rfl (lv_at hl 4 rfl) ?_
    refine lv_bipush (v := zI 29) hx hb dX12_goesOn_53 (by decide) ?_
    refine u_12_15 F w (a := 146) rfl tb_603 dX12_goesOn_55 (fun H locs w => ?_)
    refine lv_iload hx hb dX12_goesOn_58 (lv_at hl 0 rfl) ?_
    refine lv_iconst (v := zI (-1)) hx hb dX12_goesOn_60 rfl ?_
    refine z_icmp_ne (tgt := 72) hx hb (by omega) (by omega) dX12_goesOn_61 (by decide) (fun c13 => ?_) (fun c13 => ?_)
    · refine lv_iload hx hb dX12_goesOn_72 (lv_at hl 0 rfl) ?_
      refine lv_bipush (v := zI 97) hx hb dX12_goesOn_74 (by decide) ?_
      refine lv_bipush (v := zI 122) hx hb dX12_goesOn_76 (by decide) ?_
      refine k_Si F w (As := [.int (zI z12), .int (zI 97), .int (zI 122)]) (rest := []) (q_X12_in (x := z12) ⟨by omega, by omega⟩ (x1 := 97) ⟨by omega, by omega⟩ (x2 := 122) ⟨by omega, by omega⟩  (IvR.to (IvR.to hIN4 (a := 146) (k := 14) (x := nz50) (show ivr 146 14 = ((-2147483648), 2147483647) from rfl) ⟨by omega, by omega⟩ ⟨by decide, by decide, by decide, fun q9 => absurd q9 (by decide)⟩) (a := 146) (k := 15) (x := 29) (show ivr 146 15 = ((-2147483648), 2147483647) from rfl) ⟨by omega, by omega⟩ ⟨by decide, by decide, by decide, fun q9 => absurd q9 (by decide)⟩)) gs_X12_55 hs_X12_in ⟨(Nat.le_of_ble_eq_true rfl), (Nat.le_of_ble_eq_true rfl)⟩ hl.1 rfl (Nat.le_of_ble_eq_true rfl) ⟨Nat.zero_le _, Nat.zero_le _⟩ dX12_goesOn_78 (fun r14 N15 H locs hp w => ?_)
      obtain ⟨z16, rfl, bz16, xz16, hMN15⟩ := hp
      rw [hMN15] at w
      refine z_if_eq (tgt := 143) hx hb (by omega) dX12_goesOn_81 (by decide) (fun c17 => ?_) (fun c17 => ?_)
      · refine lv_aload_n hx hb dX12_goesOn_143 rfl (lv_at hl 4 rfl) ?_
        refine lv_dup hx hb dX12_goesOn_144 rfl ?_
        refine f_12_9 F w (a := 146) rfl tb_586 dX12_goesOn_145 ?_
        refine r_val (v := zI nz50) ((st_ne (Or.inr (by decide))).trans ((st_ne (Or.inr (by decide))).trans enz50)) ?_
        refine lv_iconst (v := zI 1) hx hb dX12_goesOn_148 rfl ?_
        refine z_iadd (z := (nz50 + 1)) hx hb dX12_goesOn_149 (by omega) ?_
        refine u_12_9 F w (a := 146) rfl tb_586 dX12_goesOn_150 (fun H locs w => ?_)
        refine lv_aload_n hx hb dX12_goesOn_153 rfl (lv_at hl 4 rfl) ?_
        refine lv_iload hx hb dX12_goesOn_154 (lv_at hl 0 rfl) ?_
        refine k_Si F w (As := [.int (zI z12)]) (rest := [.ref (B + 146)]) (q_X12_isDigit (x := z12) ⟨by omega, by omega⟩  (IvR.to (IvR.to (IvR.to hIN4 (a := 146) (k := 14) (x := nz50) (show ivr 146 14 = ((-2147483648), 2147483647) from rfl) ⟨by omega, by omega⟩ ⟨by decide, by decide, by decide, fun q9 => absurd q9 (by decide)⟩) (a := 146) (k := 15) (x := 29) (show ivr 146 15 = ((-2147483648), 2147483647) from rfl) ⟨by omega, by omega⟩ ⟨by decide, by decide, by decide, fun q9 => absurd q9 (by decide)⟩) (a := 146) (k := 9) (x := (nz50 + 1)) (show ivr 146 9 = (0, 300) from rfl) ⟨by omega, by omega⟩ ⟨by decide, by decide, by decide, fun q9 => absurd q9 (by decide)⟩)) gs_X12_182 hs_X12_isDigit ⟨(Nat.le_of_ble_eq_true rfl), (Nat.le_of_ble_eq_true rfl)⟩ hl.1 rfl (Nat.le_of_ble_eq_true rfl) ⟨Nat.zero_le _, Nat.zero_le _⟩ dX12_goesOn_156 (fun r18 N19 H locs hp w => ?_)
        obtain ⟨z20, rfl, bz20, xz20, hMN19⟩ := hp
        rw [hMN19] at w
        refine z_if_eq (tgt := 174) hx hb (by omega) dX12_goesOn_159 (by decide) (fun c21 => ?_) (fun c21 => ?_)
        · refine lv_iload hx hb dX12_goesOn_174 (lv_at hl 0 rfl) ?_
          refine lv_bipush (v := zI 59) hx hb dX12_goesOn_176 (by decide) ?_
          refine z_icmp_ne (tgt := 185) hx hb (by omega) (by omega) dX12_goesOn_178 (by decide) (fun c22 => ?_) (fun c22 => ?_)
          · refine lv_iconst (v := zI 4) hx hb dX12_goesOn_185 rfl ?_
            refine u_12_13 F w (a := 146) rfl tb_602 dX12_goesOn_186 (fun H locs w => ?_)
            refine lv_aload_n hx hb dX12_goesOn_189 rfl (lv_at hl 4 rfl) ?_
            refine lv_iload hx hb dX12_goesOn_190 (lv_at hl 0 rfl) ?_
            refine lv_bipush (v := zI 48) hx hb dX12_goesOn_192 (by decide) ?_
            refine z_isub (z := (z12 - 48)) hx hb dX12_goesOn_194 (by omega) ?_
            refine u_12_11 F w (a := 146) rfl tb_598 dX12_goesOn_195 (fun H locs w => ?_)
            rw [hQ]
            exact e_v F w hr hlocks ⟨⟨4, (z12 - 48), ((st_ne (Or.inr (by decide))).trans st_at), (st_at), ⟨by omega, by omega⟩, ⟨by omega, by omega⟩, (by omega)⟩, (IvR.to (IvR.to (IvR.to (IvR.to (IvR.to hIN4 (a := 146) (k := 14) (x := nz50) (show ivr 146 14 = ((-2147483648), 2147483647) from rfl) ⟨by omega, by omega⟩ ⟨by decide, by decide, by decide, fun q9 => absurd q9 (by decide)⟩) (a := 146) (k := 15) (x := 29) (show ivr 146 15 = ((-2147483648), 2147483647) from rfl) ⟨by omega, by omega⟩ ⟨by decide, by decide, by decide, fun q9 => absurd q9 (by decide)⟩) (a := 146) (k := 9) (x := (nz50 + 1)) (show ivr 146 9 = (0, 300) from rfl) ⟨by omega, by omega⟩ ⟨by decide, by decide, by decide, fun q9 => absurd q9 (by decide)⟩) (a := 146) (k := 13) (x := 4) (show ivr 146 13 = ((-2147483648), 2147483647) from rfl) ⟨by omega, by omega⟩ ⟨by decide, by decide, by decide, fun q9 => absurd q9 (by decide)⟩) (a := 146) (k := 11) (x := (z12 - 48)) (show ivr 146 11 = ((-99), 300) from rfl) ⟨by omega, by omega⟩ ⟨by decide, by decide, by decide, fun q9 => absurd q9 (by decide)⟩), (Fr.to (Fr.to (Fr.to (Fr.to (Fr.to hGN4 (by first | decide | (dsimp only; first | done | decide | omega) | omega)) (by first | decide | (dsimp only; first | done | decide | omega) | omega)) (by first | decide | (dsimp only; first | done | decide | omega) | omega)) (by first | decide | (dsimp only; first | done | decide | omega) | omega)) (by first | decide | (dsimp only; first | done | decide | omega) | omega))⟩ dX12_goesOn_198
          · refine lv_iconst (v := zI 3) hx hb dX12_goesOn_181 rfl ?_
            refine lv_goto (tgt := 186) hx hb dX12_goesOn_182 (by decide) ?_
            refine u_12_13 F w (a := 146) rfl tb_602 dX12_goesOn_186 (fun H locs w => ?_)
            refine lv_aload_n hx hb dX12_goesOn_189 rfl (lv_at hl 4 rfl) ?_
            refine lv_iload hx hb dX12_goesOn_190 (lv_at hl 0 rfl) ?_
            refine lv_bipush (v := zI 48) hx hb dX12_goesOn_192 (by decide) ?_
            refine z_isub (z := (z12 - 48)) hx hb dX12_goesOn_194 (by omega) ?_
            refine u_12_11 F w (a := 146) rfl tb_598 dX12_goesOn_195 (fun H locs w => ?_)
            rw [hQ]
            exact e_v F w hr hlocks ⟨⟨3, (z12 - 48), ((st_ne (Or.inr (by decide))).trans st_at), (st_at), ⟨by omega, by omega⟩, ⟨by omega, by omega⟩, (by omega)⟩, (IvR.to (IvR.to (IvR.to (IvR.to (IvR.to hIN4 (a := 146) (k := 14) (x := nz50) (show ivr 146 14 = ((-2147483648), 2147483647) from rfl) ⟨by omega, by omega⟩ ⟨by decide, by decide, by decide, fun q9 => absurd q9 (by decide)⟩) (a := 146) (k := 15) (x := 29) (show ivr 146 15 = ((-2147483648), 2147483647) from rfl) ⟨by omega, by omega⟩ ⟨by decide, by decide, by decide, fun q9 => absurd q9 (by decide)⟩) (a := 146) (k := 9) (x := (nz50 + 1)) (show ivr 146 9 = (0, 300) from rfl) ⟨by omega, by omega⟩ ⟨by decide, by decide, by decide, fun q9 => absurd q9 (by decide)⟩) (a := 146) (k := 13) (x := 3) (show ivr 146 13 = ((-2147483648), 2147483647) from rfl) ⟨by omega, by omega⟩ ⟨by decide, by decide, by decide, fun q9 => absurd q9 (by decide)⟩) (a := 146) (k := 11) (x := (z12 - 48)) (show ivr 146 11 = ((-99), 300) from rfl) ⟨by omega, by omega⟩ ⟨by decide, by decide, by decide, fun q9 => absurd q9 (by decide)⟩), (Fr.to (Fr.to (Fr.to (Fr.to (Fr.to hGN4 (by first | decide | (dsimp only; first | done | decide | omega) | omega)) (by first | decide | (dsimp only; first | done | decide | omega) | omega)) (by first | decide | (dsimp only; first | done | decide | omega) | omega)) (by first | decide | (dsimp only; first | done | decide | omega) | omega)) (by first | decide | (dsimp only; first | done | decide | omega) | omega))⟩ dX12_goesOn_198
        · refine lv_iload_n hx hb dX12_goesOn_162 rfl (lv_at hl 1 rfl) ?_
          refine z_if_eq (tgt := 170) hx hb (by omega) dX12_goesOn_163 (by decide) (fun c23 => ?_) (fun c23 => False.elim (by omega))
          refine lv_iconst (v := zI 2) hx hb dX12_goesOn_170 rfl ?_
          refine lv_goto (tgt := 186) hx hb dX12_goesOn_171 (by decide) ?_
          refine u_12_13 F w (a := 146) rfl tb_602 dX12_goesOn_186 (fun H locs w => ?_)
          refine lv_aload_n hx hb dX12_goesOn_189 rfl (lv_at hl 4 rfl) ?_
          refine lv_iload hx hb dX12_goesOn_190 (lv_at hl 0 rfl) ?_
          refine lv_bipush (v := zI 48) hx hb dX12_goesOn_192 (by decide) ?_
          refine z_isub (z := (z12 - 48)) hx hb dX12_goesOn_194 (by omega) ?_
          refine u_12_11 F w (a := 146) rfl tb_598 dX12_goesOn_195 (fun H locs w => ?_)
          rw [hQ]
          exact e_v F w hr hlocks ⟨⟨2, (z12 - 48), ((st_ne (Or.inr (by decide))).trans st_at), (st_at), ⟨by omega, by omega⟩, ⟨by omega, by omega⟩, (by omega)⟩, (IvR.to (IvR.to (IvR.to (IvR.to (IvR.to hIN4 (a := 146) (k := 14) (x := nz50) (show ivr 146 14 = ((-2147483648), 2147483647) from rfl) ⟨by omega, by omega⟩ ⟨by decide, by decide, by decide, fun q9 => absurd q9 (by decide)⟩) (a := 146) (k := 15) (x := 29) (show ivr 146 15 = ((-2147483648), 2147483647) from rfl) ⟨by omega, by omega⟩ ⟨by decide, by decide, by decide, fun q9 => absurd q9 (by decide)⟩) (a := 146) (k := 9) (x := (nz50 + 1)) (show ivr 146 9 = (0, 300) from rfl) ⟨by omega, by omega⟩ ⟨by decide, by decide, by decide, fun q9 => absurd q9 (by decide)⟩) (a := 146) (k := 13) (x := 2) (show ivr 146 13 = ((-2147483648), 2147483647) from rfl) ⟨by omega, by omega⟩ ⟨by decide, by decide, by decide, fun q9 => absurd q9 (by decide)⟩) (a := 146) (k := 11) (x := (z12 - 48)) (show ivr 146 11 = ((-99), 300) from rfl) ⟨by omega, by omega⟩ ⟨by decide, by decide, by decide, fun q9 => absurd q9 (by decide)⟩), (Fr.to (Fr.to (Fr.to (Fr.to (Fr.to hGN4 (by first | decide | (dsimp only; first | done | decide | omega) | omega)) (by first | decide | (dsimp only; first | done | decide | omega) | omega)) (by first | decide | (dsimp only; first | done | decide | omega) | omega)) (by first | decide | (dsimp only; first | done | decide | omega) | omega)) (by first | decide | (dsimp only; first | done | decide | omega) | omega))⟩ dX12_goesOn_198
      · have lp84 : ∀ (f : Nat)  (g146_9_84 : Int) (NL84 : Mem), (0 ≤ g146_9_84 ∧ g146_9_84 ≤ 300) → NL84.1 146 9 = zI g146_9_84 → NL84.1 146 13 = zI z1 → NL84.1 146 8 = zI z8 → NL84.1 146 14 = zI nz50 → NL84.1 146 15 = zI 29 → IvR NL84 → Fr (fun b9 k9 => (b9 = 146 ∧ k9 = 11) ∨ (b9 = 146 ∧ k9 = 13) ∨ (b9 = 146 ∧ k9 = 14) ∨ (b9 = 146 ∧ k9 = 15) ∨ (b9 = 146 ∧ k9 = 9)) NL84 M → (Int.toNat (300 - g146_9_84) < f) → ∀ (H : Heap) (locs : List Loc) (ls : Array Slot), Wd D B cy s s.heap NL84 H locs → lv_has ls 5 [(4, .int (zI z12)), (3, .int (zI 0)), (2, .int (zI z2)), (1, .int (zI z1)), (0, .ref (B + 146))] → W p l e (rmm 2 42) s m args below meth c H locs 0 0 Q (F0 m 84 ls []) := by
          intro f
          induction f with
          | zero => intros; omega
          | succ f ih84 =>
            intro  g146_9_84 NL84 ig146_9_84 eg146_9_84 eg146_13_84 eg146_8_84 eg146_14_84 eg146_15_84 hIL84 hFL84 hf84 H locs ls w hl
            refine lv_aload_n hx hb dX12_goesOn_84 rfl (lv_at hl 4 rfl) ?_
            obtain ⟨z24, bz24, ez24⟩ := IvR.ld (k := (Int.toNat g146_9_84)) hIL84 (show ivr 150 (Int.toNat g146_9_84) = (0, 255) from rfl) (show 146 ≤ 150 ∧ 150 < 159 by decide)
            refine k_Vi F w (As := []) (rest := []) (a := 146) (kd_lt (a := 146) (show kd 146 = (12, 0, 0) from rfl) (by decide)) (sh_12 rfl _ _) rfl (q_X12_here (ai := g146_9_84) (eg146_9_84) ⟨by omega, by omega⟩ (td := z8) (eg146_8_84) ⟨by omega, by omega⟩ (tv := z24) (ez24) ⟨by omega, by omega⟩  hIL84) gv_X12_175 hv_X12_here ⟨(Nat.le_of_ble_eq_true rfl), (Nat.le_of_ble_eq_true rfl)⟩ hl.1 rfl (Nat.le_of_ble_eq_true rfl) ⟨Nat.zero_le _, Nat.zero_le _⟩ dX12_goesOn_85 (fun r25 N26 H locs hp w => ?_)
            obtain ⟨z27, rfl, bz27, xz27, hMN26⟩ := hp
            rw [hMN26] at w
            refine lv_bipush (v := zI 97) hx hb dX12_goesOn_88 (by decide) ?_
            refine lv_bipush (v := zI 122) hx hb dX12_goesOn_90 (by decide) ?_
            refine k_Si F w (As := [.int (zI z27), .int (zI 97), .int (zI 122)]) (rest := []) (q_X12_in (x := z27) ⟨by omega, by omega⟩ (x1 := 97) ⟨by omega, by omega⟩ (x2 := 122) ⟨by omega, by omega⟩  hIL84) gs_X12_55 hs_X12_in ⟨(Nat.le_of_ble_eq_true rfl), (Nat.le_of_ble_eq_true rfl)⟩ hl.1 rfl (Nat.le_of_ble_eq_true rfl) ⟨Nat.zero_le _, Nat.zero_le _⟩ dX12_goesOn_92 (fun r28 N29 H locs hp w => ?_)
            obtain ⟨z30, rfl, bz30, xz30, hMN29⟩ := hp
            rw [hMN29] at w
            refine z_if_eq (tgt := 111) hx hb (by omega) dX12_goesOn_95 (by decide) (fun c31 => ?_) (fun c31 => ?_)
            · refine lv_aload_n hx hb dX12_goesOn_111 rfl (lv_at hl 4 rfl) ?_
              refine lv_iload_n hx hb dX12_goesOn_112 rfl (lv_at hl 1 rfl) ?_
              refine z_if_eq (tgt := 120) hx hb (by omega) dX12_goesOn_113 (by decide) (fun c32 => ?_) (fun c32 => False.elim (by omega))
              refine lv_iconst (v := zI 1) hx hb dX12_goesOn_120 rfl ?_
              refine u_12_13 F w (a := 146) rfl tb_602 dX12_goesOn_121 (fun H locs w => ?_)
              refine lv_aload_n hx hb dX12_goesOn_124 rfl (lv_at hl 4 rfl) ?_
              refine lv_aload_n hx hb dX12_goesOn_125 rfl (lv_at hl 4 rfl) ?_
              refine lv_aload_n hx hb dX12_goesOn_126 rfl (lv_at hl 4 rfl) ?_
              refine f_12_14 F w (a := 146) rfl tb_665 dX12_goesOn_127 ?_
              refine r_val (v := zI nz50) ((st_ne (Or.inr (by decide))).trans eg146_14_84) ?_
              refine lv_aload_n hx hb dX12_goesOn_130 rfl (lv_at hl 4 rfl) ?_
              refine f_12_9 F w (a := 146) rfl tb_586 dX12_goesOn_131 ?_
              refine r_val (v := zI g146_9_84) ((st_ne (Or.inr (by decide))).trans eg146_9_84) ?_
              refine k_Vi F w (As := [.int (zI nz50), .int (zI g146_9_84)]) (rest := [.ref (B + 146)]) (a := 146) (kd_lt (a := 146) (show kd 146 = (12, 0, 0) from rfl) (by decide)) (sh_12 rfl _ _) rfl (q_X12_wordAt (x := nz50) ⟨by omega, by omega⟩ (x1 := g146_9_84) ⟨by omega, by omega⟩  (IvR.to hIL84 (a := 146) (k := 13) (x := 1) (show ivr 146 13 = ((-2147483648), 2147483647) from rfl) ⟨by omega, by omega⟩ ⟨by decide, by decide, by decide, fun q9 => absurd q9 (by decide)⟩)) gv_X12_213 hv_X12_wordAt ⟨(Nat.le_of_ble_eq_true rfl), (Nat.le_of_ble_eq_true rfl)⟩ hl.1 rfl (Nat.le_of_ble_eq_true rfl) ⟨Nat.zero_le _, Nat.zero_le _⟩ dX12_goesOn_134 (fun r33 N34 H locs hp w => ?_)
              obtain ⟨z35, rfl, bz35, hMN34⟩ := hp
              rw [hMN34] at w
              refine u_12_15 F w (a := 146) rfl tb_603 dX12_goesOn_137 (fun H locs w => ?_)
              refine lv_goto (tgt := 198) hx hb dX12_goesOn_140 (by decide) ?_
              obtain ⟨z36, bz36, ez36⟩ := IvR.ld (k := 11) (IvR.to (IvR.to hIL84 (a := 146) (k := 13) (x := 1) (show ivr 146 13 = ((-2147483648), 2147483647) from rfl) ⟨by omega, by omega⟩ ⟨by decide, by decide, by decide, fun q9 => absurd q9 (by decide)⟩) (a := 146) (k := 15) (x := z35) (show ivr 146 15 = ((-2147483648), 2147483647) from rfl) ⟨by omega, by omega⟩ ⟨by decide, by decide, by decide, fun q9 => absurd q9 (by decide)⟩) (show ivr 146 11 = ((-99), 300) from rfl) (show 146 ≤ 146 ∧ 146 < 159 by decide)
              rw [hQ]
              exact e_v F w hr hlocks ⟨⟨1, z36, ((st_ne (Or.inr (by decide))).trans st_at), (ez36), ⟨by omega, by omega⟩, ⟨by omega, by omega⟩, (by omega)⟩, (IvR.to (IvR.to hIL84 (a := 146) (k := 13) (x := 1) (show ivr 146 13 = ((-2147483648), 2147483647) from rfl) ⟨by omega, by omega⟩ ⟨by decide, by decide, by decide, fun q9 => absurd q9 (by decide)⟩) (a := 146) (k := 15) (x := z35) (show ivr 146 15 = ((-2147483648), 2147483647) from rfl) ⟨by omega, by omega⟩ ⟨by decide, by decide, by decide, fun q9 => absurd q9 (by decide)⟩), (Fr.to (Fr.to hFL84 (by first | decide | (dsimp only; first | done | decide | omega) | omega)) (by first | decide | (dsimp only; first | done | decide | omega) | omega))⟩ dX12_goesOn_198
            · refine lv_aload_n hx hb dX12_goesOn_98 rfl (lv_at hl 4 rfl) ?_
              refine lv_dup hx hb dX12_goesOn_99 rfl ?_
              refine f_12_9 F w (a := 146) rfl tb_586 dX12_goesOn_100 ?_
              refine r_val (v := zI g146_9_84) (eg146_9_84) ?_
              refine lv_iconst (v := zI 1) hx hb dX12_goesOn_103 rfl ?_
              refine z_iadd (z := (g146_9_84 + 1)) hx hb dX12_goesOn_104 (by omega) ?_
              refine u_12_9 F w (a := 146) rfl tb_586 dX12_goesOn_105 (fun H locs w => ?_)
              refine lv_goto (tgt := 84) hx hb dX12_goesOn_108 (by decide) ?_
              exact ih84 (g146_9_84 + 1) (st NL84 146 9 (zI (g146_9_84 + 1)))  (by omega) (st_at) ((st_ne (Or.inr (by decide))).trans eg146_13_84) ((st_ne (Or.inr (by decide))).trans eg146_8_84) ((st_ne (Or.inr (by decide))).trans eg146_14_84) ((st_ne (Or.inr (by decide))).trans eg146_15_84)  (IvR.to hIL84 (a := 146) (k := 9) (x := (g146_9_84 + 1)) (show ivr 146 9 = (0, 300) from rfl) ⟨by omega, by omega⟩ ⟨by decide, by decide, by decide, fun q9 => absurd q9 (by decide)⟩) (Fr.to hFL84 (by first | decide | (dsimp only; first | done | decide | omega) | omega)) (by omega) _ _ _ w (lv_sub hl [0, 1, 2, 3, 4] rfl)
        exact lp84 _ nz50 (st (st N4 146 14 (zI nz50)) 146 15 (zI 29)) (by omega) ((st_ne (Or.inr (by decide))).trans ((st_ne (Or.inr (by decide))).trans enz50)) ((st_ne (Or.inr (by decide))).trans ((st_ne (Or.inr (by decide))).trans kn6)) ((st_ne (Or.inr (by decide))).trans ((st_ne (Or.inr (by decide))).trans ez8)) ((st_ne (Or.inr (by decide))).trans st_at) (st_at) (IvR.to (IvR.to hIN4 (a := 146) (k := 14) (x := nz50) (show ivr 146 14 = ((-2147483648), 2147483647) from rfl) ⟨by omega, by omega⟩ ⟨by decide, by decide, by decide, fun q9 => absurd q9 (by decide)⟩) (a := 146) (k := 15) (x := 29) (show ivr 146 15 = ((-2147483648), 2147483647) from rfl) ⟨by omega, by omega⟩ ⟨by decide, by decide, by decide, fun q9 => absurd q9 (by decide)⟩) (Fr.to (Fr.to hGN4 (by first | decide | (dsimp only; first | done | decide | omega) | omega)) (by first | decide | (dsimp only; first | done | decide | omega) | omega)) (Nat.lt_succ_self _) _ _ _ w (lv_sub hl [0, 1, 2, 3, 4] rfl)
    · refine lv_aload_n hx hb dX12_goesOn_64 rfl (lv_at hl 4 rfl) ?_
      refine lv_iconst (v := zI 0) hx hb dX12_goesOn_65 rfl ?_
      refine u_12_13 F w (a := 146) rfl tb_602 dX12_goesOn_66 (fun H locs w => ?_)
      refine lv_goto (tgt := 198) hx hb dX12_goesOn_69 (by decide) ?_
      obtain ⟨z37, bz37, ez37⟩ := IvR.ld (k := 11) (IvR.to (IvR.to (IvR.to hIN4 (a := 146) (k := 14) (x := nz50) (show ivr 146 14 = ((-2147483648), 2147483647) from rfl) ⟨by omega, by omega⟩ ⟨by decide, by decide, by decide, fun q9 => absurd q9 (by decide)⟩) (a := 146) (k := 15) (x := 29) (show ivr 146 15 = ((-2147483648), 2147483647) from rfl) ⟨by omega, by omega⟩ ⟨by decide, by decide, by decide, fun q9 => absurd q9 (by decide)⟩) (a := 146) (k := 13) (x := 0) (show ivr 146 13 = ((-2147483648), 2147483647) from rfl) ⟨by omega, by omega⟩ ⟨by decide, by decide, by decide, fun q9 => absurd q9 (by decide)⟩) (show ivr 146 11 = ((-99), 300) from rfl) (show 146 ≤ 146 ∧ 146 < 159 by decide)
      rw [hQ]
      exact e_v F w hr hlocks ⟨⟨0, z37, (st_at), (ez37), ⟨by omega, by omega⟩, ⟨by omega, by omega⟩, (by omega)⟩, (IvR.to (IvR.to (IvR.to hIN4 (a := 146) (k := 14) (x := nz50) (show ivr 146 14 = ((-2147483648), 2147483647) from rfl) ⟨by omega, by omega⟩ ⟨by decide, by decide, by decide, fun q9 => absurd q9 (by decide)⟩) (a := 146) (k := 15) (x := 29) (show ivr 146 15 = ((-2147483648), 2147483647) from rfl) ⟨by omega, by omega⟩ ⟨by decide, by decide, by decide, fun q9 => absurd q9 (by decide)⟩) (a := 146) (k := 13) (x := 0) (show ivr 146 13 = ((-2147483648), 2147483647) from rfl) ⟨by omega, by omega⟩ ⟨by decide, by decide, by decide, fun q9 => absurd q9 (by decide)⟩), (Fr.to (Fr.to (Fr.to hGN4 (by first | decide | (dsimp only; first | done | decide | omega) | omega)) (by first | decide | (dsimp only; first | done | decide | omega) | omega)) (by first | decide | (dsimp only; first | done | decide | omega) | omega))⟩ dX12_goesOn_198
  · refine lv_iload_n hx hb dX12_goesOn_30 rfl (lv_at hl 1 rfl) ?_
    refine lv_iconst (v := zI 1) hx hb dX12_goesOn_31 rfl ?_
    refine z_icmp_eq (tgt := 40) hx hb (by omega) (by omega) dX12_goesOn_32 (by decide) (fun c38 => ?_) (fun c38 => ?_)
    · refine lv_iconst (v := zI 1) hx hb dX12_goesOn_40 rfl ?_
      refine lv_goto (tgt := 45) hx hb dX12_goesOn_41 (by decide) ?_
      refine lv_istore_n (lv' := [(3, .int (zI 1)), (2, .int (zI z2)), (1, .int (zI z1)), (0, .ref (B + 146))]) hx hb dX12_goesOn_45 rfl hl (by decide) rfl (fun ls hl => ?_)
      refine lv_aload_n hx hb dX12_goesOn_46 rfl (lv_at hl 3 rfl) ?_
      obtain ⟨z39, bz39, ez39⟩ := IvR.ld (k := 8) hIN4 (show ivr 146 8 = (0, 300) from rfl) (show 146 ≤ 146 ∧ 146 < 159 by decide)
      obtain ⟨z40, bz40, ez40⟩ := IvR.ld (k := (Int.toNat nz50)) hIN4 (show ivr 150 (Int.toNat nz50) = (0, 255) from rfl) (show 146 ≤ 150 ∧ 150 < 159 by decide)
      refine k_Vi F w (As := []) (rest := []) (a := 146) (kd_lt (a := 146) (show kd 146 = (12, 0, 0) from rfl) (by decide)) (sh_12 rfl _ _) rfl (q_X12_here (ai := nz50) ((st_ne (Or.inr (by decide))).trans enz50) ⟨by omega, by omega⟩ (td := z39) ((st_ne (Or.inr (by decide))).trans ez39) ⟨by omega, by omega⟩ (tv := z40) ((st_ne (Or.inl (by decide))).trans ez40) ⟨by omega, by omega⟩  (IvR.to hIN4 (a := 146) (k := 14) (x := nz50) (show ivr 146 14 = ((-2147483648), 2147483647) from rfl) ⟨by omega, by omega⟩ ⟨by decide, by decide, by decide, fun q9 => absurd q9 (by decide)⟩)) gv_X12_175 hv_X12_here ⟨(Nat.le_of_ble_eq_true rfl), (Nat.le_of_ble_eq_true rfl)⟩ hl.1 rfl (Nat.le_of_ble_eq_true rfl) ⟨Nat.zero_le _, Nat.zero_le _⟩ dX12_goesOn_47 (fun r41 N42 H locs hp w => ?_)
      obtain ⟨z43, rfl, bz43, xz43, hMN42⟩ := hp
      rw [hMN42] at w
      refine lv_istore (lv' := [(4, .int (zI z43)), (3, .int (zI 1)), (2, .int (zI z2)), (1, .int (zI z1)), (0, .ref (B + 146))]) hx hb dX12_goesOn_50 hl (by decide) rfl (fun ls hl => ?_)
      refine lv_aload_n hx hb dX12_goesOn_52 rfl (lv_at hl 4 rfl) ?_
      refine lv_bipush (v := zI 29) hx hb dX12_goesOn_53 (by decide) ?_
      refine u_12_15 F w (a := 146) rfl tb_603 dX12_goesOn_55 (fun H locs w => ?_)
      refine lv_iload hx hb dX12_goesOn_58 (lv_at hl 0 rfl) ?_
      refine lv_iconst (v := zI (-1)) hx hb dX12_goesOn_60 rfl ?_
      refine z_icmp_ne (tgt := 72) hx hb (by omega) (by omega) dX12_goesOn_61 (by decide) (fun c44 => ?_) (fun c44 => ?_)
      · refine lv_iload hx hb dX12_goesOn_72 (lv_at hl 0 rfl) ?_
        refine lv_bipush (v := zI 97) hx hb dX12_goesOn_74 (by decide) ?_
        refine lv_bipush (v := zI 122) hx hb dX12_goesOn_76 (by decide) ?_
        refine k_Si F w (As := [.int (zI z43), .int (zI 97), .int (zI 122)]) (rest := []) (q_X12_in (x := z43) ⟨by omega, by omega⟩ (x1 := 97) ⟨by omega, by omega⟩ (x2 := 122) ⟨by omega, by omega⟩  (IvR.to (IvR.to hIN4 (a := 146) (k := 14) (x := nz50) (show ivr 146 14 = ((-2147483648), 2147483647) from rfl) ⟨by omega, by omega⟩ ⟨by decide, by decide, by decide, fun q9 => absurd q9 (by decide)⟩) (a := 146) (k := 15) (x := 29) (show ivr 146 15 = ((-2147483648), 2147483647) from rfl) ⟨by omega, by omega⟩ ⟨by decide, by decide, by decide, fun q9 => absurd q9 (by decide)⟩)) gs_X12_55 hs_X12_in ⟨(Nat.le_of_ble_eq_true rfl), (Nat.le_of_ble_eq_true rfl)⟩ hl.1 rfl (Nat.le_of_ble_eq_true rfl) ⟨Nat.zero_le _, Nat.zero_le _⟩ dX12_goesOn_78 (fun r45 N46 H locs hp w => ?_)
        obtain ⟨z47, rfl, bz47, xz47, hMN46⟩ := hp
        rw [hMN46] at w
        refine z_if_eq (tgt := 143) hx hb (by omega) dX12_goesOn_81 (by decide) (fun c48 => ?_) (fun c48 => ?_)
        · refine lv_aload_n hx hb dX12_goesOn_143 rfl (lv_at hl 4 rfl) ?_
          refine lv_dup hx hb dX12_goesOn_144 rfl ?_
          refine f_12_9 F w (a := 146) rfl tb_586 dX12_goesOn_145 ?_
          refine r_val (v := zI nz50) ((st_ne (Or.inr (by decide))).trans ((st_ne (Or.inr (by decide))).trans enz50)) ?_
          refine lv_iconst (v := zI 1) hx hb dX12_goesOn_148 rfl ?_
          refine z_iadd (z := (nz50 + 1)) hx hb dX12_goesOn_149 (by omega) ?_
          refine u_12_9 F w (a := 146) rfl tb_586 dX12_goesOn_150 (fun H locs w => ?_)
          refine lv_aload_n hx hb dX12_goesOn_153 rfl (lv_at hl 4 rfl) ?_
          refine lv_iload hx hb dX12_goesOn_154 (lv_at hl 0 rfl) ?_
          refine k_Si F w (As := [.int (zI z43)]) (rest := [.ref (B + 146)]) (q_X12_isDigit (x := z43) ⟨by omega, by omega⟩  (IvR.to (IvR.to (IvR.to hIN4 (a := 146) (k := 14) (x := nz50) (show ivr 146 14 = ((-2147483648), 2147483647) from rfl) ⟨by omega, by omega⟩ ⟨by decide, by decide, by decide, fun q9 => absurd q9 (by decide)⟩) (a := 146) (k := 15) (x := 29) (show ivr 146 15 = ((-2147483648), 2147483647) from rfl) ⟨by omega, by omega⟩ ⟨by decide, by decide, by decide, fun q9 => absurd q9 (by decide)⟩) (a := 146) (k := 9) (x := (nz50 + 1)) (show ivr 146 9 = (0, 300) from rfl) ⟨by omega, by omega⟩ ⟨by decide, by decide, by decide, fun q9 => absurd q9 (by decide)⟩)) gs_X12_182 hs_X12_isDigit ⟨(Nat.le_of_ble_eq_true rfl), (Nat.le_of_ble_eq_true rfl)⟩ hl.1 rfl (Nat.le_of_ble_eq_true rfl) ⟨Nat.zero_le _, Nat.zero_le _⟩ dX12_goesOn_156 (fun r49 N50 H locs hp w => ?_)
          obtain ⟨z51, rfl, bz51, xz51, hMN50⟩ := hp
          rw [hMN50] at w
          refine z_if_eq (tgt := 174) hx hb (by omega) dX12_goesOn_159 (by decide) (fun c52 => ?_) (fun c52 => ?_)
          · refine lv_iload hx hb dX12_goesOn_174 (lv_at hl 0 rfl) ?_
            refine lv_bipush (v := zI 59) hx hb dX12_goesOn_176 (by decide) ?_
            refine z_icmp_ne (tgt := 185) hx hb (by omega) (by omega) dX12_goesOn_178 (by decide) (fun c53 => ?_) (fun c53 => ?_)
            · refine lv_iconst (v := zI 4) hx hb dX12_goesOn_185 rfl ?_
              refine u_12_13 F w (a := 146) rfl tb_602 dX12_goesOn_186 (fun H locs w => ?_)
              refine lv_aload_n hx hb dX12_goesOn_189 rfl (lv_at hl 4 rfl) ?_
              refine lv_iload hx hb dX12_goesOn_190 (lv_at hl 0 rfl) ?_
              refine lv_bipush (v := zI 48) hx hb dX12_goesOn_192 (by decide) ?_
              refine z_isub (z := (z43 - 48)) hx hb dX12_goesOn_194 (by omega) ?_
              refine u_12_11 F w (a := 146) rfl tb_598 dX12_goesOn_195 (fun H locs w => ?_)
              rw [hQ]
              exact e_v F w hr hlocks ⟨⟨4, (z43 - 48), ((st_ne (Or.inr (by decide))).trans st_at), (st_at), ⟨by omega, by omega⟩, ⟨by omega, by omega⟩, (by omega)⟩, (IvR.to (IvR.to (IvR.to (IvR.to (IvR.to hIN4 (a := 146) (k := 14) (x := nz50) (show ivr 146 14 = ((-2147483648), 2147483647) from rfl) ⟨by omega, by omega⟩ ⟨by decide, by decide, by decide, fun q9 => absurd q9 (by decide)⟩) (a := 146) (k := 15) (x := 29) (show ivr 146 15 = ((-2147483648), 2147483647) from rfl) ⟨by omega, by omega⟩ ⟨by decide, by decide, by decide, fun q9 => absurd q9 (by decide)⟩) (a := 146) (k := 9) (x := (nz50 + 1)) (show ivr 146 9 = (0, 300) from rfl) ⟨by omega, by omega⟩ ⟨by decide, by decide, by decide, fun q9 => absurd q9 (by decide)⟩) (a := 146) (k := 13) (x := 4) (show ivr 146 13 = ((-2147483648), 2147483647) from rfl) ⟨by omega, by omega⟩ ⟨by decide, by decide, by decide, fun q9 => absurd q9 (by decide)⟩) (a := 146) (k := 11) (x := (z43 - 48)) (show ivr 146 11 = ((-99), 300) from rfl) ⟨by omega, by omega⟩ ⟨by decide, by decide, by decide, fun q9 => absurd q9 (by decide)⟩), (Fr.to (Fr.to (Fr.to (Fr.to (Fr.to hGN4 (by first | decide | (dsimp only; first | done | decide | omega) | omega)) (by first | decide | (dsimp only; first | done | decide | omega) | omega)) (by first | decide | (dsimp only; first | done | decide | omega) | omega)) (by first | decide | (dsimp only; first | done | decide | omega) | omega)) (by first | decide | (dsimp only; first | done | decide | omega) | omega))⟩ dX12_goesOn_198
            · refine lv_iconst (v := zI 3) hx hb dX12_goesOn_181 rfl ?_
              refine lv_goto (tgt := 186) hx hb dX12_goesOn_182 (by decide) ?_
              refine u_12_13 F w (a := 146) rfl tb_602 dX12_goesOn_186 (fun H locs w => ?_)
              refine lv_aload_n hx hb dX12_goesOn_189 rfl (lv_at hl 4 rfl) ?_
              refine lv_iload hx hb dX12_goesOn_190 (lv_at hl 0 rfl) ?_
              refine lv_bipush (v := zI 48) hx hb dX12_goesOn_192 (by decide) ?_
              refine z_isub (z := (z43 - 48)) hx hb dX12_goesOn_194 (by omega) ?_
              refine u_12_11 F w (a := 146) rfl tb_598 dX12_goesOn_195 (fun H locs w => ?_)
              rw [hQ]
              exact e_v F w hr hlocks ⟨⟨3, (z43 - 48), ((st_ne (Or.inr (by decide))).trans st_at), (st_at), ⟨by omega, by omega⟩, ⟨by omega, by omega⟩, (by omega)⟩, (IvR.to (IvR.to (IvR.to (IvR.to (IvR.to hIN4 (a := 146) (k := 14) (x := nz50) (show ivr 146 14 = ((-2147483648), 2147483647) from rfl) ⟨by omega, by omega⟩ ⟨by decide, by decide, by decide, fun q9 => absurd q9 (by decide)⟩) (a := 146) (k := 15) (x := 29) (show ivr 146 15 = ((-2147483648), 2147483647) from rfl) ⟨by omega, by omega⟩ ⟨by decide, by decide, by decide, fun q9 => absurd q9 (by decide)⟩) (a := 146) (k := 9) (x := (nz50 + 1)) (show ivr 146 9 = (0, 300) from rfl) ⟨by omega, by omega⟩ ⟨by decide, by decide, by decide, fun q9 => absurd q9 (by decide)⟩) (a := 146) (k := 13) (x := 3) (show ivr 146 13 = ((-2147483648), 2147483647) from rfl) ⟨by omega, by omega⟩ ⟨by decide, by decide, by decide, fun q9 => absurd q9 (by decide)⟩) (a := 146) (k := 11) (x := (z43 - 48)) (show ivr 146 11 = ((-99), 300) from rfl) ⟨by omega, by omega⟩ ⟨by decide, by decide, by decide, fun q9 => absurd q9 (by decide)⟩), (Fr.to (Fr.to (Fr.to (Fr.to (Fr.to hGN4 (by first | decide | (dsimp only; first | done | decide | omega) | omega)) (by first | decide | (dsimp only; first | done | decide | omega) | omega)) (by first | decide | (dsimp only; first | done | decide | omega) | omega)) (by first | decide | (dsimp only; first | done | decide | omega) | omega)) (by first | decide | (dsimp only; first | done | decide | omega) | omega))⟩ dX12_goesOn_198
          · refine lv_iload_n hx hb dX12_goesOn_162 rfl (lv_at hl 1 rfl) ?_
            refine z_if_eq (tgt := 170) hx hb (by omega) dX12_goesOn_163 (by decide) (fun c54 => False.elim (by omega)) (fun c54 => ?_)
            refine lv_iconst (v := zI 4) hx hb dX12_goesOn_166 rfl ?_
            refine lv_goto (tgt := 186) hx hb dX12_goesOn_167 (by decide) ?_
            refine u_12_13 F w (a := 146) rfl tb_602 dX12_goesOn_186 (fun H locs w => ?_)
            refine lv_aload_n hx hb dX12_goesOn_189 rfl (lv_at hl 4 rfl) ?_
            refine lv_iload hx hb dX12_goesOn_190 (lv_at hl 0 rfl) ?_
            refine lv_bipush (v := zI 48) hx hb dX12_goesOn_192 (by decide) ?_
            refine z_isub (z := (z43 - 48)) hx hb dX12_goesOn_194 (by omega) ?_
            refine u_12_11 F w (a := 146) rfl tb_598 dX12_goesOn_195 (fun H locs w => ?_)
            rw [hQ]
            exact e_v F w hr hlocks ⟨⟨4, (z43 - 48), ((st_ne (Or.inr (by decide))).trans st_at), (st_at), ⟨by omega, by omega⟩, ⟨by omega, by omega⟩, (by omega)⟩, (IvR.to (IvR.to (IvR.to (IvR.to (IvR.to hIN4 (a := 146) (k := 14) (x := nz50) (show ivr 146 14 = ((-2147483648), 2147483647) from rfl) ⟨by omega, by omega⟩ ⟨by decide, by decide, by decide, fun q9 => absurd q9 (by decide)⟩) (a := 146) (k := 15) (x := 29) (show ivr 146 15 = ((-2147483648), 2147483647) from rfl) ⟨by omega, by omega⟩ ⟨by decide, by decide, by decide, fun q9 => absurd q9 (by decide)⟩) (a := 146) (k := 9) (x := (nz50 + 1)) (show ivr 146 9 = (0, 300) from rfl) ⟨by omega, by omega⟩ ⟨by decide, by decide, by decide, fun q9 => absurd q9 (by decide)⟩) (a := 146) (k := 13) (x := 4) (show ivr 146 13 = ((-2147483648), 2147483647) from rfl) ⟨by omega, by omega⟩ ⟨by decide, by decide, by decide, fun q9 => absurd q9 (by decide)⟩) (a := 146) (k := 11) (x := (z43 - 48)) (show ivr 146 11 = ((-99), 300) from rfl) ⟨by omega, by omega⟩ ⟨by decide, by decide, by decide, fun q9 => absurd q9 (by decide)⟩), (Fr.to (Fr.to (Fr.to (Fr.to (Fr.to hGN4 (by first | decide | (dsimp only; first | done | decide | omega) | omega)) (by first | decide | (dsimp only; first | done | decide | omega) | omega)) (by first | decide | (dsimp only; first | done | decide | omega) | omega)) (by first | decide | (dsimp only; first | done | decide | omega) | omega)) (by first | decide | (dsimp only; first | done | decide | omega) | omega))⟩ dX12_goesOn_198
        · have lp84 : ∀ (f : Nat)  (g146_9_84 : Int) (NL84 : Mem), (0 ≤ g146_9_84 ∧ g146_9_84 ≤ 300) → NL84.1 146 9 = zI g146_9_84 → NL84.1 146 13 = zI z1 → NL84.1 146 8 = zI z39 → NL84.1 146 14 = zI nz50 → NL84.1 146 15 = zI 29 → IvR NL84 → Fr (fun b9 k9 => (b9 = 146 ∧ k9 = 11) ∨ (b9 = 146 ∧ k9 = 13) ∨ (b9 = 146 ∧ k9 = 14) ∨ (b9 = 146 ∧ k9 = 15) ∨ (b9 = 146 ∧ k9 = 9)) NL84 M → (Int.toNat (300 - g146_9_84) < f) → ∀ (H : Heap) (locs : List Loc) (ls : Array Slot), Wd D B cy s s.heap NL84 H locs → lv_has ls 5 [(4, .int (zI z43)), (3, .int (zI 1)), (2, .int (zI z2)), (1, .int (zI z1)), (0, .ref (B + 146))] → W p l e (rmm 2 42) s m args below meth c H locs 0 0 Q (F0 m 84 ls []) := by
            intro f
            induction f with
            | zero => intros; omega
            | succ f ih84 =>
              intro  g146_9_84 NL84 ig146_9_84 eg146_9_84 eg146_13_84 eg146_8_84 eg146_14_84 eg146_15_84 hIL84 hFL84 hf84 H locs ls w hl
              refine lv_aload_n hx hb dX12_goesOn_84 rfl (lv_at hl 4 rfl) ?_
              obtain ⟨z55, bz55, ez55⟩ := IvR.ld (k := (Int.toNat g146_9_84)) hIL84 (show ivr 150 (Int.toNat g146_9_84) = (0, 255) from rfl) (show 146 ≤ 150 ∧ 150 < 159 by decide)
              refine k_Vi F w (As := []) (rest := []) (a := 146) (kd_lt (a := 146) (show kd 146 = (12, 0, 0) from rfl) (by decide)) (sh_12 rfl _ _) rfl (q_X12_here (ai := g146_9_84) (eg146_9_84) ⟨by omega, by omega⟩ (td := z39) (eg146_8_84) ⟨by omega, by omega⟩ (tv := z55) (ez55) ⟨by omega, by omega⟩  hIL84) gv_X12_175 hv_X12_here ⟨(Nat.le_of_ble_eq_true rfl), (Nat.le_of_ble_eq_true rfl)⟩ hl.1 rfl (Nat.le_of_ble_eq_true rfl) ⟨Nat.zero_le _, Nat.zero_le _⟩ dX12_goesOn_85 (fun r56 N57 H locs hp w => ?_)
              obtain ⟨z58, rfl, bz58, xz58, hMN57⟩ := hp
              rw [hMN57] at w
              refine lv_bipush (v := zI 97) hx hb dX12_goesOn_88 (by decide) ?_
              refine lv_bipush (v := zI 122) hx hb dX12_goesOn_90 (by decide) ?_
              refine k_Si F w (As := [.int (zI z58), .int (zI 97), .int (zI 122)]) (rest := []) (q_X12_in (x := z58) ⟨by omega, by omega⟩ (x1 := 97) ⟨by omega, by omega⟩ (x2 := 122) ⟨by omega, by omega⟩  hIL84) gs_X12_55 hs_X12_in ⟨(Nat.le_of_ble_eq_true rfl), (Nat.le_of_ble_eq_true rfl)⟩ hl.1 rfl (Nat.le_of_ble_eq_true rfl) ⟨Nat.zero_le _, Nat.zero_le _⟩ dX12_goesOn_92 (fun r59 N60 H locs hp w => ?_)
              obtain ⟨z61, rfl, bz61, xz61, hMN60⟩ := hp
              rw [hMN60] at w
              refine z_if_eq (tgt := 111) hx hb (by omega) dX12_goesOn_95 (by decide) (fun c62 => ?_) (fun c62 => ?_)
              · refine lv_aload_n hx hb dX12_goesOn_111 rfl (lv_at hl 4 rfl) ?_
                refine lv_iload_n hx hb dX12_goesOn_112 rfl (lv_at hl 1 rfl) ?_
                refine z_if_eq (tgt := 120) hx hb (by omega) dX12_goesOn_113 (by decide) (fun c63 => False.elim (by omega)) (fun c63 => ?_)
                refine lv_iconst (v := zI 4) hx hb dX12_goesOn_116 rfl ?_
                refine lv_goto (tgt := 121) hx hb dX12_goesOn_117 (by decide) ?_
                refine u_12_13 F w (a := 146) rfl tb_602 dX12_goesOn_121 (fun H locs w => ?_)
                refine lv_aload_n hx hb dX12_goesOn_124 rfl (lv_at hl 4 rfl) ?_
                refine lv_aload_n hx hb dX12_goesOn_125 rfl (lv_at hl 4 rfl) ?_
                refine lv_aload_n hx hb dX12_goesOn_126 rfl (lv_at hl 4 rfl) ?_
                refine f_12_14 F w (a := 146) rfl tb_665 dX12_goesOn_127 ?_
                refine r_val (v := zI nz50) ((st_ne (Or.inr (by decide))).trans eg146_14_84) ?_
                refine lv_aload_n hx hb dX12_goesOn_130 rfl (lv_at hl 4 rfl) ?_
                refine f_12_9 F w (a := 146) rfl tb_586 dX12_goesOn_131 ?_
                refine r_val (v := zI g146_9_84) ((st_ne (Or.inr (by decide))).trans eg146_9_84) ?_
                refine k_Vi F w (As := [.int (zI nz50), .int (zI g146_9_84)]) (rest := [.ref (B + 146)]) (a := 146) (kd_lt (a := 146) (show kd 146 = (12, 0, 0) from rfl) (by decide)) (sh_12 rfl _ _) rfl (q_X12_wordAt (x := nz50) ⟨by omega, by omega⟩ (x1 := g146_9_84) ⟨by omega, by omega⟩  (IvR.to hIL84 (a := 146) (k := 13) (x := 4) (show ivr 146 13 = ((-2147483648), 2147483647) from rfl) ⟨by omega, by omega⟩ ⟨by decide, by decide, by decide, fun q9 => absurd q9 (by decide)⟩)) gv_X12_213 hv_X12_wordAt ⟨(Nat.le_of_ble_eq_true rfl), (Nat.le_of_ble_eq_true rfl)⟩ hl.1 rfl (Nat.le_of_ble_eq_true rfl) ⟨Nat.zero_le _, Nat.zero_le _⟩ dX12_goesOn_134 (fun r64 N65 H locs hp w => ?_)
                obtain ⟨z66, rfl, bz66, hMN65⟩ := hp
                rw [hMN65] at w
                refine u_12_15 F w (a := 146) rfl tb_603 dX12_goesOn_137 (fun H locs w => ?_)
                refine lv_goto (tgt := 198) hx hb dX12_goesOn_140 (by decide) ?_
                obtain ⟨z67, bz67, ez67⟩ := IvR.ld (k := 11) (IvR.to (IvR.to hIL84 (a := 146) (k := 13) (x := 4) (show ivr 146 13 = ((-2147483648), 2147483647) from rfl) ⟨by omega, by omega⟩ ⟨by decide, by decide, by decide, fun q9 => absurd q9 (by decide)⟩) (a := 146) (k := 15) (x := z66) (show ivr 146 15 = ((-2147483648), 2147483647) from rfl) ⟨by omega, by omega⟩ ⟨by decide, by decide, by decide, fun q9 => absurd q9 (by decide)⟩) (show ivr 146 11 = ((-99), 300) from rfl) (show 146 ≤ 146 ∧ 146 < 159 by decide)
                rw [hQ]
                exact e_v F w hr hlocks ⟨⟨4, z67, ((st_ne (Or.inr (by decide))).trans st_at), (ez67), ⟨by omega, by omega⟩, ⟨by omega, by omega⟩, (by omega)⟩, (IvR.to (IvR.to hIL84 (a := 146) (k := 13) (x := 4) (show ivr 146 13 = ((-2147483648), 2147483647) from rfl) ⟨by omega, by omega⟩ ⟨by decide, by decide, by decide, fun q9 => absurd q9 (by decide)⟩) (a := 146) (k := 15) (x := z66) (show ivr 146 15 = ((-2147483648), 2147483647) from rfl) ⟨by omega, by omega⟩ ⟨by decide, by decide, by decide, fun q9 => absurd q9 (by decide)⟩), (Fr.to (Fr.to hFL84 (by first | decide | (dsimp only; first | done | decide | omega) | omega)) (by first | decide | (dsimp only; first | done | decide | omega) | omega))⟩ dX12_goesOn_198
              · refine lv_aload_n hx hb dX12_goesOn_98 rfl (lv_at hl 4 rfl) ?_
                refine lv_dup hx hb dX12_goesOn_99 rfl ?_
                refine f_12_9 F w (a := 146) rfl tb_586 dX12_goesOn_100 ?_
                refine r_val (v := zI g146_9_84) (eg146_9_84) ?_
                refine lv_iconst (v := zI 1) hx hb dX12_goesOn_103 rfl ?_
                refine z_iadd (z := (g146_9_84 + 1)) hx hb dX12_goesOn_104 (by omega) ?_
                refine u_12_9 F w (a := 146) rfl tb_586 dX12_goesOn_105 (fun H locs w => ?_)
                refine lv_goto (tgt := 84) hx hb dX12_goesOn_108 (by decide) ?_
                exact ih84 (g146_9_84 + 1) (st NL84 146 9 (zI (g146_9_84 + 1)))  (by omega) (st_at) ((st_ne (Or.inr (by decide))).trans eg146_13_84) ((st_ne (Or.inr (by decide))).trans eg146_8_84) ((st_ne (Or.inr (by decide))).trans eg146_14_84) ((st_ne (Or.inr (by decide))).trans eg146_15_84)  (IvR.to hIL84 (a := 146) (k := 9) (x := (g146_9_84 + 1)) (show ivr 146 9 = (0, 300) from rfl) ⟨by omega, by omega⟩ ⟨by decide, by decide, by decide, fun q9 => absurd q9 (by decide)⟩) (Fr.to hFL84 (by first | decide | (dsimp only; first | done | decide | omega) | omega)) (by omega) _ _ _ w (lv_sub hl [0, 1, 2, 3, 4] rfl)
          exact lp84 _ nz50 (st (st N4 146 14 (zI nz50)) 146 15 (zI 29)) (by omega) ((st_ne (Or.inr (by decide))).trans ((st_ne (Or.inr (by decide))).trans enz50)) ((st_ne (Or.inr (by decide))).trans ((st_ne (Or.inr (by decide))).trans kn6)) ((st_ne (Or.inr (by decide))).trans ((st_ne (Or.inr (by decide))).trans ez39)) ((st_ne (Or.inr (by decide))).trans st_at) (st_at) (IvR.to (IvR.to hIN4 (a := 146) (k := 14) (x := nz50) (show ivr 146 14 = ((-2147483648), 2147483647) from rfl) ⟨by omega, by omega⟩ ⟨by decide, by decide, by decide, fun q9 => absurd q9 (by decide)⟩) (a := 146) (k := 15) (x := 29) (show ivr 146 15 = ((-2147483648), 2147483647) from rfl) ⟨by omega, by omega⟩ ⟨by decide, by decide, by decide, fun q9 => absurd q9 (by decide)⟩) (Fr.to (Fr.to hGN4 (by first | decide | (dsimp only; first | done | decide | omega) | omega)) (by first | decide | (dsimp only; first | done | decide | omega) | omega)) (Nat.lt_succ_self _) _ _ _ w (lv_sub hl [0, 1, 2, 3, 4] rfl)
      · refine lv_aload_n hx hb dX12_goesOn_64 rfl (lv_at hl 4 rfl) ?_
        refine lv_iconst (v := zI 0) hx hb dX12_goesOn_65 rfl ?_
        refine u_12_13 F w (a := 146) rfl tb_602 dX12_goesOn_66 (fun H locs w => ?_)
        refine lv_goto (tgt := 198) hx hb dX12_goesOn_69 (by decide) ?_
        obtain ⟨z68, bz68, ez68⟩ := IvR.ld (k := 11) (IvR.to (IvR.to (IvR.to hIN4 (a := 146) (k := 14) (x := nz50) (show ivr 146 14 = ((-2147483648), 2147483647) from rfl) ⟨by omega, by omega⟩ ⟨by decide, by decide, by decide, fun q9 => absurd q9 (by decide)⟩) (a := 146) (k := 15) (x := 29) (show ivr 146 15 = ((-2147483648), 2147483647) from rfl) ⟨by omega, by omega⟩ ⟨by decide, by decide, by decide, fun q9 => absurd q9 (by decide)⟩) (a := 146) (k := 13) (x := 0) (show ivr 146 13 = ((-2147483648), 2147483647) from rfl) ⟨by omega, by omega⟩ ⟨by decide, by decide, by decide, fun q9 => absurd q9 (by decide)⟩) (show ivr 146 11 = ((-99), 300) from rfl) (show 146 ≤ 146 ∧ 146 < 159 by decide)
        rw [hQ]
        exact e_v F w hr hlocks ⟨⟨0, z68, (st_at), (ez68), ⟨by omega, by omega⟩, ⟨by omega, by omega⟩, (by omega)⟩, (IvR.to (IvR.to (IvR.to hIN4 (a := 146) (k := 14) (x := nz50) (show ivr 146 14 = ((-2147483648), 2147483647) from rfl) ⟨by omega, by omega⟩ ⟨by decide, by decide, by decide, fun q9 => absurd q9 (by decide)⟩) (a := 146) (k := 15) (x := 29) (show ivr 146 15 = ((-2147483648), 2147483647) from rfl) ⟨by omega, by omega⟩ ⟨by decide, by decide, by decide, fun q9 => absurd q9 (by decide)⟩) (a := 146) (k := 13) (x := 0) (show ivr 146 13 = ((-2147483648), 2147483647) from rfl) ⟨by omega, by omega⟩ ⟨by decide, by decide, by decide, fun q9 => absurd q9 (by decide)⟩), (Fr.to (Fr.to (Fr.to hGN4 (by first | decide | (dsimp only; first | done | decide | omega) | omega)) (by first | decide | (dsimp only; first | done | decide | omega) | omega)) (by first | decide | (dsimp only; first | done | decide | omega) | omega))⟩ dX12_goesOn_198
    · refine lv_iload_n hx hb dX12_goesOn_35 rfl (lv_at hl 1 rfl) ?_
      refine lv_iconst (v := zI 2) hx hb dX12_goesOn_36 rfl ?_
      refine z_icmp_ne (tgt := 44) hx hb (by omega) (by omega) dX12_goesOn_37 (by decide) (fun c69 => ?_) (fun c69 => ?_)
      · refine lv_iconst (v := zI 0) hx hb dX12_goesOn_44 rfl ?_
        refine lv_istore_n (lv' := [(3, .int (zI 0)), (2, .int (zI z2)), (1, .int (zI z1)), (0, .ref (B + 146))]) hx hb dX12_goesOn_45 rfl hl (by decide) rfl (fun ls hl => ?_)
        refine lv_aload_n hx hb dX12_goesOn_46 rfl (lv_at hl 3 rfl) ?_
        obtain ⟨z70, bz70, ez70⟩ := IvR.ld (k := 8) hIN4 (show ivr 146 8 = (0, 300) from rfl) (show 146 ≤ 146 ∧ 146 < 159 by decide)
        obtain ⟨z71, bz71, ez71⟩ := IvR.ld (k := (Int.toNat nz50)) hIN4 (show ivr 150 (Int.toNat nz50) = (0, 255) from rfl) (show 146 ≤ 150 ∧ 150 < 159 by decide)
        refine k_Vi F w (As := []) (rest := []) (a := 146) (kd_lt (a := 146) (show kd 146 = (12, 0, 0) from rfl) (by decide)) (sh_12 rfl _ _) rfl (q_X12_here (ai := nz50) ((st_ne (Or.inr (by decide))).trans enz50) ⟨by omega, by omega⟩ (td := z70) ((st_ne (Or.inr (by decide))).trans ez70) ⟨by omega, by omega⟩ (tv := z71) ((st_ne (Or.inl (by decide))).trans ez71) ⟨by omega, by omega⟩  (IvR.to hIN4 (a := 146) (k := 14) (x := nz50) (show ivr 146 14 = ((-2147483648), 2147483647) from rfl) ⟨by omega, by omega⟩ ⟨by decide, by decide, by decide, fun q9 => absurd q9 (by decide)⟩)) gv_X12_175 hv_X12_here ⟨(Nat.le_of_ble_eq_true rfl), (Nat.le_of_ble_eq_true rfl)⟩ hl.1 rfl (Nat.le_of_ble_eq_true rfl) ⟨Nat.zero_le _, Nat.zero_le _⟩ dX12_goesOn_47 (fun r72 N73 H locs hp w => ?_)
        obtain ⟨z74, rfl, bz74, xz74, hMN73⟩ := hp
        rw [hMN73] at w
        refine lv_istore (lv' := [(4, .int (zI z74)), (3, .int (zI 0)), (2, .int (zI z2)), (1, .int (zI z1)), (0, .ref (B + 146))]) hx hb dX12_goesOn_50 hl (by decide) rfl (fun ls hl => ?_)
        refine lv_aload_n hx hb dX12_goesOn_52 rfl (lv_at hl 4 rfl) ?_
        refine lv_bipush (v := zI 29) hx hb dX12_goesOn_53 (by decide) ?_
        refine u_12_15 F w (a := 146) rfl tb_603 dX12_goesOn_55 (fun H locs w => ?_)
        refine lv_iload hx hb dX12_goesOn_58 (lv_at hl 0 rfl) ?_
        refine lv_iconst (v := zI (-1)) hx hb dX12_goesOn_60 rfl ?_
        refine z_icmp_ne (tgt := 72) hx hb (by omega) (by omega) dX12_goesOn_61 (by decide) (fun c75 => ?_) (fun c75 => ?_)
        · refine lv_iload hx hb dX12_goesOn_72 (lv_at hl 0 rfl) ?_
          refine lv_bipush (v := zI 97) hx hb dX12_goesOn_74 (by decide) ?_
          refine lv_bipush (v := zI 122) hx hb dX12_goesOn_76 (by decide) ?_
          refine k_Si F w (As := [.int (zI z74), .int (zI 97), .int (zI 122)]) (rest := []) (q_X12_in (x := z74) ⟨by omega, by omega⟩ (x1 := 97) ⟨by omega, by omega⟩ (x2 := 122) ⟨by omega, by omega⟩  (IvR.to (IvR.to hIN4 (a := 146) (k := 14) (x := nz50) (show ivr 146 14 = ((-2147483648), 2147483647) from rfl) ⟨by omega, by omega⟩ ⟨by decide, by decide, by decide, fun q9 => absurd q9 (by decide)⟩) (a := 146) (k := 15) (x := 29) (show ivr 146 15 = ((-2147483648), 2147483647) from rfl) ⟨by omega, by omega⟩ ⟨by decide, by decide, by decide, fun q9 => absurd q9 (by decide)⟩)) gs_X12_55 hs_X12_in ⟨(Nat.le_of_ble_eq_true rfl), (Nat.le_of_ble_eq_true rfl)⟩ hl.1 rfl (Nat.le_of_ble_eq_true rfl) ⟨Nat.zero_le _, Nat.zero_le _⟩ dX12_goesOn_78 (fun r76 N77 H locs hp w => ?_)
          obtain ⟨z78, rfl, bz78, xz78, hMN77⟩ := hp
          rw [hMN77] at w
          refine z_if_eq (tgt := 143) hx hb (by omega) dX12_goesOn_81 (by decide) (fun c79 => ?_) (fun c79 => ?_)
          · refine lv_aload_n hx hb dX12_goesOn_143 rfl (lv_at hl 4 rfl) ?_
            refine lv_dup hx hb dX12_goesOn_144 rfl ?_
            refine f_12_9 F w (a := 146) rfl tb_586 dX12_goesOn_145 ?_
            refine r_val (v := zI nz50) ((st_ne (Or.inr (by decide))).trans ((st_ne (Or.inr (by decide))).trans enz50)) ?_
            refine lv_iconst (v := zI 1) hx hb dX12_goesOn_148 rfl ?_
            refine z_iadd (z := (nz50 + 1)) hx hb dX12_goesOn_149 (by omega) ?_
            refine u_12_9 F w (a := 146) rfl tb_586 dX12_goesOn_150 (fun H locs w => ?_)
            refine lv_aload_n hx hb dX12_goesOn_153 rfl (lv_at hl 4 rfl) ?_
            refine lv_iload hx hb dX12_goesOn_154 (lv_at hl 0 rfl) ?_
            refine k_Si F w (As := [.int (zI z74)]) (rest := [.ref (B + 146)]) (q_X12_isDigit (x := z74) ⟨by omega, by omega⟩  (IvR.to (IvR.to (IvR.to hIN4 (a := 146) (k := 14) (x := nz50) (show ivr 146 14 = ((-2147483648), 2147483647) from rfl) ⟨by omega, by omega⟩ ⟨by decide, by decide, by decide, fun q9 => absurd q9 (by decide)⟩) (a := 146) (k := 15) (x := 29) (show ivr 146 15 = ((-2147483648), 2147483647) from rfl) ⟨by omega, by omega⟩ ⟨by decide, by decide, by decide, fun q9 => absurd q9 (by decide)⟩) (a := 146) (k := 9) (x := (nz50 + 1)) (show ivr 146 9 = (0, 300) from rfl) ⟨by omega, by omega⟩ ⟨by decide, by decide, by decide, fun q9 => absurd q9 (by decide)⟩)) gs_X12_182 hs_X12_isDigit ⟨(Nat.le_of_ble_eq_true rfl), (Nat.le_of_ble_eq_true rfl)⟩ hl.1 rfl (Nat.le_of_ble_eq_true rfl) ⟨Nat.zero_le _, Nat.zero_le _⟩ dX12_goesOn_156 (fun r80 N81 H locs hp w => ?_)
            obtain ⟨z82, rfl, bz82, xz82, hMN81⟩ := hp
            rw [hMN81] at w
            refine z_if_eq (tgt := 174) hx hb (by omega) dX12_goesOn_159 (by decide) (fun c83 => ?_) (fun c83 => ?_)
            · refine lv_iload hx hb dX12_goesOn_174 (lv_at hl 0 rfl) ?_
              refine lv_bipush (v := zI 59) hx hb dX12_goesOn_176 (by decide) ?_
              refine z_icmp_ne (tgt := 185) hx hb (by omega) (by omega) dX12_goesOn_178 (by decide) (fun c84 => ?_) (fun c84 => ?_)
              · refine lv_iconst (v := zI 4) hx hb dX12_goesOn_185 rfl ?_
                refine u_12_13 F w (a := 146) rfl tb_602 dX12_goesOn_186 (fun H locs w => ?_)
                refine lv_aload_n hx hb dX12_goesOn_189 rfl (lv_at hl 4 rfl) ?_
                refine lv_iload hx hb dX12_goesOn_190 (lv_at hl 0 rfl) ?_
                refine lv_bipush (v := zI 48) hx hb dX12_goesOn_192 (by decide) ?_
                refine z_isub (z := (z74 - 48)) hx hb dX12_goesOn_194 (by omega) ?_
                refine u_12_11 F w (a := 146) rfl tb_598 dX12_goesOn_195 (fun H locs w => ?_)
                rw [hQ]
                exact e_v F w hr hlocks ⟨⟨4, (z74 - 48), ((st_ne (Or.inr (by decide))).trans st_at), (st_at), ⟨by omega, by omega⟩, ⟨by omega, by omega⟩, (by omega)⟩, (IvR.to (IvR.to (IvR.to (IvR.to (IvR.to hIN4 (a := 146) (k := 14) (x := nz50) (show ivr 146 14 = ((-2147483648), 2147483647) from rfl) ⟨by omega, by omega⟩ ⟨by decide, by decide, by decide, fun q9 => absurd q9 (by decide)⟩) (a := 146) (k := 15) (x := 29) (show ivr 146 15 = ((-2147483648), 2147483647) from rfl) ⟨by omega, by omega⟩ ⟨by decide, by decide, by decide, fun q9 => absurd q9 (by decide)⟩) (a := 146) (k := 9) (x := (nz50 + 1)) (show ivr 146 9 = (0, 300) from rfl) ⟨by omega, by omega⟩ ⟨by decide, by decide, by decide, fun q9 => absurd q9 (by decide)⟩) (a := 146) (k := 13) (x := 4) (show ivr 146 13 = ((-2147483648), 2147483647) from rfl) ⟨by omega, by omega⟩ ⟨by decide, by decide, by decide, fun q9 => absurd q9 (by decide)⟩) (a := 146) (k := 11) (x := (z74 - 48)) (show ivr 146 11 = ((-99), 300) from rfl) ⟨by omega, by omega⟩ ⟨by decide, by decide, by decide, fun q9 => absurd q9 (by decide)⟩), (Fr.to (Fr.to (Fr.to (Fr.to (Fr.to hGN4 (by first | decide | (dsimp only; first | done | decide | omega) | omega)) (by first | decide | (dsimp only; first | done | decide | omega) | omega)) (by first | decide | (dsimp only; first | done | decide | omega) | omega)) (by first | decide | (dsimp only; first | done | decide | omega) | omega)) (by first | decide | (dsimp only; first | done | decide | omega) | omega))⟩ dX12_goesOn_198
              · refine lv_iconst (v := zI 3) hx hb dX12_goesOn_181 rfl ?_
                refine lv_goto (tgt := 186) hx hb dX12_goesOn_182 (by decide) ?_
                refine u_12_13 F w (a := 146) rfl tb_602 dX12_goesOn_186 (fun H locs w => ?_)
                refine lv_aload_n hx hb dX12_goesOn_189 rfl (lv_at hl 4 rfl) ?_
                refine lv_iload hx hb dX12_goesOn_190 (lv_at hl 0 rfl) ?_
                refine lv_bipush (v := zI 48) hx hb dX12_goesOn_192 (by decide) ?_
                refine z_isub (z := (z74 - 48)) hx hb dX12_goesOn_194 (by omega) ?_
                refine u_12_11 F w (a := 146) rfl tb_598 dX12_goesOn_195 (fun H locs w => ?_)
                rw [hQ]
                exact e_v F w hr hlocks ⟨⟨3, (z74 - 48), ((st_ne (Or.inr (by decide))).trans st_at), (st_at), ⟨by omega, by omega⟩, ⟨by omega, by omega⟩, (by omega)⟩, (IvR.to (IvR.to (IvR.to (IvR.to (IvR.to hIN4 (a := 146) (k := 14) (x := nz50) (show ivr 146 14 = ((-2147483648), 2147483647) from rfl) ⟨by omega, by omega⟩ ⟨by decide, by decide, by decide, fun q9 => absurd q9 (by decide)⟩) (a := 146) (k := 15) (x := 29) (show ivr 146 15 = ((-2147483648), 2147483647) from rfl) ⟨by omega, by omega⟩ ⟨by decide, by decide, by decide, fun q9 => absurd q9 (by decide)⟩) (a := 146) (k := 9) (x := (nz50 + 1)) (show ivr 146 9 = (0, 300) from rfl) ⟨by omega, by omega⟩ ⟨by decide, by decide, by decide, fun q9 => absurd q9 (by decide)⟩) (a := 146) (k := 13) (x := 3) (show ivr 146 13 = ((-2147483648), 2147483647) from rfl) ⟨by omega, by omega⟩ ⟨by decide, by decide, by decide, fun q9 => absurd q9 (by decide)⟩) (a := 146) (k := 11) (x := (z74 - 48)) (show ivr 146 11 = ((-99), 300) from rfl) ⟨by omega, by omega⟩ ⟨by decide, by decide, by decide, fun q9 => absurd q9 (by decide)⟩), (Fr.to (Fr.to (Fr.to (Fr.to (Fr.to hGN4 (by first | decide | (dsimp only; first | done | decide | omega) | omega)) (by first | decide | (dsimp only; first | done | decide | omega) | omega)) (by first | decide | (dsimp only; first | done | decide | omega) | omega)) (by first | decide | (dsimp only; first | done | decide | omega) | omega)) (by first | decide | (dsimp only; first | done | decide | omega) | omega))⟩ dX12_goesOn_198
            · refine lv_iload_n hx hb dX12_goesOn_162 rfl (lv_at hl 1 rfl) ?_
              refine z_if_eq (tgt := 170) hx hb (by omega) dX12_goesOn_163 (by decide) (fun c85 => ?_) (fun c85 => False.elim (by omega))
              refine lv_iconst (v := zI 2) hx hb dX12_goesOn_170 rfl ?_
              refine lv_goto (tgt := 186) hx hb dX12_goesOn_171 (by decide) ?_
              refine u_12_13 F w (a := 146) rfl tb_602 dX12_goesOn_186 (fun H locs w => ?_)
              refine lv_aload_n hx hb dX12_goesOn_189 rfl (lv_at hl 4 rfl) ?_
              refine lv_iload hx hb dX12_goesOn_190 (lv_at hl 0 rfl) ?_
              refine lv_bipush (v := zI 48) hx hb dX12_goesOn_192 (by decide) ?_
              refine z_isub (z := (z74 - 48)) hx hb dX12_goesOn_194 (by omega) ?_
              refine u_12_11 F w (a := 146) rfl tb_598 dX12_goesOn_195 (fun H locs w => ?_)
              rw [hQ]
              exact e_v F w hr hlocks ⟨⟨2, (z74 - 48), ((st_ne (Or.inr (by decide))).trans st_at), (st_at), ⟨by omega, by omega⟩, ⟨by omega, by omega⟩, (by omega)⟩, (IvR.to (IvR.to (IvR.to (IvR.to (IvR.to hIN4 (a := 146) (k := 14) (x := nz50) (show ivr 146 14 = ((-2147483648), 2147483647) from rfl) ⟨by omega, by omega⟩ ⟨by decide, by decide, by decide, fun q9 => absurd q9 (by decide)⟩) (a := 146) (k := 15) (x := 29) (show ivr 146 15 = ((-2147483648), 2147483647) from rfl) ⟨by omega, by omega⟩ ⟨by decide, by decide, by decide, fun q9 => absurd q9 (by decide)⟩) (a := 146) (k := 9) (x := (nz50 + 1)) (show ivr 146 9 = (0, 300) from rfl) ⟨by omega, by omega⟩ ⟨by decide, by decide, by decide, fun q9 => absurd q9 (by decide)⟩) (a := 146) (k := 13) (x := 2) (show ivr 146 13 = ((-2147483648), 2147483647) from rfl) ⟨by omega, by omega⟩ ⟨by decide, by decide, by decide, fun q9 => absurd q9 (by decide)⟩) (a := 146) (k := 11) (x := (z74 - 48)) (show ivr 146 11 = ((-99), 300) from rfl) ⟨by omega, by omega⟩ ⟨by decide, by decide, by decide, fun q9 => absurd q9 (by decide)⟩), (Fr.to (Fr.to (Fr.to (Fr.to (Fr.to hGN4 (by first | decide | (dsimp only; first | done | decide | omega) | omega)) (by first | decide | (dsimp only; first | done | decide | omega) | omega)) (by first | decide | (dsimp only; first | done | decide | omega) | omega)) (by first | decide | (dsimp only; first | done | decide | omega) | omega)) (by first | decide | (dsimp only; first | done | decide | omega) | omega))⟩ dX12_goesOn_198
          · have lp84 : ∀ (f : Nat)  (g146_9_84 : Int) (NL84 : Mem), (0 ≤ g146_9_84 ∧ g146_9_84 ≤ 300) → NL84.1 146 9 = zI g146_9_84 → NL84.1 146 13 = zI z1 → NL84.1 146 8 = zI z70 → NL84.1 146 14 = zI nz50 → NL84.1 146 15 = zI 29 → IvR NL84 → Fr (fun b9 k9 => (b9 = 146 ∧ k9 = 11) ∨ (b9 = 146 ∧ k9 = 13) ∨ (b9 = 146 ∧ k9 = 14) ∨ (b9 = 146 ∧ k9 = 15) ∨ (b9 = 146 ∧ k9 = 9)) NL84 M → (Int.toNat (300 - g146_9_84) < f) → ∀ (H : Heap) (locs : List Loc) (ls : Array Slot), Wd D B cy s s.heap NL84 H locs → lv_has ls 5 [(4, .int (zI z74)), (3, .int (zI 0)), (2, .int (zI z2)), (1, .int (zI z1)), (0, .ref (B + 146))] → W p l e (rmm 2 42) s m args below meth c H locs 0 0 Q (F0 m 84 ls []) := by
              intro f
              induction f with
              | zero => intros; omega
              | succ f ih84 =>
                intro  g146_9_84 NL84 ig146_9_84 eg146_9_84 eg146_13_84 eg146_8_84 eg146_14_84 eg146_15_84 hIL84 hFL84 hf84 H locs ls w hl
                refine lv_aload_n hx hb dX12_goesOn_84 rfl (lv_at hl 4 rfl) ?_
                obtain ⟨z86, bz86, ez86⟩ := IvR.ld (k := (Int.toNat g146_9_84)) hIL84 (show ivr 150 (Int.toNat g146_9_84) = (0, 255) from rfl) (show 146 ≤ 150 ∧ 150 < 159 by decide)
                refine k_Vi F w (As := []) (rest := []) (a := 146) (kd_lt (a := 146) (show kd 146 = (12, 0, 0) from rfl) (by decide)) (sh_12 rfl _ _) rfl (q_X12_here (ai := g146_9_84) (eg146_9_84) ⟨by omega, by omega⟩ (td := z70) (eg146_8_84) ⟨by omega, by omega⟩ (tv := z86) (ez86) ⟨by omega, by omega⟩  hIL84) gv_X12_175 hv_X12_here ⟨(Nat.le_of_ble_eq_true rfl), (Nat.le_of_ble_eq_true rfl)⟩ hl.1 rfl (Nat.le_of_ble_eq_true rfl) ⟨Nat.zero_le _, Nat.zero_le _⟩ dX12_goesOn_85 (fun r87 N88 H locs hp w => ?_)
                obtain ⟨z89, rfl, bz89, xz89, hMN88⟩ := hp
                rw [hMN88] at w
                refine lv_bipush (v := zI 97) hx hb dX12_goesOn_88 (by decide) ?_
                refine lv_bipush (v := zI 122) hx hb dX12_goesOn_90 (by decide) ?_
                refine k_Si F w (As := [.int (zI z89), .int (zI 97), .int (zI 122)]) (rest := []) (q_X12_in (x := z89) ⟨by omega, by omega⟩ (x1 := 97) ⟨by omega, by omega⟩ (x2 := 122) ⟨by omega, by omega⟩  hIL84) gs_X12_55 hs_X12_in ⟨(Nat.le_of_ble_eq_true rfl), (Nat.le_of_ble_eq_true rfl)⟩ hl.1 rfl (Nat.le_of_ble_eq_true rfl) ⟨Nat.zero_le _, Nat.zero_le _⟩ dX12_goesOn_92 (fun r90 N91 H locs hp w => ?_)
                obtain ⟨z92, rfl, bz92, xz92, hMN91⟩ := hp
                rw [hMN91] at w
                refine z_if_eq (tgt := 111) hx hb (by omega) dX12_goesOn_95 (by decide) (fun c93 => ?_) (fun c93 => ?_)
                · refine lv_aload_n hx hb dX12_goesOn_111 rfl (lv_at hl 4 rfl) ?_
                  refine lv_iload_n hx hb dX12_goesOn_112 rfl (lv_at hl 1 rfl) ?_
                  refine z_if_eq (tgt := 120) hx hb (by omega) dX12_goesOn_113 (by decide) (fun c94 => ?_) (fun c94 => False.elim (by omega))
                  refine lv_iconst (v := zI 1) hx hb dX12_goesOn_120 rfl ?_
                  refine u_12_13 F w (a := 146) rfl tb_602 dX12_goesOn_121 (fun H locs w => ?_)
                  refine lv_aload_n hx hb dX12_goesOn_124 rfl (lv_at hl 4 rfl) ?_
                  refine lv_aload_n hx hb dX12_goesOn_125 rfl (lv_at hl 4 rfl) ?_
                  refine lv_aload_n hx hb dX12_goesOn_126 rfl (lv_at hl 4 rfl) ?_
                  refine f_12_14 F w (a := 146) rfl tb_665 dX12_goesOn_127 ?_
                  refine r_val (v := zI nz50) ((st_ne (Or.inr (by decide))).trans eg146_14_84) ?_
                  refine lv_aload_n hx hb dX12_goesOn_130 rfl (lv_at hl 4 rfl) ?_
                  refine f_12_9 F w (a := 146) rfl tb_586 dX12_goesOn_131 ?_
                  refine r_val (v := zI g146_9_84) ((st_ne (Or.inr (by decide))).trans eg146_9_84) ?_
                  refine k_Vi F w (As := [.int (zI nz50), .int (zI g146_9_84)]) (rest := [.ref (B + 146)]) (a := 146) (kd_lt (a := 146) (show kd 146 = (12, 0, 0) from rfl) (by decide)) (sh_12 rfl _ _) rfl (q_X12_wordAt (x := nz50) ⟨by omega, by omega⟩ (x1 := g146_9_84) ⟨by omega, by omega⟩  (IvR.to hIL84 (a := 146) (k := 13) (x := 1) (show ivr 146 13 = ((-2147483648), 2147483647) from rfl) ⟨by omega, by omega⟩ ⟨by decide, by decide, by decide, fun q9 => absurd q9 (by decide)⟩)) gv_X12_213 hv_X12_wordAt ⟨(Nat.le_of_ble_eq_true rfl), (Nat.le_of_ble_eq_true rfl)⟩ hl.1 rfl (Nat.le_of_ble_eq_true rfl) ⟨Nat.zero_le _, Nat.zero_le _⟩ dX12_goesOn_134 (fun r95 N96 H locs hp w => ?_)
                  obtain ⟨z97, rfl, bz97, hMN96⟩ := hp
                  rw [hMN96] at w
                  refine u_12_15 F w (a := 146) rfl tb_603 dX12_goesOn_137 (fun H locs w => ?_)
                  refine lv_goto (tgt := 198) hx hb dX12_goesOn_140 (by decide) ?_
                  obtain ⟨z98, bz98, ez98⟩ := IvR.ld (k := 11) (IvR.to (IvR.to hIL84 (a := 146) (k := 13) (x := 1) (show ivr 146 13 = ((-2147483648), 2147483647) from rfl) ⟨by omega, by omega⟩ ⟨by decide, by decide, by decide, fun q9 => absurd q9 (by decide)⟩) (a := 146) (k := 15) (x := z97) (show ivr 146 15 = ((-2147483648), 2147483647) from rfl) ⟨by omega, by omega⟩ ⟨by decide, by decide, by decide, fun q9 => absurd q9 (by decide)⟩) (show ivr 146 11 = ((-99), 300) from rfl) (show 146 ≤ 146 ∧ 146 < 159 by decide)
                  rw [hQ]
                  exact e_v F w hr hlocks ⟨⟨1, z98, ((st_ne (Or.inr (by decide))).trans st_at), (ez98), ⟨by omega, by omega⟩, ⟨by omega, by omega⟩, (by omega)⟩, (IvR.to (IvR.to hIL84 (a := 146) (k := 13) (x := 1) (show ivr 146 13 = ((-2147483648), 2147483647) from rfl) ⟨by omega, by omega⟩ ⟨by decide, by decide, by decide, fun q9 => absurd q9 (by decide)⟩) (a := 146) (k := 15) (x := z97) (show ivr 146 15 = ((-2147483648), 2147483647) from rfl) ⟨by omega, by omega⟩ ⟨by decide, by decide, by decide, fun q9 => absurd q9 (by decide)⟩), (Fr.to (Fr.to hFL84 (by first | decide | (dsimp only; first | done | decide | omega) | omega)) (by first | decide | (dsimp only; first | done | decide | omega) | omega))⟩ dX12_goesOn_198
                · refine lv_aload_n hx hb dX12_goesOn_98 rfl (lv_at hl 4 rfl) ?_
                  refine lv_dup hx hb dX12_goesOn_99 rfl ?_
                  refine f_12_9 F w (a := 146) rfl tb_586 dX12_goesOn_100 ?_
                  refine r_val (v := zI g146_9_84) (eg146_9_84) ?_
                  refine lv_iconst (v := zI 1) hx hb dX12_goesOn_103 rfl ?_
                  refine z_iadd (z := (g146_9_84 + 1)) hx hb dX12_goesOn_104 (by omega) ?_
                  refine u_12_9 F w (a := 146) rfl tb_586 dX12_goesOn_105 (fun H locs w => ?_)
                  refine lv_goto (tgt := 84) hx hb dX12_goesOn_108 (by decide) ?_
                  exact ih84 (g146_9_84 + 1) (st NL84 146 9 (zI (g146_9_84 + 1)))  (by omega) (st_at) ((st_ne (Or.inr (by decide))).trans eg146_13_84) ((st_ne (Or.inr (by decide))).trans eg146_8_84) ((st_ne (Or.inr (by decide))).trans eg146_14_84) ((st_ne (Or.inr (by decide))).trans eg146_15_84)  (IvR.to hIL84 (a := 146) (k := 9) (x := (g146_9_84 + 1)) (show ivr 146 9 = (0, 300) from rfl) ⟨by omega, by omega⟩ ⟨by decide, by decide, by decide, fun q9 => absurd q9 (by decide)⟩) (Fr.to hFL84 (by first | decide | (dsimp only; first | done | decide | omega) | omega)) (by omega) _ _ _ w (lv_sub hl [0, 1, 2, 3, 4] rfl)
            exact lp84 _ nz50 (st (st N4 146 14 (zI nz50)) 146 15 (zI 29)) (by omega) ((st_ne (Or.inr (by decide))).trans ((st_ne (Or.inr (by decide))).trans enz50)) ((st_ne (Or.inr (by decide))).trans ((st_ne (Or.inr (by decide))).trans kn6)) ((st_ne (Or.inr (by decide))).trans ((st_ne (Or.inr (by decide))).trans ez70)) ((st_ne (Or.inr (by decide))).trans st_at) (st_at) (IvR.to (IvR.to hIN4 (a := 146) (k := 14) (x := nz50) (show ivr 146 14 = ((-2147483648), 2147483647) from rfl) ⟨by omega, by omega⟩ ⟨by decide, by decide, by decide, fun q9 => absurd q9 (by decide)⟩) (a := 146) (k := 15) (x := 29) (show ivr 146 15 = ((-2147483648), 2147483647) from rfl) ⟨by omega, by omega⟩ ⟨by decide, by decide, by decide, fun q9 => absurd q9 (by decide)⟩) (Fr.to (Fr.to hGN4 (by first | decide | (dsimp only; first | done | decide | omega) | omega)) (by first | decide | (dsimp only; first | done | decide | omega) | omega)) (Nat.lt_succ_self _) _ _ _ w (lv_sub hl [0, 1, 2, 3, 4] rfl)
        · refine lv_aload_n hx hb dX12_goesOn_64 rfl (lv_at hl 4 rfl) ?_
          refine lv_iconst (v := zI 0) hx hb dX12_goesOn_65 rfl ?_
          refine u_12_13 F w (a := 146) rfl tb_602 dX12_goesOn_66 (fun H locs w => ?_)
          refine lv_goto (tgt := 198) hx hb dX12_goesOn_69 (by decide) ?_
          obtain ⟨z99, bz99, ez99⟩ := IvR.ld (k := 11) (IvR.to (IvR.to (IvR.to hIN4 (a := 146) (k := 14) (x := nz50) (show ivr 146 14 = ((-2147483648), 2147483647) from rfl) ⟨by omega, by omega⟩ ⟨by decide, by decide, by decide, fun q9 => absurd q9 (by decide)⟩) (a := 146) (k := 15) (x := 29) (show ivr 146 15 = ((-2147483648), 2147483647) from rfl) ⟨by omega, by omega⟩ ⟨by decide, by decide, by decide, fun q9 => absurd q9 (by decide)⟩) (a := 146) (k := 13) (x := 0) (show ivr 146 13 = ((-2147483648), 2147483647) from rfl) ⟨by omega, by omega⟩ ⟨by decide, by decide, by decide, fun q9 => absurd q9 (by decide)⟩) (show ivr 146 11 = ((-99), 300) from rfl) (show 146 ≤ 146 ∧ 146 < 159 by decide)
          rw [hQ]
          exact e_v F w hr hlocks ⟨⟨0, z99, (st_at), (ez99), ⟨by omega, by omega⟩, ⟨by omega, by omega⟩, (by omega)⟩, (IvR.to (IvR.to (IvR.to hIN4 (a := 146) (k := 14) (x := nz50) (show ivr 146 14 = ((-2147483648), 2147483647) from rfl) ⟨by omega, by omega⟩ ⟨by decide, by decide, by decide, fun q9 => absurd q9 (by decide)⟩) (a := 146) (k := 15) (x := 29) (show ivr 146 15 = ((-2147483648), 2147483647) from rfl) ⟨by omega, by omega⟩ ⟨by decide, by decide, by decide, fun q9 => absurd q9 (by decide)⟩) (a := 146) (k := 13) (x := 0) (show ivr 146 13 = ((-2147483648), 2147483647) from rfl) ⟨by omega, by omega⟩ ⟨by decide, by decide, by decide, fun q9 => absurd q9 (by decide)⟩), (Fr.to (Fr.to (Fr.to hGN4 (by first | decide | (dsimp only; first | done | decide | omega) | omega)) (by first | decide | (dsimp only; first | done | decide | omega) | omega)) (by first | decide | (dsimp only; first | done | decide | omega) | omega))⟩ dX12_goesOn_198
      · refine lv_iconst (v := zI 1) hx hb dX12_goesOn_40 rfl ?_
        refine lv_goto (tgt := 45) hx hb dX12_goesOn_41 (by decide) ?_
        refine lv_istore_n (lv' := [(3, .int (zI 1)), (2, .int (zI z2)), (1, .int (zI z1)), (0, .ref (B + 146))]) hx hb dX12_goesOn_45 rfl hl (by decide) rfl (fun ls hl => ?_)
        refine lv_aload_n hx hb dX12_goesOn_46 rfl (lv_at hl 3 rfl) ?_
        obtain ⟨z100, bz100, ez100⟩ := IvR.ld (k := 8) hIN4 (show ivr 146 8 = (0, 300) from rfl) (show 146 ≤ 146 ∧ 146 < 159 by decide)
        obtain ⟨z101, bz101, ez101⟩ := IvR.ld (k := (Int.toNat nz50)) hIN4 (show ivr 150 (Int.toNat nz50) = (0, 255) from rfl) (show 146 ≤ 150 ∧ 150 < 159 by decide)
        refine k_Vi F w (As := []) (rest := []) (a := 146) (kd_lt (a := 146) (show kd 146 = (12, 0, 0) from rfl) (by decide)) (sh_12 rfl _ _) rfl (q_X12_here (ai := nz50) ((st_ne (Or.inr (by decide))).trans enz50) ⟨by omega, by omega⟩ (td := z100) ((st_ne (Or.inr (by decide))).trans ez100) ⟨by omega, by omega⟩ (tv := z101) ((st_ne (Or.inl (by decide))).trans ez101) ⟨by omega, by omega⟩  (IvR.to hIN4 (a := 146) (k := 14) (x := nz50) (show ivr 146 14 = ((-2147483648), 2147483647) from rfl) ⟨by omega, by omega⟩ ⟨by decide, by decide, by decide, fun q9 => absurd q9 (by decide)⟩)) gv_X12_175 hv_X12_here ⟨(Nat.le_of_ble_eq_true rfl), (Nat.le_of_ble_eq_true rfl)⟩ hl.1 rfl (Nat.le_of_ble_eq_true rfl) ⟨Nat.zero_le _, Nat.zero_le _⟩ dX12_goesOn_47 (fun r102 N103 H locs hp w => ?_)
        obtain ⟨z104, rfl, bz104, xz104, hMN103⟩ := hp
        rw [hMN103] at w
        refine lv_istore (lv' := [(4, .int (zI z104)), (3, .int (zI 1)), (2, .int (zI z2)), (1, .int (zI z1)), (0, .ref (B + 146))]) hx hb dX12_goesOn_50 hl (by decide) rfl (fun ls hl => ?_)
        refine lv_aload_n hx hb dX12_goesOn_52 rfl (lv_at hl 4 rfl) ?_
        refine lv_bipush (v := zI 29) hx hb dX12_goesOn_53 (by decide) ?_
        refine u_12_15 F w (a := 146) rfl tb_603 dX12_goesOn_55 (fun H locs w => ?_)
        refine lv_iload hx hb dX12_goesOn_58 (lv_at hl 0 rfl) ?_
        refine lv_iconst (v := zI (-1)) hx hb dX12_goesOn_60 rfl ?_
        refine z_icmp_ne (tgt := 72) hx hb (by omega) (by omega) dX12_goesOn_61 (by decide) (fun c105 => ?_) (fun c105 => ?_)
        · refine lv_iload hx hb dX12_goesOn_72 (lv_at hl 0 rfl) ?_
          refine lv_bipush (v := zI 97) hx hb dX12_goesOn_74 (by decide) ?_
          refine lv_bipush (v := zI 122) hx hb dX12_goesOn_76 (by decide) ?_
          refine k_Si F w (As := [.int (zI z104), .int (zI 97), .int (zI 122)]) (rest := []) (q_X12_in (x := z104) ⟨by omega, by omega⟩ (x1 := 97) ⟨by omega, by omega⟩ (x2 := 122) ⟨by omega, by omega⟩  (IvR.to (IvR.to hIN4 (a := 146) (k := 14) (x := nz50) (show ivr 146 14 = ((-2147483648), 2147483647) from rfl) ⟨by omega, by omega⟩ ⟨by decide, by decide, by decide, fun q9 => absurd q9 (by decide)⟩) (a := 146) (k := 15) (x := 29) (show ivr 146 15 = ((-2147483648), 2147483647) from rfl) ⟨by omega, by omega⟩ ⟨by decide, by decide, by decide, fun q9 => absurd q9 (by decide)⟩)) gs_X12_55 hs_X12_in ⟨(Nat.le_of_ble_eq_true rfl), (Nat.le_of_ble_eq_true rfl)⟩ hl.1 rfl (Nat.le_of_ble_eq_true rfl) ⟨Nat.zero_le _, Nat.zero_le _⟩ dX12_goesOn_78 (fun r106 N107 H locs hp w => ?_)
          obtain ⟨z108, rfl, bz108, xz108, hMN107⟩ := hp
          rw [hMN107] at w
          refine z_if_eq (tgt := 143) hx hb (by omega) dX12_goesOn_81 (by decide) (fun c109 => ?_) (fun c109 => ?_)
          · refine lv_aload_n hx hb dX12_goesOn_143 rfl (lv_at hl 4 rfl) ?_
            refine lv_dup hx hb dX12_goesOn_144 rfl ?_
            refine f_12_9 F w (a := 146) rfl tb_586 dX12_goesOn_145 ?_
            refine r_val (v := zI nz50) ((st_ne (Or.inr (by decide))).trans ((st_ne (Or.inr (by decide))).trans enz50)) ?_
            refine lv_iconst (v := zI 1) hx hb dX12_goesOn_148 rfl ?_
            refine z_iadd (z := (nz50 + 1)) hx hb dX12_goesOn_149 (by omega) ?_
            refine u_12_9 F w (a := 146) rfl tb_586 dX12_goesOn_150 (fun H locs w => ?_)
            refine lv_aload_n hx hb dX12_goesOn_153 rfl (lv_at hl 4 rfl) ?_
            refine lv_iload hx hb dX12_goesOn_154 (lv_at hl 0 rfl) ?_
            refine k_Si F w (As := [.int (zI z104)]) (rest := [.ref (B + 146)]) (q_X12_isDigit (x := z104) ⟨by omega, by omega⟩  (IvR.to (IvR.to (IvR.to hIN4 (a := 146) (k := 14) (x := nz50) (show ivr 146 14 = ((-2147483648), 2147483647) from rfl) ⟨by omega, by omega⟩ ⟨by decide, by decide, by decide, fun q9 => absurd q9 (by decide)⟩) (a := 146) (k := 15) (x := 29) (show ivr 146 15 = ((-2147483648), 2147483647) from rfl) ⟨by omega, by omega⟩ ⟨by decide, by decide, by decide, fun q9 => absurd q9 (by decide)⟩) (a := 146) (k := 9) (x := (nz50 + 1)) (show ivr 146 9 = (0, 300) from rfl) ⟨by omega, by omega⟩ ⟨by decide, by decide, by decide, fun q9 => absurd q9 (by decide)⟩)) gs_X12_182 hs_X12_isDigit ⟨(Nat.le_of_ble_eq_true rfl), (Nat.le_of_ble_eq_true rfl)⟩ hl.1 rfl (Nat.le_of_ble_eq_true rfl) ⟨Nat.zero_le _, Nat.zero_le _⟩ dX12_goesOn_156 (fun r110 N111 H locs hp w => ?_)
            obtain ⟨z112, rfl, bz112, xz112, hMN111⟩ := hp
            rw [hMN111] at w
            refine z_if_eq (tgt := 174) hx hb (by omega) dX12_goesOn_159 (by decide) (fun c113 => ?_) (fun c113 => ?_)
            · refine lv_iload hx hb dX12_goesOn_174 (lv_at hl 0 rfl) ?_
              refine lv_bipush (v := zI 59) hx hb dX12_goesOn_176 (by decide) ?_
              refine z_icmp_ne (tgt := 185) hx hb (by omega) (by omega) dX12_goesOn_178 (by decide) (fun c114 => ?_) (fun c114 => ?_)
              · refine lv_iconst (v := zI 4) hx hb dX12_goesOn_185 rfl ?_
                refine u_12_13 F w (a := 146) rfl tb_602 dX12_goesOn_186 (fun H locs w => ?_)
                refine lv_aload_n hx hb dX12_goesOn_189 rfl (lv_at hl 4 rfl) ?_
                refine lv_iload hx hb dX12_goesOn_190 (lv_at hl 0 rfl) ?_
                refine lv_bipush (v := zI 48) hx hb dX12_goesOn_192 (by decide) ?_
                refine z_isub (z := (z104 - 48)) hx hb dX12_goesOn_194 (by omega) ?_
                refine u_12_11 F w (a := 146) rfl tb_598 dX12_goesOn_195 (fun H locs w => ?_)
                rw [hQ]
                exact e_v F w hr hlocks ⟨⟨4, (z104 - 48), ((st_ne (Or.inr (by decide))).trans st_at), (st_at), ⟨by omega, by omega⟩, ⟨by omega, by omega⟩, (by omega)⟩, (IvR.to (IvR.to (IvR.to (IvR.to (IvR.to hIN4 (a := 146) (k := 14) (x := nz50) (show ivr 146 14 = ((-2147483648), 2147483647) from rfl) ⟨by omega, by omega⟩ ⟨by decide, by decide, by decide, fun q9 => absurd q9 (by decide)⟩) (a := 146) (k := 15) (x := 29) (show ivr 146 15 = ((-2147483648), 2147483647) from rfl) ⟨by omega, by omega⟩ ⟨by decide, by decide, by decide, fun q9 => absurd q9 (by decide)⟩) (a := 146) (k := 9) (x := (nz50 + 1)) (show ivr 146 9 = (0, 300) from rfl) ⟨by omega, by omega⟩ ⟨by decide, by decide, by decide, fun q9 => absurd q9 (by decide)⟩) (a := 146) (k := 13) (x := 4) (show ivr 146 13 = ((-2147483648), 2147483647) from rfl) ⟨by omega, by omega⟩ ⟨by decide, by decide, by decide, fun q9 => absurd q9 (by decide)⟩) (a := 146) (k := 11) (x := (z104 - 48)) (show ivr 146 11 = ((-99), 300) from rfl) ⟨by omega, by omega⟩ ⟨by decide, by decide, by decide, fun q9 => absurd q9 (by decide)⟩), (Fr.to (Fr.to (Fr.to (Fr.to (Fr.to hGN4 (by first | decide | (dsimp only; first | done | decide | omega) | omega)) (by first | decide | (dsimp only; first | done | decide | omega) | omega)) (by first | decide | (dsimp only; first | done | decide | omega) | omega)) (by first | decide | (dsimp only; first | done | decide | omega) | omega)) (by first | decide | (dsimp only; first | done | decide | omega) | omega))⟩ dX12_goesOn_198
              · refine lv_iconst (v := zI 3) hx hb dX12_goesOn_181 rfl ?_
                refine lv_goto (tgt := 186) hx hb dX12_goesOn_182 (by decide) ?_
                refine u_12_13 F w (a := 146) rfl tb_602 dX12_goesOn_186 (fun H locs w => ?_)
                refine lv_aload_n hx hb dX12_goesOn_189 rfl (lv_at hl 4 rfl) ?_
                refine lv_iload hx hb dX12_goesOn_190 (lv_at hl 0 rfl) ?_
                refine lv_bipush (v := zI 48) hx hb dX12_goesOn_192 (by decide) ?_
                refine z_isub (z := (z104 - 48)) hx hb dX12_goesOn_194 (by omega) ?_
                refine u_12_11 F w (a := 146) rfl tb_598 dX12_goesOn_195 (fun H locs w => ?_)
                rw [hQ]
                exact e_v F w hr hlocks ⟨⟨3, (z104 - 48), ((st_ne (Or.inr (by decide))).trans st_at), (st_at), ⟨by omega, by omega⟩, ⟨by omega, by omega⟩, (by omega)⟩, (IvR.to (IvR.to (IvR.to (IvR.to (IvR.to hIN4 (a := 146) (k := 14) (x := nz50) (show ivr 146 14 = ((-2147483648), 2147483647) from rfl) ⟨by omega, by omega⟩ ⟨by decide, by decide, by decide, fun q9 => absurd q9 (by decide)⟩) (a := 146) (k := 15) (x := 29) (show ivr 146 15 = ((-2147483648), 2147483647) from rfl) ⟨by omega, by omega⟩ ⟨by decide, by decide, by decide, fun q9 => absurd q9 (by decide)⟩) (a := 146) (k := 9) (x := (nz50 + 1)) (show ivr 146 9 = (0, 300) from rfl) ⟨by omega, by omega⟩ ⟨by decide, by decide, by decide, fun q9 => absurd q9 (by decide)⟩) (a := 146) (k := 13) (x := 3) (show ivr 146 13 = ((-2147483648), 2147483647) from rfl) ⟨by omega, by omega⟩ ⟨by decide, by decide, by decide, fun q9 => absurd q9 (by decide)⟩) (a := 146) (k := 11) (x := (z104 - 48)) (show ivr 146 11 = ((-99), 300) from rfl) ⟨by omega, by omega⟩ ⟨by decide, by decide, by decide, fun q9 => absurd q9 (by decide)⟩), (Fr.to (Fr.to (Fr.to (Fr.to (Fr.to hGN4 (by first | decide | (dsimp only; first | done | decide | omega) | omega)) (by first | decide | (dsimp only; first | done | decide | omega) | omega)) (by first | decide | (dsimp only; first | done | decide | omega) | omega)) (by first | decide | (dsimp only; first | done | decide | omega) | omega)) (by first | decide | (dsimp only; first | done | decide | omega) | omega))⟩ dX12_goesOn_198
            · refine lv_iload_n hx hb dX12_goesOn_162 rfl (lv_at hl 1 rfl) ?_
              refine z_if_eq (tgt := 170) hx hb (by omega) dX12_goesOn_163 (by decide) (fun c115 => False.elim (by omega)) (fun c115 => ?_)
              refine lv_iconst (v := zI 4) hx hb dX12_goesOn_166 rfl ?_
              refine lv_goto (tgt := 186) hx hb dX12_goesOn_167 (by decide) ?_
              refine u_12_13 F w (a := 146) rfl tb_602 dX12_goesOn_186 (fun H locs w => ?_)
              refine lv_aload_n hx hb dX12_goesOn_189 rfl (lv_at hl 4 rfl) ?_
              refine lv_iload hx hb dX12_goesOn_190 (lv_at hl 0 rfl) ?_
              refine lv_bipush (v := zI 48) hx hb dX12_goesOn_192 (by decide) ?_
              refine z_isub (z := (z104 - 48)) hx hb dX12_goesOn_194 (by omega) ?_
              refine u_12_11 F w (a := 146) rfl tb_598 dX12_goesOn_195 (fun H locs w => ?_)
              rw [hQ]
              exact e_v F w hr hlocks ⟨⟨4, (z104 - 48), ((st_ne (Or.inr (by decide))).trans st_at), (st_at), ⟨by omega, by omega⟩, ⟨by omega, by omega⟩, (by omega)⟩, (IvR.to (IvR.to (IvR.to (IvR.to (IvR.to hIN4 (a := 146) (k := 14) (x := nz50) (show ivr 146 14 = ((-2147483648), 2147483647) from rfl) ⟨by omega, by omega⟩ ⟨by decide, by decide, by decide, fun q9 => absurd q9 (by decide)⟩) (a := 146) (k := 15) (x := 29) (show ivr 146 15 = ((-2147483648), 2147483647) from rfl) ⟨by omega, by omega⟩ ⟨by decide, by decide, by decide, fun q9 => absurd q9 (by decide)⟩) (a := 146) (k := 9) (x := (nz50 + 1)) (show ivr 146 9 = (0, 300) from rfl) ⟨by omega, by omega⟩ ⟨by decide, by decide, by decide, fun q9 => absurd q9 (by decide)⟩) (a := 146) (k := 13) (x := 4) (show ivr 146 13 = ((-2147483648), 2147483647) from rfl) ⟨by omega, by omega⟩ ⟨by decide, by decide, by decide, fun q9 => absurd q9 (by decide)⟩) (a := 146) (k := 11) (x := (z104 - 48)) (show ivr 146 11 = ((-99), 300) from rfl) ⟨by omega, by omega⟩ ⟨by decide, by decide, by decide, fun q9 => absurd q9 (by decide)⟩), (Fr.to (Fr.to (Fr.to (Fr.to (Fr.to hGN4 (by first | decide | (dsimp only; first | done | decide | omega) | omega)) (by first | decide | (dsimp only; first | done | decide | omega) | omega)) (by first | decide | (dsimp only; first | done | decide | omega) | omega)) (by first | decide | (dsimp only; first | done | decide | omega) | omega)) (by first | decide | (dsimp only; first | done | decide | omega) | omega))⟩ dX12_goesOn_198
          · have lp84 : ∀ (f : Nat)  (g146_9_84 : Int) (NL84 : Mem), (0 ≤ g146_9_84 ∧ g146_9_84 ≤ 300) → NL84.1 146 9 = zI g146_9_84 → NL84.1 146 13 = zI z1 → NL84.1 146 8 = zI z100 → NL84.1 146 14 = zI nz50 → NL84.1 146 15 = zI 29 → IvR NL84 → Fr (fun b9 k9 => (b9 = 146 ∧ k9 = 11) ∨ (b9 = 146 ∧ k9 = 13) ∨ (b9 = 146 ∧ k9 = 14) ∨ (b9 = 146 ∧ k9 = 15) ∨ (b9 = 146 ∧ k9 = 9)) NL84 M → (Int.toNat (300 - g146_9_84) < f) → ∀ (H : Heap) (locs : List Loc) (ls : Array Slot), Wd D B cy s s.heap NL84 H locs → lv_has ls 5 [(4, .int (zI z104)), (3, .int (zI 1)), (2, .int (zI z2)), (1, .int (zI z1)), (0, .ref (B + 146))] → W p l e (rmm 2 42) s m args below meth c H locs 0 0 Q (F0 m 84 ls []) := by
              intro f
              induction f with
              | zero => intros; omega
              | succ f ih84 =>
                intro  g146_9_84 NL84 ig146_9_84 eg146_9_84 eg146_13_84 eg146_8_84 eg146_14_84 eg146_15_84 hIL84 hFL84 hf84 H locs ls w hl
                refine lv_aload_n hx hb dX12_goesOn_84 rfl (lv_at hl 4 rfl) ?_
                obtain ⟨z116, bz116, ez116⟩ := IvR.ld (k := (Int.toNat g146_9_84)) hIL84 (show ivr 150 (Int.toNat g146_9_84) = (0, 255) from rfl) (show 146 ≤ 150 ∧ 150 < 159 by decide)
                refine k_Vi F w (As := []) (rest := []) (a := 146) (kd_lt (a := 146) (show kd 146 = (12, 0, 0) from rfl) (by decide)) (sh_12 rfl _ _) rfl (q_X12_here (ai := g146_9_84) (eg146_9_84) ⟨by omega, by omega⟩ (td := z100) (eg146_8_84) ⟨by omega, by omega⟩ (tv := z116) (ez116) ⟨by omega, by omega⟩  hIL84) gv_X12_175 hv_X12_here ⟨(Nat.le_of_ble_eq_true rfl), (Nat.le_of_ble_eq_true rfl)⟩ hl.1 rfl (Nat.le_of_ble_eq_true rfl) ⟨Nat.zero_le _, Nat.zero_le _⟩ dX12_goesOn_85 (fun r117 N118 H locs hp w => ?_)
                obtain ⟨z119, rfl, bz119, xz119, hMN118⟩ := hp
                rw [hMN118] at w
                refine lv_bipush (v := zI 97) hx hb dX12_goesOn_88 (by decide) ?_
                refine lv_bipush (v := zI 122) hx hb dX12_goesOn_90 (by decide) ?_
                refine k_Si F w (As := [.int (zI z119), .int (zI 97), .int (zI 122)]) (rest := []) (q_X12_in (x := z119) ⟨by omega, by omega⟩ (x1 := 97) ⟨by omega, by omega⟩ (x2 := 122) ⟨by omega, by omega⟩  hIL84) gs_X12_55 hs_X12_in ⟨(Nat.le_of_ble_eq_true rfl), (Nat.le_of_ble_eq_true rfl)⟩ hl.1 rfl (Nat.le_of_ble_eq_true rfl) ⟨Nat.zero_le _, Nat.zero_le _⟩ dX12_goesOn_92 (fun r120 N121 H locs hp w => ?_)
                obtain ⟨z122, rfl, bz122, xz122, hMN121⟩ := hp
                rw [hMN121] at w
                refine z_if_eq (tgt := 111) hx hb (by omega) dX12_goesOn_95 (by decide) (fun c123 => ?_) (fun c123 => ?_)
                · refine lv_aload_n hx hb dX12_goesOn_111 rfl (lv_at hl 4 rfl) ?_
                  refine lv_iload_n hx hb dX12_goesOn_112 rfl (lv_at hl 1 rfl) ?_
                  refine z_if_eq (tgt := 120) hx hb (by omega) dX12_goesOn_113 (by decide) (fun c124 => False.elim (by omega)) (fun c124 => ?_)
                  refine lv_iconst (v := zI 4) hx hb dX12_goesOn_116 rfl ?_
                  refine lv_goto (tgt := 121) hx hb dX12_goesOn_117 (by decide) ?_
                  refine u_12_13 F w (a := 146) rfl tb_602 dX12_goesOn_121 (fun H locs w => ?_)
                  refine lv_aload_n hx hb dX12_goesOn_124 rfl (lv_at hl 4 rfl) ?_
                  refine lv_aload_n hx hb dX12_goesOn_125 rfl (lv_at hl 4 rfl) ?_
                  refine lv_aload_n hx hb dX12_goesOn_126 rfl (lv_at hl 4 rfl) ?_
                  refine f_12_14 F w (a := 146) rfl tb_665 dX12_goesOn_127 ?_
                  refine r_val (v := zI nz50) ((st_ne (Or.inr (by decide))).trans eg146_14_84) ?_
                  refine lv_aload_n hx hb dX12_goesOn_130 rfl (lv_at hl 4 rfl) ?_
                  refine f_12_9 F w (a := 146) rfl tb_586 dX12_goesOn_131 ?_
                  refine r_val (v := zI g146_9_84) ((st_ne (Or.inr (by decide))).trans eg146_9_84) ?_
                  refine k_Vi F w (As := [.int (zI nz50), .int (zI g146_9_84)]) (rest := [.ref (B + 146)]) (a := 146) (kd_lt (a := 146) (show kd 146 = (12, 0, 0) from rfl) (by decide)) (sh_12 rfl _ _) rfl (q_X12_wordAt (x := nz50) ⟨by omega, by omega⟩ (x1 := g146_9_84) ⟨by omega, by omega⟩  (IvR.to hIL84 (a := 146) (k := 13) (x := 4) (show ivr 146 13 = ((-2147483648), 2147483647) from rfl) ⟨by omega, by omega⟩ ⟨by decide, by decide, by decide, fun q9 => absurd q9 (by decide)⟩)) gv_X12_213 hv_X12_wordAt ⟨(Nat.le_of_ble_eq_true rfl), (Nat.le_of_ble_eq_true rfl)⟩ hl.1 rfl (Nat.le_of_ble_eq_true rfl) ⟨Nat.zero_le _, Nat.zero_le _⟩ dX12_goesOn_134 (fun r125 N126 H locs hp w => ?_)
                  obtain ⟨z127, rfl, bz127, hMN126⟩ := hp
                  rw [hMN126] at w
                  refine u_12_15 F w (a := 146) rfl tb_603 dX12_goesOn_137 (fun H locs w => ?_)
                  refine lv_goto (tgt := 198) hx hb dX12_goesOn_140 (by decide) ?_
                  obtain ⟨z128, bz128, ez128⟩ := IvR.ld (k := 11) (IvR.to (IvR.to hIL84 (a := 146) (k := 13) (x := 4) (show ivr 146 13 = ((-2147483648), 2147483647) from rfl) ⟨by omega, by omega⟩ ⟨by decide, by decide, by decide, fun q9 => absurd q9 (by decide)⟩) (a := 146) (k := 15) (x := z127) (show ivr 146 15 = ((-2147483648), 2147483647) from rfl) ⟨by omega, by omega⟩ ⟨by decide, by decide, by decide, fun q9 => absurd q9 (by decide)⟩) (show ivr 146 11 = ((-99), 300) from rfl) (show 146 ≤ 146 ∧ 146 < 159 by decide)
                  rw [hQ]
                  exact e_v F w hr hlocks ⟨⟨4, z128, ((st_ne (Or.inr (by decide))).trans st_at), (ez128), ⟨by omega, by omega⟩, ⟨by omega, by omega⟩, (by omega)⟩, (IvR.to (IvR.to hIL84 (a := 146) (k := 13) (x := 4) (show ivr 146 13 = ((-2147483648), 2147483647) from rfl) ⟨by omega, by omega⟩ ⟨by decide, by decide, by decide, fun q9 => absurd q9 (by decide)⟩) (a := 146) (k := 15) (x := z127) (show ivr 146 15 = ((-2147483648), 2147483647) from rfl) ⟨by omega, by omega⟩ ⟨by decide, by decide, by decide, fun q9 => absurd q9 (by decide)⟩), (Fr.to (Fr.to hFL84 (by first | decide | (dsimp only; first | done | decide | omega) | omega)) (by first | decide | (dsimp only; first | done | decide | omega) | omega))⟩ dX12_goesOn_198
                · refine lv_aload_n hx hb dX12_goesOn_98 rfl (lv_at hl 4 rfl) ?_
                  refine lv_dup hx hb dX12_goesOn_99 rfl ?_
                  refine f_12_9 F w (a := 146) rfl tb_586 dX12_goesOn_100 ?_
                  refine r_val (v := zI g146_9_84) (eg146_9_84) ?_
                  refine lv_iconst (v := zI 1) hx hb dX12_goesOn_103 rfl ?_
                  refine z_iadd (z := (g146_9_84 + 1)) hx hb dX12_goesOn_104 (by omega) ?_
                  refine u_12_9 F w (a := 146) rfl tb_586 dX12_goesOn_105 (fun H locs w => ?_)
                  refine lv_goto (tgt := 84) hx hb dX12_goesOn_108 (by decide) ?_
                  exact ih84 (g146_9_84 + 1) (st NL84 146 9 (zI (g146_9_84 + 1)))  (by omega) (st_at) ((st_ne (Or.inr (by decide))).trans eg146_13_84) ((st_ne (Or.inr (by decide))).trans eg146_8_84) ((st_ne (Or.inr (by decide))).trans eg146_14_84) ((st_ne (Or.inr (by decide))).trans eg146_15_84)  (IvR.to hIL84 (a := 146) (k := 9) (x := (g146_9_84 + 1)) (show ivr 146 9 = (0, 300) from rfl) ⟨by omega, by omega⟩ ⟨by decide, by decide, by decide, fun q9 => absurd q9 (by decide)⟩) (Fr.to hFL84 (by first | decide | (dsimp only; first | done | decide | omega) | omega)) (by omega) _ _ _ w (lv_sub hl [0, 1, 2, 3, 4] rfl)
            exact lp84 _ nz50 (st (st N4 146 14 (zI nz50)) 146 15 (zI 29)) (by omega) ((st_ne (Or.inr (by decide))).trans ((st_ne (Or.inr (by decide))).trans enz50)) ((st_ne (Or.inr (by decide))).trans ((st_ne (Or.inr (by decide))).trans kn6)) ((st_ne (Or.inr (by decide))).trans ((st_ne (Or.inr (by decide))).trans ez100)) ((st_ne (Or.inr (by decide))).trans st_at) (st_at) (IvR.to (IvR.to hIN4 (a := 146) (k := 14) (x := nz50) (show ivr 146 14 = ((-2147483648), 2147483647) from rfl) ⟨by omega, by omega⟩ ⟨by decide, by decide, by decide, fun q9 => absurd q9 (by decide)⟩) (a := 146) (k := 15) (x := 29) (show ivr 146 15 = ((-2147483648), 2147483647) from rfl) ⟨by omega, by omega⟩ ⟨by decide, by decide, by decide, fun q9 => absurd q9 (by decide)⟩) (Fr.to (Fr.to hGN4 (by first | decide | (dsimp only; first | done | decide | omega) | omega)) (by first | decide | (dsimp only; first | done | decide | omega) | omega)) (Nat.lt_succ_self _) _ _ _ w (lv_sub hl [0, 1, 2, 3, 4] rfl)
        · refine lv_aload_n hx hb dX12_goesOn_64 rfl (lv_at hl 4 rfl) ?_
          refine lv_iconst (v := zI 0) hx hb dX12_goesOn_65 rfl ?_
          refine u_12_13 F w (a := 146) rfl tb_602 dX12_goesOn_66 (fun H locs w => ?_)
          refine lv_goto (tgt := 198) hx hb dX12_goesOn_69 (by decide) ?_
          obtain ⟨z129, bz129, ez129⟩ := IvR.ld (k := 11) (IvR.to (IvR.to (IvR.to hIN4 (a := 146) (k := 14) (x := nz50) (show ivr 146 14 = ((-2147483648), 2147483647) from rfl) ⟨by omega, by omega⟩ ⟨by decide, by decide, by decide, fun q9 => absurd q9 (by decide)⟩) (a := 146) (k := 15) (x := 29) (show ivr 146 15 = ((-2147483648), 2147483647) from rfl) ⟨by omega, by omega⟩ ⟨by decide, by decide, by decide, fun q9 => absurd q9 (by decide)⟩) (a := 146) (k := 13) (x := 0) (show ivr 146 13 = ((-2147483648), 2147483647) from rfl) ⟨by omega, by omega⟩ ⟨by decide, by decide, by decide, fun q9 => absurd q9 (by decide)⟩) (show ivr 146 11 = ((-99), 300) from rfl) (show 146 ≤ 146 ∧ 146 < 159 by decide)
          rw [hQ]
          exact e_v F w hr hlocks ⟨⟨0, z129, (st_at), (ez129), ⟨by omega, by omega⟩, ⟨by omega, by omega⟩, (by omega)⟩, (IvR.to (IvR.to (IvR.to hIN4 (a := 146) (k := 14) (x := nz50) (show ivr 146 14 = ((-2147483648), 2147483647) from rfl) ⟨by omega, by omega⟩ ⟨by decide, by decide, by decide, fun q9 => absurd q9 (by decide)⟩) (a := 146) (k := 15) (x := 29) (show ivr 146 15 = ((-2147483648), 2147483647) from rfl) ⟨by omega, by omega⟩ ⟨by decide, by decide, by decide, fun q9 => absurd q9 (by decide)⟩) (a := 146) (k := 13) (x := 0) (show ivr 146 13 = ((-2147483648), 2147483647) from rfl) ⟨by omega, by omega⟩ ⟨by decide, by decide, by decide, fun q9 => absurd q9 (by decide)⟩), (Fr.to (Fr.to (Fr.to hGN4 (by first | decide | (dsimp only; first | done | decide | omega) | omega)) (by first | decide | (dsimp only; first | done | decide | omega) | omega)) (by first | decide | (dsimp only; first | done | decide | omega) | omega))⟩ dX12_goesOn_198
theorem dX12_needs_0 : decode cX12_needs 0 = .ok (.aload_n 0, 1) := rdX12_needs_0
theorem dX12_needs_1 : decode cX12_needs 1 = .ok (.getfield 217, 3) := rdX12_needs_1
theorem tb_669 : Cond.fieldLink "ToneLinesModel" 217 "ToneLinesModel" "wrong" "Z" ∈ TB := rtb_139
theorem dX12_needs_4 : decode cX12_needs 4 = .ok (.ifCond .eq 5, 3) := rdX12_needs_4
theorem dX12_needs_9 : decode cX12_needs 9 = .ok (.aload_n 0, 1) := rdX12_needs_9
theorem dX12_needs_10 : decode cX12_needs 10 = .ok (.getfield 204, 3) := rdX12_needs_10
theorem dX12_needs_13 : decode cX12_needs 13 = .ok (.iconst 1, 1) := rdX12_needs_13
theorem dX12_needs_14 : decode cX12_needs 14 = .ok (.if_icmp .ne 15, 3) := rdX12_needs_14
theorem dX12_needs_29 : decode cX12_needs 29 = .ok (.aload_n 0, 1) := rdX12_needs_29
theorem dX12_needs_30 : decode cX12_needs 30 = .ok (.iconst 1, 1) := rdX12_needs_30
theorem dX12_needs_31 : decode cX12_needs 31 = .ok (.putfield 217, 3) := rdX12_needs_31
theorem dX12_needs_34 : decode cX12_needs 34 = .ok (.iconst 0, 1) := rdX12_needs_34
theorem dX12_needs_35 : decode cX12_needs 35 = .ok (.ireturn, 1) := rdX12_needs_35
theorem dX12_needs_17 : decode cX12_needs 17 = .ok (.aload_n 0, 1) := rdX12_needs_17
theorem dX12_needs_18 : decode cX12_needs 18 = .ok (.getfield 210, 3) := rdX12_needs_18
theorem dX12_needs_21 : decode cX12_needs 21 = .ok (.iload_n 1, 1) := rdX12_needs_21
theorem dX12_needs_22 : decode cX12_needs 22 = .ok (.iload_n 2, 1) := rdX12_needs_22
theorem dX12_needs_23 : decode cX12_needs 23 = .ok (.invokestatic 55, 3) := rdX12_needs_23
theorem dX12_needs_26 : decode cX12_needs 26 = .ok (.ifCond .ne 10, 3) := rdX12_needs_26
theorem dX12_needs_36 : decode cX12_needs 36 = .ok (.aload_n 0, 1) := rdX12_needs_36
theorem dX12_needs_37 : decode cX12_needs 37 = .ok (.getfield 210, 3) := rdX12_needs_37
theorem dX12_needs_40 : decode cX12_needs 40 = .ok (.iload_n 1, 1) := rdX12_needs_40
theorem dX12_needs_41 : decode cX12_needs 41 = .ok (.isub, 1) := rdX12_needs_41
theorem dX12_needs_42 : decode cX12_needs 42 = .ok (.istore_n 3, 1) := rdX12_needs_42
theorem dX12_needs_43 : decode cX12_needs 43 = .ok (.aload_n 0, 1) := rdX12_needs_43
theorem dX12_needs_44 : decode cX12_needs 44 = .ok (.invokevirtual 221, 3) := rdX12_needs_44
theorem tk_X12_goesOn : Cond.code yX12_goesOn cX12_goesOn 5 none ∈ TB := rtk_X12_goesOn
theorem gc_X12_goesOn : GoodIn TB (cw yX12_goesOn cX12_goesOn 5 none) := goodIn_c2 tk_X12_goesOn
theorem tb_670 : Cond.methodLink "ToneLinesModel" 221 yX12_goesOn ∈ TB := rtb_140
theorem tb_671 : Cond.instanceMethod yX12_goesOn ∈ TB := rtb_141
theorem tb_672 : Cond.selects "ToneLinesModel" yX12_goesOn yX12_goesOn ∈ TB := rtb_142
theorem gv_X12_221 : GoodIn TB (wsV RX12 221 RX12 yX12_goesOn (cw yX12_goesOn cX12_goesOn 5 none)) := goodIn_4 tb_670 tb_671 tb_672 tb_38 gc_X12_goesOn
theorem hv_X12_goesOn : yX12_goesOn.cls = RX12 ∧ yX12_goesOn.cls ≠ "java/lang/invoke/MethodHandle" ∧ yX12_goesOn.cls ≠ "java/lang/invoke/VarHandle" ∧ (parseMethodDescriptor yX12_goesOn.desc).map (fun d => d.parameters.length) = some 0 := rhv_X12_goesOn
theorem dX12_needs_47 : decode cX12_needs 47 = .ok (.iload_n 3, 1) := rdX12_needs_47
theorem dX12_needs_48 : decode cX12_needs 48 = .ok (.ireturn, 1) := rdX12_needs_48
theorem dX12_needs_7 : decode cX12_needs 7 = .ok (.iconst 0, 1) := rdX12_needs_7
theorem dX12_needs_8 : decode cX12_needs 8 = .ok (.ireturn, 1) := rdX12_needs_8
set_option maxRecDepth 4000 in
theorem q_X12_needs {l : Launch} {D : va_G} {B : Nat} {cy : Nat → ClassId} {M : Mem} {x : Int} (hx : 0 ≤ x ∧ x ≤ 28) {x1 : Int} (hx1 : 0 ≤ x1 ∧ x1 ≤ 28) {tk : Int} (hgtk : M.1 146 13 = zI tk) (htk : (-2147483648) ≤ tk ∧ tk ≤ 2147483647) {nb : Int} (hgnb : M.1 146 11 = zI nb) (hnb : (-99) ≤ nb ∧ nb ≤ 300) (hpre0 : tk ≠ 2 ∨ 0 ≤ nb) (hI : IvR M) : Ci l D B cy yX12_needs cX12_needs 4 (some .int) 3 66 [.ref (B + 146), .int (zI x), .int (zI x1)] M (fun r M1 => ∃ z : Int, r = zI z ∧ (0 ≤ z ∧ z ≤ 28) ∧ (∃ tk2 nb2 : Int, M1.1 146 13 = zI tk2 ∧ M1.1 146 11 = zI nb2 ∧ (((-2147483648) ≤ tk2 ∧ tk2 ≤ 2147483647) ∧ ((-99) ≤ nb2 ∧ nb2 ≤ 300) ∧ (tk2 ≠ 2 ∨ 0 ≤ nb2) ∧ (z = 0 ∨ z ≤ x1 - x))) ∧ IvR M1 ∧ Fr (fun b9 k9 => (b9 = 146 ∧ k9 = 11) ∨ (b9 = 146 ∧ k9 = 13) ∨ (b9 = 146 ∧ k9 = 14) ∨ (b9 = 146 ∧ k9 = 15) ∨ (b9 = 146 ∧ k9 = 16) ∨ (b9 = 146 ∧ k9 = 9)) M1 M) := by
  refine s_anyQ (by decide) (Nat.le_of_ble_eq_true rfl) ?_
  intro p e s m args below meth c ls Q F hr hlocks hQ w hl
  have F : CallFix p m c cX12_needs 4 s args TB RX12 := F
  have hx := F.1
  have hb := F.2.1
  have hl : lv_has ls 4 [(0, .ref (B + 146)), (1, .int (zI x)), (2, .int (zI x1))] := hl
  have hF : Fr (fun b9 k9 => (b9 = 146 ∧ k9 = 11) ∨ (b9 = 146 ∧ k9 = 13) ∨ (b9 = 146 ∧ k9 = 14) ∨ (b9 = 146 ∧ k9 = 15) ∨ (b9 = 146 ∧ k9 = 16) ∨ (b9 = 146 ∧ k9 = 9)) M M := Fr.rf
  refine lv_aload_n hx hb dX12_needs_0 rfl (lv_at hl 0 rfl) ?_
  refine f_12_16 F w (a := 146) rfl tb_669 dX12_needs_1 ?_
  obtain ⟨z1, bz1, ez1⟩ := IvR.ld (k := 16) hI (show ivr 146 16 = (0, 1) from rfl) (show 146 ≤ 146 ∧ 146 < 159 by decide)
  refine r_val ez1 ?_
  refine z_if_eq (tgt := 9) hx hb (by omega) dX12_needs_4 (by decide) (fun c2 => ?_) (fun c2 => ?_)
  · refine lv_aload_n hx hb dX12_needs_9 rfl (lv_at hl 0 rfl) ?_
    refine f_12_13 F w (a := 146) rfl tb_602 dX12_needs_10 ?_
    refine r_val (v := zI tk) (hgtk) ?_
    refine lv_iconst (v := zI 1) hx hb dX12_needs_13 rfl ?_
    refine z_icmp_ne (tgt := 29) hx hb (by omega) (by omega) dX12_needs_14 (by decide) (fun c3 => ?_) (fun c3 => ?_)
    · refine lv_aload_n hx hb dX12_needs_29 rfl (lv_at hl 0 rfl) ?_
      refine lv_iconst (v := zI 1) hx hb dX12_needs_30 rfl ?_
      refine u_12_16 F w (a := 146) rfl (nar_z (by omega)) (fit_z (by omega)) tb_669 dX12_needs_31 (fun H locs w => ?_)
      refine lv_iconst (v := zI 0) hx hb dX12_needs_34 rfl ?_
      rw [hQ]
      exact e_i F w hr hlocks ⟨_, rfl, ⟨by omega, by omega⟩, ⟨tk, nb, ((st_ne (Or.inr (by decide))).trans hgtk), ((st_ne (Or.inr (by decide))).trans hgnb), ⟨by omega, by omega⟩, ⟨by omega, by omega⟩, (by omega)⟩, (IvR.to hI (a := 146) (k := 16) (x := 1) (show ivr 146 16 = (0, 1) from rfl) ⟨by omega, by omega⟩ ⟨by decide, by decide, by decide, fun q9 => absurd q9 (by decide)⟩), (Fr.to hF (by first | decide | (dsimp only; first | done | decide | omega) | omega))⟩ dX12_needs_35
    · refine lv_aload_n hx hb dX12_needs_17 rfl (lv_at hl 0 rfl) ?_
      refine f_12_15 F w (a := 146) rfl tb_603 dX12_needs_18 ?_
      obtain ⟨z4, bz4, ez4⟩ := IvR.ld (k := 15) hI (show ivr 146 15 = ((-2147483648), 2147483647) from rfl) (show 146 ≤ 146 ∧ 146 < 159 by decide)
      refine r_val ez4 ?_
      refine lv_iload_n hx hb dX12_needs_21 rfl (lv_at hl 1 rfl) ?_
      refine lv_iload_n hx hb dX12_needs_22 rfl (lv_at hl 2 rfl) ?_
      refine k_Si F w (As := [.int (zI z4), .int (zI x), .int (zI x1)]) (rest := []) (q_X12_in (x := z4) ⟨by omega, by omega⟩ (x1 := x) ⟨by omega, by omega⟩ (x2 := x1) ⟨by omega, by omega⟩  hI) gs_X12_55 hs_X12_in ⟨(Nat.le_of_ble_eq_true rfl), (Nat.le_of_ble_eq_true rfl)⟩ hl.1 rfl (Nat.le_of_ble_eq_true rfl) ⟨Nat.zero_le _, Nat.zero_le _⟩ dX12_needs_23 (fun r5 N6 H locs hp w => ?_)
      obtain ⟨z7, rfl, bz7, xz7, hMN6⟩ := hp
      rw [hMN6] at w
      refine z_if_ne (tgt := 36) hx hb (by omega) dX12_needs_26 (by decide) (fun c8 => ?_) (fun c8 => ?_)
      · refine lv_aload_n hx hb dX12_needs_36 rfl (lv_at hl 0 rfl) ?_
        refine f_12_15 F w (a := 146) rfl tb_603 dX12_needs_37 ?_
        refine r_val (v := zI z4) (ez4) ?_
        refine lv_iload_n hx hb dX12_needs_40 rfl (lv_at hl 1 rfl) ?_
        obtain ⟨z9, bz9, x0z9, ez9⟩ := sub_ex z4 x
        refine lv_isub hx hb dX12_needs_41 ?_
        refine r_val ez9 ?_
        refine lv_istore_n (lv' := [(3, .int (zI z9)), (0, .ref (B + 146)), (1, .int (zI x)), (2, .int (zI x1))]) hx hb dX12_needs_42 rfl hl (by decide) rfl (fun ls hl => ?_)
        refine lv_aload_n hx hb dX12_needs_43 rfl (lv_at hl 1 rfl) ?_
        refine k_Vv F w (As := []) (rest := []) (a := 146) (kd_lt (a := 146) (show kd 146 = (12, 0, 0) from rfl) (by decide)) (sh_12 rfl _ _) rfl (q_X12_goesOn   hI) gv_X12_221 hv_X12_goesOn ⟨(Nat.le_of_ble_eq_true rfl), (Nat.le_of_ble_eq_true rfl)⟩ hl.1 rfl (Nat.le_of_ble_eq_true rfl) ⟨Nat.zero_le _, Nat.zero_le _⟩ dX12_needs_44 (fun N11 H locs hp w => ?_)
        obtain ⟨⟨nz120, nz121, enz120, enz121, xz12⟩, hIN11, hFN11⟩ := hp
        have hGN11 := Fr.tr hF hFN11 (S := (fun b9 k9 => (b9 = 146 ∧ k9 = 11) ∨ (b9 = 146 ∧ k9 = 13) ∨ (b9 = 146 ∧ k9 = 14) ∨ (b9 = 146 ∧ k9 = 15) ∨ (b9 = 146 ∧ k9 = 16) ∨ (b9 = 146 ∧ k9 = 9))) (fun b k h => by (try dsimp only at h ⊢); rcases h with ⟨rfl, rfl⟩ | ⟨rfl, rfl⟩ | ⟨rfl, rfl⟩ | ⟨rfl, rfl⟩ | ⟨rfl, rfl⟩ <;> first | decide | omega)
        have kn13 : N11.1 146 16 = zI z1 := (hFN11 146 16 (by first | decide | (dsimp only; first | done | decide | omega) | omega)).trans (ez1)
        refine lv_iload_n hx hb dX12_needs_47 rfl (lv_at hl 0 rfl) ?_
        rw [hQ]
        exact e_i F w hr hlocks ⟨_, rfl, ⟨by omega, by omega⟩, ⟨nz120, nz121, (enz120), (enz121), ⟨by omega, by omega⟩, ⟨by omega, by omega⟩, (by omega)⟩, hIN11, hGN11⟩ dX12_needs_48
      · refine lv_aload_n hx hb dX12_needs_29 rfl (lv_at hl 0 rfl) ?_
        refine lv_iconst (v := zI 1) hx hb dX12_needs_30 rfl ?_
        refine u_12_16 F w (a := 146) rfl (nar_z (by omega)) (fit_z (by omega)) tb_669 dX12_needs_31 (fun H locs w => ?_)
        refine lv_iconst (v := zI 0) hx hb dX12_needs_34 rfl ?_
        rw [hQ]
        exact e_i F w hr hlocks ⟨_, rfl, ⟨by omega, by omega⟩, ⟨tk, nb, ((st_ne (Or.inr (by decide))).trans hgtk), ((st_ne (Or.inr (by decide))).trans hgnb), ⟨by omega, by omega⟩, ⟨by omega, by omega⟩, (by omega)⟩, (IvR.to hI (a := 146) (k := 16) (x := 1) (show ivr 146 16 = (0, 1) from rfl) ⟨by omega, by omega⟩ ⟨by decide, by decide, by decide, fun q9 => absurd q9 (by decide)⟩), (Fr.to hF (by first | decide | (dsimp only; first | done | decide | omega) | omega))⟩ dX12_needs_35
  · refine lv_iconst (v := zI 0) hx hb dX12_needs_7 rfl ?_
    rw [hQ]
    exact e_i F w hr hlocks ⟨_, rfl, ⟨by omega, by omega⟩, ⟨tk, nb, (hgtk), (hgnb), ⟨by omega, by omega⟩, ⟨by omega, by omega⟩, (by omega)⟩, hI, hF⟩ dX12_needs_8
theorem dX12_needsNumber_0 : decode cX12_needsNumber 0 = .ok (.aload_n 0, 1) := rdX12_needsNumber_0
theorem dX12_needsNumber_1 : decode cX12_needsNumber 1 = .ok (.getfield 217, 3) := rdX12_needsNumber_1
theorem dX12_needsNumber_4 : decode cX12_needsNumber 4 = .ok (.ifCond .eq 5, 3) := rdX12_needsNumber_4
theorem dX12_needsNumber_9 : decode cX12_needsNumber 9 = .ok (.aload_n 0, 1) := rdX12_needsNumber_9
theorem dX12_needsNumber_10 : decode cX12_needsNumber 10 = .ok (.getfield 204, 3) := rdX12_needsNumber_10
theorem dX12_needsNumber_13 : decode cX12_needsNumber 13 = .ok (.iconst 2, 1) := rdX12_needsNumber_13
theorem dX12_needsNumber_14 : decode cX12_needsNumber 14 = .ok (.if_icmp .ne 10, 3) := rdX12_needsNumber_14
theorem dX12_needsNumber_24 : decode cX12_needsNumber 24 = .ok (.aload_n 0, 1) := rdX12_needsNumber_24
theorem dX12_needsNumber_25 : decode cX12_needsNumber 25 = .ok (.iconst 1, 1) := rdX12_needsNumber_25
theorem dX12_needsNumber_26 : decode cX12_needsNumber 26 = .ok (.putfield 217, 3) := rdX12_needsNumber_26
theorem dX12_needsNumber_29 : decode cX12_needsNumber 29 = .ok (.iconst 0, 1) := rdX12_needsNumber_29
theorem dX12_needsNumber_30 : decode cX12_needsNumber 30 = .ok (.ireturn, 1) := rdX12_needsNumber_30
theorem dX12_needsNumber_17 : decode cX12_needsNumber 17 = .ok (.aload_n 0, 1) := rdX12_needsNumber_17
theorem dX12_needsNumber_18 : decode cX12_needsNumber 18 = .ok (.getfield 185, 3) := rdX12_needsNumber_18
theorem dX12_needsNumber_21 : decode cX12_needsNumber 21 = .ok (.ifCond .ne 10, 3) := rdX12_needsNumber_21
theorem dX12_needsNumber_31 : decode cX12_needsNumber 31 = .ok (.aload_n 0, 1) := rdX12_needsNumber_31
theorem dX12_needsNumber_32 : decode cX12_needsNumber 32 = .ok (.getfield 185, 3) := rdX12_needsNumber_32
theorem dX12_needsNumber_35 : decode cX12_needsNumber 35 = .ok (.istore_n 1, 1) := rdX12_needsNumber_35
theorem dX12_needsNumber_36 : decode cX12_needsNumber 36 = .ok (.aload_n 0, 1) := rdX12_needsNumber_36
theorem dX12_needsNumber_37 : decode cX12_needsNumber 37 = .ok (.invokevirtual 221, 3) := rdX12_needsNumber_37
theorem dX12_needsNumber_40 : decode cX12_needsNumber 40 = .ok (.iload_n 1, 1) := rdX12_needsNumber_40
theorem dX12_needsNumber_41 : decode cX12_needsNumber 41 = .ok (.ireturn, 1) := rdX12_needsNumber_41
theorem dX12_needsNumber_7 : decode cX12_needsNumber 7 = .ok (.iconst 0, 1) := rdX12_needsNumber_7
theorem dX12_needsNumber_8 : decode cX12_needsNumber 8 = .ok (.ireturn, 1) := rdX12_needsNumber_8
set_option maxRecDepth 4000 in
theorem q_X12_needsNumber {l : Launch} {D : va_G} {B : Nat} {cy : Nat → ClassId} {M : Mem} {tk : Int} (hgtk : M.1 146 13 = zI tk) (htk : (-2147483648) ≤ tk ∧ tk ≤ 2147483647) {nb : Int} (hgnb : M.1 146 11 = zI nb) (hnb : (-99) ≤ nb ∧ nb ≤ 300) (hpre0 : tk ≠ 2 ∨ 0 ≤ nb) (hI : IvR M) : Ci l D B cy yX12_needsNumber cX12_needsNumber 2 (some .int) 3 66 [.ref (B + 146)] M (fun r M1 => ∃ z : Int, r = zI z ∧ (0 ≤ z ∧ z ≤ 300) ∧ (∃ tk2 nb2 : Int, M1.1 146 13 = zI tk2 ∧ M1.1 146 11 = zI nb2 ∧ (((-2147483648) ≤ tk2 ∧ tk2 ≤ 2147483647) ∧ ((-99) ≤ nb2 ∧ nb2 ≤ 300) ∧ (tk2 ≠ 2 ∨ 0 ≤ nb2))) ∧ IvR M1 ∧ Fr (fun b9 k9 => (b9 = 146 ∧ k9 = 11) ∨ (b9 = 146 ∧ k9 = 13) ∨ (b9 = 146 ∧ k9 = 14) ∨ (b9 = 146 ∧ k9 = 15) ∨ (b9 = 146 ∧ k9 = 16) ∨ (b9 = 146 ∧ k9 = 9)) M1 M) := by
  refine s_anyQ (by decide) (Nat.le_of_ble_eq_true rfl) ?_
  intro p e s m args below meth c ls Q F hr hlocks hQ w hl
  have F : CallFix p m c cX12_needsNumber 2 s args TB RX12 := F
  have hx := F.1
  have hb := F.2.1
  have hl : lv_has ls 2 [(0, .ref (B + 146))] := hl
  have hF : Fr (fun b9 k9 => (b9 = 146 ∧ k9 = 11) ∨ (b9 = 146 ∧ k9 = 13) ∨ (b9 = 146 ∧ k9 = 14) ∨ (b9 = 146 ∧ k9 = 15) ∨ (b9 = 146 ∧ k9 = 16) ∨ (b9 = 146 ∧ k9 = 9)) M M := Fr.rf
  refine lv_aload_n hx hb dX12_needsNumber_0 rfl (lv_at hl 0 rfl) ?_
  refine f_12_16 F w (a := 146) rfl tb_669 dX12_needsNumber_1 ?_
  obtain ⟨z1, bz1, ez1⟩ := IvR.ld (k := 16) hI (show ivr 146 16 = (0, 1) from rfl) (show 146 ≤ 146 ∧ 146 < 159 by decide)
  refine r_val ez1 ?_
  refine z_if_eq (tgt := 9) hx hb (by omega) dX12_needsNumber_4 (by decide) (fun c2 => ?_) (fun c2 => ?_)
  · refine lv_aload_n hx hb dX12_needsNumber_9 rfl (lv_at hl 0 rfl) ?_
    refine f_12_13 F w (a := 146) rfl tb_602 dX12_needsNumber_10 ?_
    refine r_val (v := zI tk) (hgtk) ?_
    refine lv_iconst (v := zI 2) hx hb dX12_needsNumber_13 rfl ?_
    refine z_icmp_ne (tgt := 24) hx hb (by omega) (by omega) dX12_needsNumber_14 (by decide) (fun c3 => ?_) (fun c3 => ?_)
    · refine lv_aload_n hx hb dX12_needsNumber_24 rfl (lv_at hl 0 rfl) ?_
      refine lv_iconst (v := zI 1) hx hb dX12_needsNumber_25 rfl ?_
      refine u_12_16 F w (a := 146) rfl (nar_z (by omega)) (fit_z (by omega)) tb_669 dX12_needsNumber_26 (fun H locs w => ?_)
      refine lv_iconst (v := zI 0) hx hb dX12_needsNumber_29 rfl ?_
      rw [hQ]
      exact e_i F w hr hlocks ⟨_, rfl, ⟨by omega, by omega⟩, ⟨tk, nb, ((st_ne (Or.inr (by decide))).trans hgtk), ((st_ne (Or.inr (by decide))).trans hgnb), ⟨by omega, by omega⟩, ⟨by omega, by omega⟩, (by omega)⟩, (IvR.to hI (a := 146) (k := 16) (x := 1) (show ivr 146 16 = (0, 1) from rfl) ⟨by omega, by omega⟩ ⟨by decide, by decide, by decide, fun q9 => absurd q9 (by decide)⟩), (Fr.to hF (by first | decide | (dsimp only; first | done | decide | omega) | omega))⟩ dX12_needsNumber_30
    · refine lv_aload_n hx hb dX12_needsNumber_17 rfl (lv_at hl 0 rfl) ?_
      refine f_12_11 F w (a := 146) rfl tb_598 dX12_needsNumber_18 ?_
      refine r_val (v := zI nb) (hgnb) ?_
      refine z_if_ne (tgt := 31) hx hb (by omega) dX12_needsNumber_21 (by decide) (fun c4 => ?_) (fun c4 => ?_)
      · refine lv_aload_n hx hb dX12_needsNumber_31 rfl (lv_at hl 0 rfl) ?_
        refine f_12_11 F w (a := 146) rfl tb_598 dX12_needsNumber_32 ?_
        refine r_val (v := zI nb) (hgnb) ?_
        refine lv_istore_n (lv' := [(1, .int (zI nb)), (0, .ref (B + 146))]) hx hb dX12_needsNumber_35 rfl hl (by decide) rfl (fun ls hl => ?_)
        refine lv_aload_n hx hb dX12_needsNumber_36 rfl (lv_at hl 1 rfl) ?_
        refine k_Vv F w (As := []) (rest := []) (a := 146) (kd_lt (a := 146) (show kd 146 = (12, 0, 0) from rfl) (by decide)) (sh_12 rfl _ _) rfl (q_X12_goesOn   hI) gv_X12_221 hv_X12_goesOn ⟨(Nat.le_of_ble_eq_true rfl), (Nat.le_of_ble_eq_true rfl)⟩ hl.1 rfl (Nat.le_of_ble_eq_true rfl) ⟨Nat.zero_le _, Nat.zero_le _⟩ dX12_needsNumber_37 (fun N6 H locs hp w => ?_)
        obtain ⟨⟨nz70, nz71, enz70, enz71, xz7⟩, hIN6, hFN6⟩ := hp
        have hGN6 := Fr.tr hF hFN6 (S := (fun b9 k9 => (b9 = 146 ∧ k9 = 11) ∨ (b9 = 146 ∧ k9 = 13) ∨ (b9 = 146 ∧ k9 = 14) ∨ (b9 = 146 ∧ k9 = 15) ∨ (b9 = 146 ∧ k9 = 16) ∨ (b9 = 146 ∧ k9 = 9))) (fun b k h => by (try dsimp only at h ⊢); rcases h with ⟨rfl, rfl⟩ | ⟨rfl, rfl⟩ | ⟨rfl, rfl⟩ | ⟨rfl, rfl⟩ | ⟨rfl, rfl⟩ <;> first | decide | omega)
        have kn8 : N6.1 146 16 = zI z1 := (hFN6 146 16 (by first | decide | (dsimp only; first | done | decide | omega) | omega)).trans (ez1)
        refine lv_iload_n hx hb dX12_needsNumber_40 rfl (lv_at hl 0 rfl) ?_
        rw [hQ]
        exact e_i F w hr hlocks ⟨_, rfl, ⟨by omega, by omega⟩, ⟨nz70, nz71, (enz70), (enz71), ⟨by omega, by omega⟩, ⟨by omega, by omega⟩, (by omega)⟩, hIN6, hGN6⟩ dX12_needsNumber_41
      · refine lv_aload_n hx hb dX12_needsNumber_24 rfl (lv_at hl 0 rfl) ?_
        refine lv_iconst (v := zI 1) hx hb dX12_needsNumber_25 rfl ?_
        refine u_12_16 F w (a := 146) rfl (nar_z (by omega)) (fit_z (by omega)) tb_669 dX12_needsNumber_26 (fun H locs w => ?_)
        refine lv_iconst (v := zI 0) hx hb dX12_needsNumber_29 rfl ?_
        rw [hQ]
        exact e_i F w hr hlocks ⟨_, rfl, ⟨by omega, by omega⟩, ⟨tk, nb, ((st_ne (Or.inr (by decide))).trans hgtk), ((st_ne (Or.inr (by decide))).trans hgnb), ⟨by omega, by omega⟩, ⟨by omega, by omega⟩, (by omega)⟩, (IvR.to hI (a := 146) (k := 16) (x := 1) (show ivr 146 16 = (0, 1) from rfl) ⟨by omega, by omega⟩ ⟨by decide, by decide, by decide, fun q9 => absurd q9 (by decide)⟩), (Fr.to hF (by first | decide | (dsimp only; first | done | decide | omega) | omega))⟩ dX12_needsNumber_30
  · refine lv_iconst (v := zI 0) hx hb dX12_needsNumber_7 rfl ?_
    rw [hQ]
    exact e_i F w hr hlocks ⟨_, rfl, ⟨by omega, by omega⟩, ⟨tk, nb, (hgtk), (hgnb), ⟨by omega, by omega⟩, ⟨by omega, by omega⟩, (by omega)⟩, hI, hF⟩ dX12_needsNumber_8
theorem dX12_readsTest_0 : decode cX12_readsTest 0 = .ok (.aload_n 0, 1) := rdX12_readsTest_0
theorem dX12_readsTest_1 : decode cX12_readsTest 1 = .ok (.invokevirtual 221, 3) := rdX12_readsTest_1
theorem dX12_readsTest_4 : decode cX12_readsTest 4 = .ok (.aload_n 0, 1) := rdX12_readsTest_4
theorem dX12_readsTest_5 : decode cX12_readsTest 5 = .ok (.bipush 21, 2) := rdX12_readsTest_5
theorem dX12_readsTest_7 : decode cX12_readsTest 7 = .ok (.invokevirtual 224, 3) := rdX12_readsTest_7
theorem tk_X12_isWord : Cond.code yX12_isWord cX12_isWord 2 (some .boolean) ∈ TB := rtk_X12_isWord
theorem gc_X12_isWord : GoodIn TB (cw yX12_isWord cX12_isWord 2 (some .boolean)) := goodIn_c2 tk_X12_isWord
theorem tb_673 : Cond.methodLink "ToneLinesModel" 224 yX12_isWord ∈ TB := rtb_143
theorem tb_674 : Cond.instanceMethod yX12_isWord ∈ TB := rtb_144
theorem tb_675 : Cond.selects "ToneLinesModel" yX12_isWord yX12_isWord ∈ TB := rtb_145
theorem gv_X12_224 : GoodIn TB (wsV RX12 224 RX12 yX12_isWord (cw yX12_isWord cX12_isWord 2 (some .boolean))) := goodIn_4 tb_673 tb_674 tb_675 tb_38 gc_X12_isWord
theorem hv_X12_isWord : yX12_isWord.cls = RX12 ∧ yX12_isWord.cls ≠ "java/lang/invoke/MethodHandle" ∧ yX12_isWord.cls ≠ "java/lang/invoke/VarHandle" ∧ (parseMethodDescriptor yX12_isWord.desc).map (fun d => d.parameters.length) = some 1 := rhv_X12_isWord
theorem dX12_readsTest_10 : decode cX12_readsTest 10 = .ok (.ifCond .eq 15, 3) := rdX12_readsTest_10
theorem dX12_readsTest_25 : decode cX12_readsTest 25 = .ok (.aload_n 0, 1) := rdX12_readsTest_25
theorem dX12_readsTest_26 : decode cX12_readsTest 26 = .ok (.getfield 33, 3) := rdX12_readsTest_26
theorem tb_676 : Cond.fieldLink "ToneLinesModel" 33 "ToneLinesModel" "own" "[I" ∈ TB := rtb_146
theorem dX12_readsTest_29 : decode cX12_readsTest 29 = .ok (.iconst 5, 1) := rdX12_readsTest_29
theorem dX12_readsTest_30 : decode cX12_readsTest 30 = .ok (.aload_n 0, 1) := rdX12_readsTest_30
theorem dX12_readsTest_31 : decode cX12_readsTest 31 = .ok (.bipush 22, 2) := rdX12_readsTest_31
theorem dX12_readsTest_33 : decode cX12_readsTest 33 = .ok (.bipush 28, 2) := rdX12_readsTest_33
theorem dX12_readsTest_35 : decode cX12_readsTest 35 = .ok (.invokevirtual 227, 3) := rdX12_readsTest_35
theorem tk_X12_needs : Cond.code yX12_needs cX12_needs 4 (some .int) ∈ TB := rtk_X12_needs
theorem gc_X12_needs : GoodIn TB (cw yX12_needs cX12_needs 4 (some .int)) := goodIn_c2 tk_X12_needs
theorem tb_677 : Cond.methodLink "ToneLinesModel" 227 yX12_needs ∈ TB := rtb_147
theorem tb_678 : Cond.instanceMethod yX12_needs ∈ TB := rtb_148
theorem tb_679 : Cond.selects "ToneLinesModel" yX12_needs yX12_needs ∈ TB := rtb_149
theorem gv_X12_227 : GoodIn TB (wsV RX12 227 RX12 yX12_needs (cw yX12_needs cX12_needs 4 (some .int))) := goodIn_4 tb_677 tb_678 tb_679 tb_38 gc_X12_needs
theorem hv_X12_needs : yX12_needs.cls = RX12 ∧ yX12_needs.cls ≠ "java/lang/invoke/MethodHandle" ∧ yX12_needs.cls ≠ "java/lang/invoke/VarHandle" ∧ (parseMethodDescriptor yX12_needs.desc).map (fun d => d.parameters.length) = some 2 := rhv_X12_needs
theorem dX12_readsTest_38 : decode cX12_readsTest 38 = .ok (.iastore, 1) := rdX12_readsTest_38
theorem dX12_readsTest_39 : decode cX12_readsTest 39 = .ok (.aload_n 0, 1) := rdX12_readsTest_39
theorem dX12_readsTest_40 : decode cX12_readsTest 40 = .ok (.getfield 33, 3) := rdX12_readsTest_40
theorem dX12_readsTest_43 : decode cX12_readsTest 43 = .ok (.iconst 5, 1) := rdX12_readsTest_43
theorem dX12_readsTest_44 : decode cX12_readsTest 44 = .ok (.iaload, 1) := rdX12_readsTest_44
theorem dX12_readsTest_45 : decode cX12_readsTest 45 = .ok (.iconst 5, 1) := rdX12_readsTest_45
theorem dX12_readsTest_46 : decode cX12_readsTest 46 = .ok (.if_icmp .lt 18, 3) := rdX12_readsTest_46
theorem dX12_readsTest_64 : decode cX12_readsTest 64 = .ok (.return_, 1) := rdX12_readsTest_64
theorem dX12_readsTest_49 : decode cX12_readsTest 49 = .ok (.aload_n 0, 1) := rdX12_readsTest_49
theorem dX12_readsTest_50 : decode cX12_readsTest 50 = .ok (.getfield 33, 3) := rdX12_readsTest_50
theorem dX12_readsTest_53 : decode cX12_readsTest 53 = .ok (.bipush 7, 2) := rdX12_readsTest_53
theorem dX12_readsTest_55 : decode cX12_readsTest 55 = .ok (.aload_n 0, 1) := rdX12_readsTest_55
theorem dX12_readsTest_56 : decode cX12_readsTest 56 = .ok (.bipush 11, 2) := rdX12_readsTest_56
theorem dX12_readsTest_58 : decode cX12_readsTest 58 = .ok (.bipush 14, 2) := rdX12_readsTest_58
theorem dX12_readsTest_60 : decode cX12_readsTest 60 = .ok (.invokevirtual 227, 3) := rdX12_readsTest_60
theorem dX12_readsTest_63 : decode cX12_readsTest 63 = .ok (.iastore, 1) := rdX12_readsTest_63
theorem dX12_readsTest_13 : decode cX12_readsTest 13 = .ok (.aload_n 0, 1) := rdX12_readsTest_13
theorem dX12_readsTest_14 : decode cX12_readsTest 14 = .ok (.getfield 33, 3) := rdX12_readsTest_14
theorem dX12_readsTest_17 : decode cX12_readsTest 17 = .ok (.bipush 6, 2) := rdX12_readsTest_17
theorem dX12_readsTest_19 : decode cX12_readsTest 19 = .ok (.iconst 1, 1) := rdX12_readsTest_19
theorem dX12_readsTest_20 : decode cX12_readsTest 20 = .ok (.iastore, 1) := rdX12_readsTest_20
theorem dX12_readsTest_21 : decode cX12_readsTest 21 = .ok (.aload_n 0, 1) := rdX12_readsTest_21
theorem dX12_readsTest_22 : decode cX12_readsTest 22 = .ok (.invokevirtual 221, 3) := rdX12_readsTest_22
set_option maxHeartbeats 4000000 in
set_option maxRecDepth 4000 in
theorem q_X12_readsTest {l : Launch} {D : va_G} {B : Nat} {cy : Nat → ClassId} {M : Mem}  (hI : IvR M) : Cv l D B cy yX12_readsTest cX12_readsTest 1 4 89 [.ref (B + 146)] M (fun M1 => (∃ tk2 nb2 : Int, M1.1 146 13 = zI tk2 ∧ M1.1 146 11 = zI nb2 ∧ (((-2147483648) ≤ tk2 ∧ tk2 ≤ 2147483647) ∧ ((-99) ≤ nb2 ∧ nb2 ≤ 300) ∧ (tk2 ≠ 2 ∨ 0 ≤ nb2))) ∧ IvR M1 ∧ Fr (fun b9 k9 => (b9 = 146 ∧ k9 = 11) ∨ (b9 = 146 ∧ k9 = 13) ∨ (b9 = 146 ∧ k9 = 14) ∨ (b9 = 146 ∧ k9 = 15) ∨ (b9 = 146 ∧ k9 = 16) ∨ (b9 = 146 ∧ k9 = 9) ∨ (b9 = 153 ∧ 5 ≤ k9 ∧ k9 ≤ 5) ∨ (b9 = 153 ∧ 6 ≤ k9 ∧ k9 ≤ 6) ∨ (b9 = 153 ∧ 7 ≤ k9 ∧ k9 ≤ 7)) M1 M) := by
  refine s_anyQ (by decide) (Nat.le_of_ble_eq_true rfl) ?_
  intro p e s m args below meth c ls Q F hr hlocks hQ w hl
  have F : CallFix p m c cX12_readsTest 1 s args TB RX12 := F
  have hx := F.1
  have hb := F.2.1
  have hl : lv_has ls 1 [(0, .ref (B + 146))] := hl
  have hF : Fr (fun b9 k9 => (b9 = 146 ∧ k9 = 11) ∨ (b9 = 146 ∧ k9 = 13) ∨ (b9 = 146 ∧ k9 = 14) ∨ (b9 = 146 ∧ k9 = 15) ∨ (b9 = 146 ∧ k9 = 16) ∨ (b9 = 146 ∧ k9 = 9) ∨ (b9 = 153 ∧ 5 ≤ k9 ∧ k9 ≤ 5) ∨ (b9 = 153 ∧ 6 ≤ k9 ∧ k9 ≤ 6) ∨ (b9 = 153 ∧ 7 ≤ k9 ∧ k9 ≤ 7)) M M := Fr.rf
  refine lv_aload_n hx hb dX12_readsTest_0 rfl (lv_at hl 0 rfl) ?_
  refine k_Vv F w (As := []) (rest := []) (a := 146) (kd_lt (a := 146) (show kd 146 = (12, 0, 0) from rfl) (by decide)) (sh_12 rfl _ _) rfl (q_X12_goesOn   hI) gv_X12_221 hv_X12_goesOn ⟨(Nat.le_of_ble_eq_true rfl), (Nat.le_of_ble_eq_true rfl)⟩ hl.1 rfl (Nat.le_of_ble_eq_true rfl) ⟨Nat.zero_le _, Nat.zero_le _⟩ dX12_readsTest_1 (fun N2 H locs hp w => ?_)
  obtain ⟨⟨nz30, nz31, enz30, enz31, xz3⟩, hIN2, hFN2⟩ := hp
  have hGN2 := Fr.tr hF hFN2 (S := (fun b9 k9 => (b9 = 146 ∧ k9 = 11) ∨ (b9 = 146 ∧ k9 = 13) ∨ (b9 = 146 ∧ k9 = 14) ∨ (b9 = 146 ∧ k9 = 15) ∨ (b9 = 146 ∧ k9 = 16) ∨ (b9 = 146 ∧ k9 = 9) ∨ (b9 = 153 ∧ 5 ≤ k9 ∧ k9 ≤ 5) ∨ (b9 = 153 ∧ 6 ≤ k9 ∧ k9 ≤ 6) ∨ (b9 = 153 ∧ 7 ≤ k9 ∧ k9 ≤ 7))) (fun b k h => by (try dsimp only at h ⊢); rcases h with ⟨rfl, rfl⟩ | ⟨rfl, rfl⟩ | ⟨rfl, rfl⟩ | ⟨rfl, rfl⟩ | ⟨rfl, rfl⟩ <;> first | decide | omega)
  refine lv_aload_n hx hb dX12_readsTest_4 rfl (lv_at hl 0 rfl) ?_
  refine lv_bipush (v := zI 21) hx hb dX12_readsTest_5 (by decide) ?_
  refine k_Vi F w (As := [.int (zI 21)]) (rest := []) (a := 146) (kd_lt (a := 146) (show kd 146 = (12, 0, 0) from rfl) (by decide)) (sh_12 rfl _ _) rfl (q_X12_isWord (x := 21) ⟨by omega, by omega⟩  hIN2) gv_X12_224 hv_X12_isWord ⟨(Nat.le_of_ble_eq_true rfl), (Nat.le_of_ble_eq_true rfl)⟩ hl.1 rfl (Nat.le_of_ble_eq_true rfl) ⟨Nat.zero_le _, Nat.zero_le _⟩ dX12_readsTest_7 (fun r4 N5 H locs hp w => ?_)
  obtain ⟨z6, rfl, bz6, hMN5⟩ := hp
  rw [hMN5] at w
  refine z_if_eq (tgt := 25) hx hb (by omega) dX12_readsTest_10 (by decide) (fun c7 => ?_) (fun c7 => ?_)
  · refine lv_aload_n hx hb dX12_readsTest_25 rfl (lv_at hl 0 rfl) ?_
    refine f_12_17 F w (a := 146) rfl tb_676 dX12_readsTest_26 ?_
    refine lv_iconst (v := zI 5) hx hb dX12_readsTest_29 rfl ?_
    refine lv_aload_n hx hb dX12_readsTest_30 rfl (lv_at hl 0 rfl) ?_
    refine lv_bipush (v := zI 22) hx hb dX12_readsTest_31 (by decide) ?_
    refine lv_bipush (v := zI 28) hx hb dX12_readsTest_33 (by decide) ?_
    refine k_Vi F w (As := [.int (zI 22), .int (zI 28)]) (rest := [.int (zI 5), .ref (B + 153)]) (a := 146) (kd_lt (a := 146) (show kd 146 = (12, 0, 0) from rfl) (by decide)) (sh_12 rfl _ _) rfl (q_X12_needs (x := 22) ⟨by omega, by omega⟩ (x1 := 28) ⟨by omega, by omega⟩ (tk := nz30) (enz30) ⟨by omega, by omega⟩ (nb := nz31) (enz31) ⟨by omega, by omega⟩ (by omega) hIN2) gv_X12_227 hv_X12_needs ⟨(Nat.le_of_ble_eq_true rfl), (Nat.le_of_ble_eq_true rfl)⟩ hl.1 rfl (Nat.le_of_ble_eq_true rfl) ⟨Nat.zero_le _, Nat.zero_le _⟩ dX12_readsTest_35 (fun r8 N9 H locs hp w => ?_)
    obtain ⟨z10, rfl, bz10, ⟨nz100, nz101, enz100, enz101, xz10⟩, hIN9, hFN9⟩ := hp
    have hGN9 := Fr.tr hGN2 hFN9 (S := (fun b9 k9 => (b9 = 146 ∧ k9 = 11) ∨ (b9 = 146 ∧ k9 = 13) ∨ (b9 = 146 ∧ k9 = 14) ∨ (b9 = 146 ∧ k9 = 15) ∨ (b9 = 146 ∧ k9 = 16) ∨ (b9 = 146 ∧ k9 = 9) ∨ (b9 = 153 ∧ 5 ≤ k9 ∧ k9 ≤ 5) ∨ (b9 = 153 ∧ 6 ≤ k9 ∧ k9 ≤ 6) ∨ (b9 = 153 ∧ 7 ≤ k9 ∧ k9 ≤ 7))) (fun b k h => by (try dsimp only at h ⊢); rcases h with ⟨rfl, rfl⟩ | ⟨rfl, rfl⟩ | ⟨rfl, rfl⟩ | ⟨rfl, rfl⟩ | ⟨rfl, rfl⟩ | ⟨rfl, rfl⟩ <;> first | decide | omega)
    refine g_iast F w (a := 153) rfl (j := 5) ⟨by decide, by decide⟩ (by omega) dX12_readsTest_38 (fun H locs w => ?_)
    refine lv_aload_n hx hb dX12_readsTest_39 rfl (lv_at hl 0 rfl) ?_
    refine f_12_17 F w (a := 146) rfl tb_676 dX12_readsTest_40 ?_
    refine lv_iconst (v := zI 5) hx hb dX12_readsTest_43 rfl ?_
    refine g_iald F w (a := 153) rfl (j := 5) ⟨by decide, by decide⟩ (by omega) dX12_readsTest_44 ?_
    refine r_val (v := zI z10) (st_at) ?_
    refine lv_iconst (v := zI 5) hx hb dX12_readsTest_45 rfl ?_
    refine z_icmp_lt (tgt := 64) hx hb (by omega) (by omega) dX12_readsTest_46 (by decide) (fun c11 => ?_) (fun c11 => ?_)
    · rw [hQ]
      exact e_v F w hr hlocks ⟨⟨nz100, nz101, ((st_ne (Or.inl (by decide))).trans enz100), ((st_ne (Or.inl (by decide))).trans enz101), ⟨by omega, by omega⟩, ⟨by omega, by omega⟩, (by omega)⟩, (IvR.to hIN9 (a := 153) (k := 5) (x := z10) (show ivr 153 5 = ((-99), 300) from rfl) ⟨by omega, by omega⟩ ⟨by decide, by decide, by decide, fun q9 => absurd q9 (by decide)⟩), (Fr.to hGN9 (by first | decide | (dsimp only; first | done | decide | omega) | omega))⟩ dX12_readsTest_64
    · refine lv_aload_n hx hb dX12_readsTest_49 rfl (lv_at hl 0 rfl) ?_
      refine f_12_17 F w (a := 146) rfl tb_676 dX12_readsTest_50 ?_
      refine lv_bipush (v := zI 7) hx hb dX12_readsTest_53 (by decide) ?_
      refine lv_aload_n hx hb dX12_readsTest_55 rfl (lv_at hl 0 rfl) ?_
      refine lv_bipush (v := zI 11) hx hb dX12_readsTest_56 (by decide) ?_
      refine lv_bipush (v := zI 14) hx hb dX12_readsTest_58 (by decide) ?_
      refine k_Vi F w (As := [.int (zI 11), .int (zI 14)]) (rest := [.int (zI 7), .ref (B + 153)]) (a := 146) (kd_lt (a := 146) (show kd 146 = (12, 0, 0) from rfl) (by decide)) (sh_12 rfl _ _) rfl (q_X12_needs (x := 11) ⟨by omega, by omega⟩ (x1 := 14) ⟨by omega, by omega⟩ (tk := nz100) ((st_ne (Or.inl (by decide))).trans enz100) ⟨by omega, by omega⟩ (nb := nz101) ((st_ne (Or.inl (by decide))).trans enz101) ⟨by omega, by omega⟩ (by omega) (IvR.to hIN9 (a := 153) (k := 5) (x := z10) (show ivr 153 5 = ((-99), 300) from rfl) ⟨by omega, by omega⟩ ⟨by decide, by decide, by decide, fun q9 => absurd q9 (by decide)⟩)) gv_X12_227 hv_X12_needs ⟨(Nat.le_of_ble_eq_true rfl), (Nat.le_of_ble_eq_true rfl)⟩ hl.1 rfl (Nat.le_of_ble_eq_true rfl) ⟨Nat.zero_le _, Nat.zero_le _⟩ dX12_readsTest_60 (fun r12 N13 H locs hp w => ?_)
      obtain ⟨z14, rfl, bz14, ⟨nz140, nz141, enz140, enz141, xz14⟩, hIN13, hFN13⟩ := hp
      have hGN13 := Fr.tr (Fr.to hGN9 (by first | decide | (dsimp only; first | done | decide | omega) | omega)) hFN13 (S := (fun b9 k9 => (b9 = 146 ∧ k9 = 11) ∨ (b9 = 146 ∧ k9 = 13) ∨ (b9 = 146 ∧ k9 = 14) ∨ (b9 = 146 ∧ k9 = 15) ∨ (b9 = 146 ∧ k9 = 16) ∨ (b9 = 146 ∧ k9 = 9) ∨ (b9 = 153 ∧ 5 ≤ k9 ∧ k9 ≤ 5) ∨ (b9 = 153 ∧ 6 ≤ k9 ∧ k9 ≤ 6) ∨ (b9 = 153 ∧ 7 ≤ k9 ∧ k9 ≤ 7))) (fun b k h => by (try dsimp only at h ⊢); rcases h with ⟨rfl, rfl⟩ | ⟨rfl, rfl⟩ | ⟨rfl, rfl⟩ | ⟨rfl, rfl⟩ | ⟨rfl, rfl⟩ | ⟨rfl, rfl⟩ <;> first | decide | omega)
      have kn15 : N13.1 153 5 = zI z10 := (hFN13 153 5 (by first | decide | (dsimp only; first | done | decide | omega) | omega)).trans (st_at)
      refine g_iast F w (a := 153) rfl (j := 7) ⟨by decide, by decide⟩ (by omega) dX12_readsTest_63 (fun H locs w => ?_)
      rw [hQ]
      exact e_v F w hr hlocks ⟨⟨nz140, nz141, ((st_ne (Or.inl (by decide))).trans enz140), ((st_ne (Or.inl (by decide))).trans enz141), ⟨by omega, by omega⟩, ⟨by omega, by omega⟩, (by omega)⟩, (IvR.to hIN13 (a := 153) (k := 7) (x := z14) (show ivr 153 7 = ((-99), 300) from rfl) ⟨by omega, by omega⟩ ⟨by decide, by decide, by decide, fun q9 => absurd q9 (by decide)⟩), (Fr.to hGN13 (by first | decide | (dsimp only; first | done | decide | omega) | omega))⟩ dX12_readsTest_64
  · refine lv_aload_n hx hb dX12_readsTest_13 rfl (lv_at hl 0 rfl) ?_
    refine f_12_17 F w (a := 146) rfl tb_676 dX12_readsTest_14 ?_
    refine lv_bipush (v := zI 6) hx hb dX12_readsTest_17 (by decide) ?_
    refine lv_iconst (v := zI 1) hx hb dX12_readsTest_19 rfl ?_
    refine g_iast F w (a := 153) rfl (j := 6) ⟨by decide, by decide⟩ (by omega) dX12_readsTest_20 (fun H locs w => ?_)
    refine lv_aload_n hx hb dX12_readsTest_21 rfl (lv_at hl 0 rfl) ?_
    refine k_Vv F w (As := []) (rest := []) (a := 146) (kd_lt (a := 146) (show kd 146 = (12, 0, 0) from rfl) (by decide)) (sh_12 rfl _ _) rfl (q_X12_goesOn   (IvR.to hIN2 (a := 153) (k := 6) (x := 1) (show ivr 153 6 = ((-99), 300) from rfl) ⟨by omega, by omega⟩ ⟨by decide, by decide, by decide, fun q9 => absurd q9 (by decide)⟩)) gv_X12_221 hv_X12_goesOn ⟨(Nat.le_of_ble_eq_true rfl), (Nat.le_of_ble_eq_true rfl)⟩ hl.1 rfl (Nat.le_of_ble_eq_true rfl) ⟨Nat.zero_le _, Nat.zero_le _⟩ dX12_readsTest_22 (fun N17 H locs hp w => ?_)
    obtain ⟨⟨nz180, nz181, enz180, enz181, xz18⟩, hIN17, hFN17⟩ := hp
    have hGN17 := Fr.tr (Fr.to hGN2 (by first | decide | (dsimp only; first | done | decide | omega) | omega)) hFN17 (S := (fun b9 k9 => (b9 = 146 ∧ k9 = 11) ∨ (b9 = 146 ∧ k9 = 13) ∨ (b9 = 146 ∧ k9 = 14) ∨ (b9 = 146 ∧ k9 = 15) ∨ (b9 = 146 ∧ k9 = 16) ∨ (b9 = 146 ∧ k9 = 9) ∨ (b9 = 153 ∧ 5 ≤ k9 ∧ k9 ≤ 5) ∨ (b9 = 153 ∧ 6 ≤ k9 ∧ k9 ≤ 6) ∨ (b9 = 153 ∧ 7 ≤ k9 ∧ k9 ≤ 7))) (fun b k h => by (try dsimp only at h ⊢); rcases h with ⟨rfl, rfl⟩ | ⟨rfl, rfl⟩ | ⟨rfl, rfl⟩ | ⟨rfl, rfl⟩ | ⟨rfl, rfl⟩ <;> first | decide | omega)
    have kn19 : N17.1 153 6 = zI 1 := (hFN17 153 6 (by first | decide | (dsimp only; first | done | decide | omega) | omega)).trans (st_at)
    refine lv_aload_n hx hb dX12_readsTest_25 rfl (lv_at hl 0 rfl) ?_
    refine f_12_17 F w (a := 146) rfl tb_676 dX12_readsTest_26 ?_
    refine lv_iconst (v := zI 5) hx hb dX12_readsTest_29 rfl ?_
    refine lv_aload_n hx hb dX12_readsTest_30 rfl (lv_at hl 0 rfl) ?_
    refine lv_bipush (v := zI 22) hx hb dX12_readsTest_31 (by decide) ?_
    refine lv_bipush (v := zI 28) hx hb dX12_readsTest_33 (by decide) ?_
    refine k_Vi F w (As := [.int (zI 22), .int (zI 28)]) (rest := [.int (zI 5), .ref (B + 153)]) (a := 146) (kd_lt (a := 146) (show kd 146 = (12, 0, 0) from rfl) (by decide)) (sh_12 rfl _ _) rfl (q_X12_needs (x := 22) ⟨by omega, by omega⟩ (x1 := 28) ⟨by omega, by omega⟩ (tk := nz180) (enz180) ⟨by omega, by omega⟩ (nb := nz181) (enz181) ⟨by omega, by omega⟩ (by omega) hIN17) gv_X12_227 hv_X12_needs ⟨(Nat.le_of_ble_eq_true rfl), (Nat.le_of_ble_eq_true rfl)⟩ hl.1 rfl (Nat.le_of_ble_eq_true rfl) ⟨Nat.zero_le _, Nat.zero_le _⟩ dX12_readsTest_35 (fun r20 N21 H locs hp w => ?_)
    obtain ⟨z22, rfl, bz22, ⟨nz220, nz221, enz220, enz221, xz22⟩, hIN21, hFN21⟩ := hp
    have hGN21 := Fr.tr hGN17 hFN21 (S := (fun b9 k9 => (b9 = 146 ∧ k9 = 11) ∨ (b9 = 146 ∧ k9 = 13) ∨ (b9 = 146 ∧ k9 = 14) ∨ (b9 = 146 ∧ k9 = 15) ∨ (b9 = 146 ∧ k9 = 16) ∨ (b9 = 146 ∧ k9 = 9) ∨ (b9 = 153 ∧ 5 ≤ k9 ∧ k9 ≤ 5) ∨ (b9 = 153 ∧ 6 ≤ k9 ∧ k9 ≤ 6) ∨ (b9 = 153 ∧ 7 ≤ k9 ∧ k9 ≤ 7))) (fun b k h => by (try dsimp only at h ⊢); rcases h with ⟨rfl, rfl⟩ | ⟨rfl, rfl⟩ | ⟨rfl, rfl⟩ | ⟨rfl, rfl⟩ | ⟨rfl, rfl⟩ | ⟨rfl, rfl⟩ <;> first | decide | omega)
    have kn23 : N21.1 153 6 = zI 1 := (hFN21 153 6 (by first | decide | (dsimp only; first | done | decide | omega) | omega)).trans (kn19)
    refine g_iast F w (a := 153) rfl (j := 5) ⟨by decide, by decide⟩ (by omega) dX12_readsTest_38 (fun H locs w => ?_)
    refine lv_aload_n hx hb dX12_readsTest_39 rfl (lv_at hl 0 rfl) ?_
    refine f_12_17 F w (a := 146) rfl tb_676 dX12_readsTest_40 ?_
    refine lv_iconst (v := zI 5) hx hb dX12_readsTest_43 rfl ?_
    refine g_iald F w (a := 153) rfl (j := 5) ⟨by decide, by decide⟩ (by omega) dX12_readsTest_44 ?_
    refine r_val (v := zI z22) (st_at) ?_
    refine lv_iconst (v := zI 5) hx hb dX12_readsTest_45 rfl ?_
    refine z_icmp_lt (tgt := 64) hx hb (by omega) (by omega) dX12_readsTest_46 (by decide) (fun c24 => ?_) (fun c24 => ?_)
    · rw [hQ]
      exact e_v F w hr hlocks ⟨⟨nz220, nz221, ((st_ne (Or.inl (by decide))).trans enz220), ((st_ne (Or.inl (by decide))).trans enz221), ⟨by omega, by omega⟩, ⟨by omega, by omega⟩, (by omega)⟩, (IvR.to hIN21 (a := 153) (k := 5) (x := z22) (show ivr 153 5 = ((-99), 300) from rfl) ⟨by omega, by omega⟩ ⟨by decide, by decide, by decide, fun q9 => absurd q9 (by decide)⟩), (Fr.to hGN21 (by first | decide | (dsimp only; first | done | decide | omega) | omega))⟩ dX12_readsTest_64
    · refine lv_aload_n hx hb dX12_readsTest_49 rfl (lv_at hl 0 rfl) ?_
      refine f_12_17 F w (a := 146) rfl tb_676 dX12_readsTest_50 ?_
      refine lv_bipush (v := zI 7) hx hb dX12_readsTest_53 (by decide) ?_
      refine lv_aload_n hx hb dX12_readsTest_55 rfl (lv_at hl 0 rfl) ?_
      refine lv_bipush (v := zI 11) hx hb dX12_readsTest_56 (by decide) ?_
      refine lv_bipush (v := zI 14) hx hb dX12_readsTest_58 (by decide) ?_
      refine k_Vi F w (As := [.int (zI 11), .int (zI 14)]) (rest := [.int (zI 7), .ref (B + 153)]) (a := 146) (kd_lt (a := 146) (show kd 146 = (12, 0, 0) from rfl) (by decide)) (sh_12 rfl _ _) rfl (q_X12_needs (x := 11) ⟨by omega, by omega⟩ (x1 := 14) ⟨by omega, by omega⟩ (tk := nz220) ((st_ne (Or.inl (by decide))).trans enz220) ⟨by omega, by omega⟩ (nb := nz221) ((st_ne (Or.inl (by decide))).trans enz221) ⟨by omega, by omega⟩ (by omega) (IvR.to hIN21 (a := 153) (k := 5) (x := z22) (show ivr 153 5 = ((-99), 300) from rfl) ⟨by omega, by omega⟩ ⟨by decide, by decide, by decide, fun q9 => absurd q9 (by decide)⟩)) gv_X12_227 hv_X12_needs ⟨(Nat.le_of_ble_eq_true rfl), (Nat.le_of_ble_eq_true rfl)⟩ hl.1 rfl (Nat.le_of_ble_eq_true rfl) ⟨Nat.zero_le _, Nat.zero_le _⟩ dX12_readsTest_60 (fun r25 N26 H locs hp w => ?_)
      obtain ⟨z27, rfl, bz27, ⟨nz270, nz271, enz270, enz271, xz27⟩, hIN26, hFN26⟩ := hp
      have hGN26 := Fr.tr (Fr.to hGN21 (by first | decide | (dsimp only; first | done | decide | omega) | omega)) hFN26 (S := (fun b9 k9 => (b9 = 146 ∧ k9 = 11) ∨ (b9 = 146 ∧ k9 = 13) ∨ (b9 = 146 ∧ k9 = 14) ∨ (b9 = 146 ∧ k9 = 15) ∨ (b9 = 146 ∧ k9 = 16) ∨ (b9 = 146 ∧ k9 = 9) ∨ (b9 = 153 ∧ 5 ≤ k9 ∧ k9 ≤ 5) ∨ (b9 = 153 ∧ 6 ≤ k9 ∧ k9 ≤ 6) ∨ (b9 = 153 ∧ 7 ≤ k9 ∧ k9 ≤ 7))) (fun b k h => by (try dsimp only at h ⊢); rcases h with ⟨rfl, rfl⟩ | ⟨rfl, rfl⟩ | ⟨rfl, rfl⟩ | ⟨rfl, rfl⟩ | ⟨rfl, rfl⟩ | ⟨rfl, rfl⟩ <;> first | decide | omega)
      have kn28 : N26.1 153 6 = zI 1 := (hFN26 153 6 (by first | decide | (dsimp only; first | done | decide | omega) | omega)).trans ((st_ne (Or.inr (by decide))).trans kn23)
      have kn29 : N26.1 153 5 = zI z22 := (hFN26 153 5 (by first | decide | (dsimp only; first | done | decide | omega) | omega)).trans (st_at)
      refine g_iast F w (a := 153) rfl (j := 7) ⟨by decide, by decide⟩ (by omega) dX12_readsTest_63 (fun H locs w => ?_)
      rw [hQ]
      exact e_v F w hr hlocks ⟨⟨nz270, nz271, ((st_ne (Or.inl (by decide))).trans enz270), ((st_ne (Or.inl (by decide))).trans enz271), ⟨by omega, by omega⟩, ⟨by omega, by omega⟩, (by omega)⟩, (IvR.to hIN26 (a := 153) (k := 7) (x := z27) (show ivr 153 7 = ((-99), 300) from rfl) ⟨by omega, by omega⟩ ⟨by decide, by decide, by decide, fun q9 => absurd q9 (by decide)⟩), (Fr.to hGN26 (by first | decide | (dsimp only; first | done | decide | omega) | omega))⟩ dX12_readsTest_64
