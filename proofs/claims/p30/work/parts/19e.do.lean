theorem fex_h {x m : Nat} (hx : x ≠ 0) (h1 : x = 0 ∨ x = 1) (h0 : m ≠ 0) : higI m = ((fex x m : Nat) : Int) := by unfold fex; rw [if_pos (by omega), higI_nz h0]
theorem fex_l {x m : Nat} (hx : x = 0) (h0 : m ≠ 0) : lowI m = ((fex x m : Nat) : Int) := by unfold fex; rw [if_neg (by omega), lowI_nz h0]
theorem flR_s {x s9 k m : Nat} {L : Nat → Nat} : flR x s9 (k + 1) m L = flR x s9 k (andn m (2 ^ fex x m)) (updF L (fex x m) (andn (L (fex x m)) (2 ^ s9))) := rfl
theorem fl_bit {x m n : Nat} (h : ∀ j, m.testBit j = true → j < n) : ∀ j, (andn m (2 ^ fex x m)).testBit j = true → j < n := fun j hj => h j (by rw [andn_bit] at hj; exact (Bool.and_eq_true_iff.mp hj).1)
/-- what the inner loop has done -/
def flI (x s9 v0 i m : Nat) (L L1 : Nat → Nat) (m0 : Nat) : Prop := flR x s9 v0 m0 L = flR x s9 (v0 - i) m L1
theorem flI_0 {x s9 v0 m0 : Nat} {L : Nat → Nat} : flI x s9 v0 0 m0 L L m0 := rfl
theorem flI_s {x s9 v0 i m m0 : Nat} {L L1 : Nat → Nat} (h : flI x s9 v0 i m L L1 m0) (hi : i < v0) : flI x s9 v0 (i + 1) (andn m (2 ^ fex x m)) L (updF L1 (fex x m) (andn (L1 (fex x m)) (2 ^ s9))) m0 := by
  unfold flI at *
  rw [h, show v0 - i = (v0 - (i + 1)) + 1 by omega, flR_s]
theorem flI_e {x s9 v0 i m m0 : Nat} {L L1 : Nat → Nat} (h : flI x s9 v0 i m L L1 m0) (hi : v0 ≤ i) : flR x s9 v0 m0 L = L1 := by
  unfold flI at h
  rw [h, show v0 - i = 0 by omega]
  rfl
theorem flP_s {x n9 i cc dd : Nat} {o o1 o2 : Wo} (h : flP x n9 i o = (o1, cc)) (h1 : flS x n9 i o1 = (o2, dd)) : flP x n9 (i + 1) o = (o2, cc + dd) := by rw [flP, h, h1]
theorem flS_of {x n9 s9 : Nat} {o : Wo} {L1 : Nat → Nat} (h : flR x s9 (pop (tmk o.2.2 s9 o.1) - n9) (tmk o.2.2 s9 o.1) o.2.2 = L1) : flS x n9 s9 o = ((o.1, o.2.1, L1), pop (tmk o.2.2 s9 o.1) - n9) := by unfold flS; rw [h]
theorem tmk_in {L : Nat → Nat} {j n : Nat} : ∀ i, (tmk L j n).testBit i = true → i < n := fun i hi => by
  rw [tmk_bit] at hi
  exact of_decide_eq_true (Bool.and_eq_true_iff.mp hi).1
theorem wdX1_passOfFlat_56 : decode cX1_passOfFlat 56 = .ok (.iload 8, 2) := dqU kk_21 (by decide +kernel)
theorem wdX1_passOfFlat_58 : decode cX1_passOfFlat 58 = .ok (.iload 7, 2) := dqU kk_21 (by decide +kernel)
theorem wdX1_passOfFlat_60 : decode cX1_passOfFlat 60 = .ok (.if_icmp .ge 67, 3) := dqT kk_162 (by decide +kernel)
theorem wdX1_passOfFlat_63 : decode cX1_passOfFlat 63 = .ok (.iload_n 3, 1) := dq0 kk_29 (by decide +kernel)
theorem wdX1_passOfFlat_64 : decode cX1_passOfFlat 64 = .ok (.ifCond .eq 11, 3) := dqT kk_153 (by decide +kernel)
theorem wdX1_passOfFlat_75 : decode cX1_passOfFlat 75 = .ok (.iload 6, 2) := dqU kk_21 (by decide +kernel)
theorem wdX1_passOfFlat_77 : decode cX1_passOfFlat 77 = .ok (.invokestatic 75, 3) := dqV kk_184 (by decide +kernel)
theorem wdX1_passOfFlat_80 : decode cX1_passOfFlat 80 = .ok (.istore 9, 2) := dqU kk_54 (by decide +kernel)
theorem wdX1_passOfFlat_82 : decode cX1_passOfFlat 82 = .ok (.aload_n 2, 1) := dq0 kk_44 (by decide +kernel)
theorem wdX1_passOfFlat_83 : decode cX1_passOfFlat 83 = .ok (.iload 9, 2) := dqU kk_21 (by decide +kernel)
theorem wdX1_passOfFlat_85 : decode cX1_passOfFlat 85 = .ok (.invokevirtual 47, 3) := dqV kk_182 (by decide +kernel)
theorem wdX1_passOfFlat_88 : decode cX1_passOfFlat 88 = .ok (.ifCond .eq 33, 3) := dqT kk_153 (by decide +kernel)
theorem wdX1_passOfFlat_91 : decode cX1_passOfFlat 91 = .ok (.aload_n 2, 1) := dq0 kk_44 (by decide +kernel)
theorem wdX1_passOfFlat_92 : decode cX1_passOfFlat 92 = .ok (.getfield 50, 3) := dqV kk_180 (by decide +kernel)
theorem wdX1_passOfFlat_95 : decode cX1_passOfFlat 95 = .ok (.iload 9, 2) := dqU kk_21 (by decide +kernel)
theorem wdX1_passOfFlat_97 : decode cX1_passOfFlat 97 = .ok (.dup2, 1) := dq0 kk_92 (by decide +kernel)
theorem wdX1_passOfFlat_98 : decode cX1_passOfFlat 98 = .ok (.iaload, 1) := dq0 kk_46 (by decide +kernel)
theorem wdX1_passOfFlat_99 : decode cX1_passOfFlat 99 = .ok (.iconst 1, 1) := dq0 kk_4 (by decide +kernel)
theorem wdX1_passOfFlat_100 : decode cX1_passOfFlat 100 = .ok (.iload 5, 2) := dqU kk_21 (by decide +kernel)
theorem wdX1_passOfFlat_102 : decode cX1_passOfFlat 102 = .ok (.ishl, 1) := dq0 kk_120 (by decide +kernel)
theorem wdX1_passOfFlat_103 : decode cX1_passOfFlat 103 = .ok (.iconst (-1), 1) := dq0 kk_2 (by decide +kernel)
theorem wdX1_passOfFlat_104 : decode cX1_passOfFlat 104 = .ok (.ixor, 1) := dq0 kk_130 (by decide +kernel)
theorem wdX1_passOfFlat_105 : decode cX1_passOfFlat 105 = .ok (.iand, 1) := dq0 kk_126 (by decide +kernel)
theorem wdX1_passOfFlat_106 : decode cX1_passOfFlat 106 = .ok (.iastore, 1) := dq0 kk_79 (by decide +kernel)
theorem wdX1_passOfFlat_107 : decode cX1_passOfFlat 107 = .ok (.iload 6, 2) := dqU kk_21 (by decide +kernel)
theorem wdX1_passOfFlat_109 : decode cX1_passOfFlat 109 = .ok (.iconst 1, 1) := dq0 kk_4 (by decide +kernel)
theorem wdX1_passOfFlat_110 : decode cX1_passOfFlat 110 = .ok (.iload 9, 2) := dqU kk_21 (by decide +kernel)
theorem wdX1_passOfFlat_112 : decode cX1_passOfFlat 112 = .ok (.ishl, 1) := dq0 kk_120 (by decide +kernel)
theorem wdX1_passOfFlat_113 : decode cX1_passOfFlat 113 = .ok (.iconst (-1), 1) := dq0 kk_2 (by decide +kernel)
theorem wdX1_passOfFlat_114 : decode cX1_passOfFlat 114 = .ok (.ixor, 1) := dq0 kk_130 (by decide +kernel)
theorem wdX1_passOfFlat_115 : decode cX1_passOfFlat 115 = .ok (.iand, 1) := dq0 kk_126 (by decide +kernel)
theorem wdX1_passOfFlat_116 : decode cX1_passOfFlat 116 = .ok (.istore 6, 2) := dqU kk_54 (by decide +kernel)
theorem wdX1_passOfFlat_118 : decode cX1_passOfFlat 118 = .ok (.iinc 4 1, 3) := dqI kk_132 (by decide +kernel)
theorem wdX1_passOfFlat_121 : decode cX1_passOfFlat 121 = .ok (.iinc 8 1, 3) := dqI kk_132 (by decide +kernel)
theorem wdX1_passOfFlat_124 : decode cX1_passOfFlat 124 = .ok (.goto (-68), 3) := dqT kk_167 (by decide +kernel)
theorem wdX1_passOfFlat_67 : decode cX1_passOfFlat 67 = .ok (.iload 6, 2) := dqU kk_21 (by decide +kernel)
theorem wdX1_passOfFlat_69 : decode cX1_passOfFlat 69 = .ok (.invokestatic 72, 3) := dqV kk_184 (by decide +kernel)
theorem wdX1_passOfFlat_72 : decode cX1_passOfFlat 72 = .ok (.goto 8, 3) := dqT kk_167 (by decide +kernel)
set_option maxRecDepth 4000 in
theorem lp_X1_flat2 {p : Program} {l : Launch} {e : Env} {s : State} {m : MethodId} {args : Array Value} {below : List Frame} {meth : Method} {c : Code} {D : va_G} {B : Nat} {cy : Nat → ClassId} {H0 : Heap} {Q : State → Prop} {M : Mem} {R : Room} {a ru q hv ed n9 s9 x m0 c0 : Nat} {o : Wo} {ov : Int} {L0 : Nat → Nat} (F : CallFix p m c cX1_passOfFlat 10 s args TB RX1) (hR1 : 2 ≤ R.frames) (hR2 : 40 ≤ R.locals) (hk : kd a = (9, 0, 0)) (hs9 : s9 < q) (hx01 : x = 0 ∨ x = 1) (hov : ov = (pop m0 : Int) - (n9 : Int)) (hn9 : 1 ≤ n9) (hn99 : n9 ≤ 9) (hc0 : c0 ≤ 144) (hm0 : pop m0 ≤ 12) (kk : ∀ (i : Nat) (ms : Nat) (cc : Nat) (Nm : Mem) (L1 : Nat → Nat) (H : Heap) (locs : List Loc) (ls : Array Slot), (flR x s9 (pop m0 - n9) m0 L0 = L1) → (CW Nm a q hv ed (o.1, o.2.1, L1)) → (Fr3 Nm M a) → (cc = c0 + (pop m0 - n9)) → Wd D B cy s H0 Nm H locs → lv_has ls 10 [(4, .int (zI (cc : Int))), (5, .int (zI (s9 : Int))), (3, .int (zI (x : Int))), (0, .ref (B + 23)), (1, .ref (B + ru)), (2, .ref (B + a))] → W p l e R s m args below meth c H locs 0 0 Q (F0 m 127 ls [])) : ∀ (f : Nat) (i : Nat) (ms : Nat) (cc : Nat) (Nm : Mem) (L1 : Nat → Nat), (i ≤ pop m0 - n9) → (ms < 4096) → (pop ms + i = pop m0) → (∀ j, ms.testBit j = true → j < o.1) → (flI x s9 (pop m0 - n9) i ms L0 L1 m0) → (CW Nm a q hv ed (o.1, o.2.1, L1)) → (Fr3 Nm M a) → (cc = c0 + i) → (pop m0 - n9 ≤ i + f) → ∀ (H : Heap) (locs : List Loc) (ls : Array Slot), Wd D B cy s H0 Nm H locs → lv_has ls 10 [(8, .int (zI (i : Int))), (6, .int (zI (ms : Int))), (4, .int (zI (cc : Int))), (7, .int (zI ov)), (5, .int (zI (s9 : Int))), (3, .int (zI (x : Int))), (0, .ref (B + 23)), (1, .ref (B + ru)), (2, .ref (B + a))] → W p l e R s m args below meth c H locs 0 0 Q (F0 m 56 ls []) := by
  have hx := F.1
  have hb := F.2.1
  intro f
  induction f with
  | zero =>
    intro i ms cc Nm L1 i0 i1 i2 i3 i4 i5 i6 i7 hf H locs ls w hl
    have hW1 := i5.1
    have hwf1 := i5.wf
    have hKL1 := hwf1.2.2.2.2
    have hn1 : o.1 ≤ 12 := hwf1.1
    have hq1 := hwf1.2.1
    refine lv_iload hx hb wdX1_passOfFlat_56 (lv_at hl 0 rfl) ?_
    refine lv_iload hx hb wdX1_passOfFlat_58 (lv_at hl 3 rfl) ?_
    refine z_icmp_ge (tgt := 127) hx hb (by omega) (by omega) wdX1_passOfFlat_60 (by decide) (fun c1 => ?_) (fun c1 => False.elim (by omega))
    exact kk i ms cc Nm L1 _ _ ls (flI_e i4 (by omega)) i5 i6 (by omega) w (lv_sub hl [2, 4, 5, 6, 7, 8] rfl)
  | succ f ih =>
    intro i ms cc Nm L1 i0 i1 i2 i3 i4 i5 i6 i7 hf H locs ls w hl
    have hW1 := i5.1
    have hwf1 := i5.wf
    have hKL1 := hwf1.2.2.2.2
    have hn1 : o.1 ≤ 12 := hwf1.1
    have hq1 := hwf1.2.1
    refine lv_iload hx hb wdX1_passOfFlat_56 (lv_at hl 0 rfl) ?_
    refine lv_iload hx hb wdX1_passOfFlat_58 (lv_at hl 3 rfl) ?_
    refine z_icmp_ge (tgt := 127) hx hb (by omega) (by omega) wdX1_passOfFlat_60 (by decide) (fun c1 => ?_) (fun c1 => ?_)
    · exact kk i ms cc Nm L1 _ _ ls (flI_e i4 (by omega)) i5 i6 (by omega) w (lv_sub hl [2, 4, 5, 6, 7, 8] rfl)
    · refine lv_iload_n hx hb wdX1_passOfFlat_63 rfl (lv_at hl 5 rfl) ?_
      refine z_if_eq (tgt := 75) hx hb (by omega) wdX1_passOfFlat_64 (by decide) (fun c2 => ?_) (fun c2 => ?_)
      · refine lv_iload hx hb wdX1_passOfFlat_75 (lv_at hl 1 rfl) ?_
        refine x_Ni F w (As := [.int (zI (ms : Int))]) (rest := []) (s_X11_lowest (m9 := ms) (by omega)) wgc_X11_lowest wtb_5 wtb_6 (by decide) whs_X11_lowest ⟨(by omega), (by omega)⟩ hl.1 rfl (Nat.le_of_ble_eq_true rfl) ⟨Nat.zero_le _, Nat.zero_le _⟩ wdX1_passOfFlat_77 (fun H locs w => ?_)
        have hw2 := lowI_rg ms (by omega)
        have hmz : ms ≠ 0 := fun h9 => by rw [h9] at i2; have h8 : pop 0 = 0 := rfl; omega
        refine r_val (v := zI ((fex x ms : Nat) : Int)) (congrArg zI (fex_l (by omega) hmz)) ?_
        have hfx := fex_t (x := x) i1 hmz
        have hfn := i3 _ hfx.1
        refine lv_istore (lv' := [(9, .int (zI (((fex x ms) : Nat) : Int))), (8, .int (zI (i : Int))), (6, .int (zI (ms : Int))), (4, .int (zI (cc : Int))), (7, .int (zI ov)), (5, .int (zI (s9 : Int))), (3, .int (zI (x : Int))), (0, .ref (B + 23)), (1, .ref (B + ru)), (2, .ref (B + a))]) hx hb wdX1_passOfFlat_80 hl (by decide) rfl (fun ls hl => ?_)
        refine lv_aload_n hx hb wdX1_passOfFlat_82 rfl (lv_at hl 9 rfl) ?_
        refine lv_iload hx hb wdX1_passOfFlat_83 (lv_at hl 0 rfl) ?_
        refine k_Vi F w (As := [.int (zI (((fex x ms) : Nat) : Int))]) (rest := []) (a := a) (kd_lt (a := a) hk (by decide)) (sh_9 hk _ _) rfl (s_X9_hasTone hk hW1 hwf1 (by omega)) wgv_X1_47 whv_X9_hasTone ⟨(by omega), (by omega)⟩ hl.1 rfl (Nat.le_of_ble_eq_true rfl) ⟨Nat.zero_le _, Nat.zero_le _⟩ wdX1_passOfFlat_85 (fun r Ma5 H locs hp w => ?_)
        rcases hp with ⟨⟨k4, ek4, hk4, rfl⟩ | ⟨nk4, rfl⟩, hMe⟩
        · rw [hMe] at w
          refine z_if_eq (tgt := 121) hx hb (by omega) wdX1_passOfFlat_88 (by decide) (fun c6 => False.elim (by omega)) (fun c6 => ?_)
          refine lv_aload_n hx hb wdX1_passOfFlat_91 rfl (lv_at hl 9 rfl) ?_
          refine f_9_5 F w (a := a) hk wtb_27 wdX1_passOfFlat_92 ?_
          refine lv_iload hx hb wdX1_passOfFlat_95 (lv_at hl 0 rfl) ?_
          refine lv_dup2_11 hx hb wdX1_passOfFlat_97 rfl rfl ?_
          refine g_iald F w (a := (a + 2)) (kd_w2 hk) (j := (fex x ms)) (ix_n (by omega)) (by omega) wdX1_passOfFlat_98 ?_
          have hL6 := (hKL1 (fex x ms) (by omega)).2
          refine r_val (v := (zI (((L1 (fex x ms)) : Nat) : Int))) (hW1.2.2.2.2.2 (fex x ms) (by omega)) ?_
          refine lv_iconst (v := zI 1) hx hb wdX1_passOfFlat_99 rfl ?_
          refine lv_iload hx hb wdX1_passOfFlat_100 (lv_at hl 5 rfl) ?_
          refine lv_ishl hx hb wdX1_passOfFlat_102 ?_
          refine r_val (v := (zI (((2 ^ s9) : Nat) : Int))) (zb_shl (n := s9) (by omega)) ?_
          have q7 := p2_b (n := s9) (by omega)
          refine lv_iconst (v := zI (-1)) hx hb wdX1_passOfFlat_103 rfl ?_
          refine lv_ixor hx hb wdX1_passOfFlat_104 ?_
          refine lv_iand hx hb wdX1_passOfFlat_105 ?_
          refine r_val (v := (zI (((andn (L1 (fex x ms)) (2 ^ s9)) : Nat) : Int))) (zb_andn _ _) ?_
          have q9 := andn_le (L1 (fex x ms)) (2 ^ s9)
          refine g_iast F w (a := (a + 2)) (kd_w2 hk) (j := (fex x ms)) (ix_n (by omega)) (by omega) wdX1_passOfFlat_106 (fun H locs w => ?_)
          refine lv_iload hx hb wdX1_passOfFlat_107 (lv_at hl 2 rfl) ?_
          refine lv_iconst (v := zI 1) hx hb wdX1_passOfFlat_109 rfl ?_
          refine lv_iload hx hb wdX1_passOfFlat_110 (lv_at hl 0 rfl) ?_
          refine lv_ishl hx hb wdX1_passOfFlat_112 ?_
          refine r_val (v := (zI (((2 ^ (fex x ms)) : Nat) : Int))) (zb_shl (n := (fex x ms)) (by omega)) ?_
          have q10 := p2_b (n := (fex x ms)) (by omega)
          refine lv_iconst (v := zI (-1)) hx hb wdX1_passOfFlat_113 rfl ?_
          refine lv_ixor hx hb wdX1_passOfFlat_114 ?_
          refine lv_iand hx hb wdX1_passOfFlat_115 ?_
          refine r_val (v := (zI (((andn ms (2 ^ (fex x ms))) : Nat) : Int))) (zb_andn _ _) ?_
          have q12 := andn_le ms (2 ^ (fex x ms))
          refine lv_istore (lv' := [(6, .int (zI (((andn ms (2 ^ (fex x ms))) : Nat) : Int))), (9, .int (zI (((fex x ms) : Nat) : Int))), (8, .int (zI (i : Int))), (4, .int (zI (cc : Int))), (7, .int (zI ov)), (5, .int (zI (s9 : Int))), (3, .int (zI (x : Int))), (0, .ref (B + 23)), (1, .ref (B + ru)), (2, .ref (B + a))]) hx hb wdX1_passOfFlat_116 hl (by decide) rfl (fun ls hl => ?_)
          refine z_iinc (v := (((cc + 1) : Nat) : Int)) (lv' := [(4, .int (zI (((cc + 1) : Nat) : Int))), (6, .int (zI (((andn ms (2 ^ (fex x ms))) : Nat) : Int))), (9, .int (zI (((fex x ms) : Nat) : Int))), (8, .int (zI (i : Int))), (7, .int (zI ov)), (5, .int (zI (s9 : Int))), (3, .int (zI (x : Int))), (0, .ref (B + 23)), (1, .ref (B + ru)), (2, .ref (B + a))]) hx hb wdX1_passOfFlat_118 hl (k := 3) rfl (by omega) (by decide) rfl (fun ls hl => ?_)
          refine z_iinc (v := (((i + 1) : Nat) : Int)) (lv' := [(8, .int (zI (((i + 1) : Nat) : Int))), (4, .int (zI (((cc + 1) : Nat) : Int))), (6, .int (zI (((andn ms (2 ^ (fex x ms))) : Nat) : Int))), (9, .int (zI (((fex x ms) : Nat) : Int))), (7, .int (zI ov)), (5, .int (zI (s9 : Int))), (3, .int (zI (x : Int))), (0, .ref (B + 23)), (1, .ref (B + ru)), (2, .ref (B + a))]) hx hb wdX1_passOfFlat_121 hl (k := 3) rfl (by omega) (by decide) rfl (fun ls hl => ?_)
          refine lv_goto (tgt := 56) hx hb wdX1_passOfFlat_124 (by decide) ?_
          exact ih (i + 1) (andn ms (2 ^ fex x ms)) (cc + 1) (st Nm (a + 2) (fex x ms) (zI (((andn (L1 (fex x ms)) (2 ^ s9)) : Nat) : Int))) (updF L1 (fex x ms) (andn (L1 (fex x ms)) (2 ^ s9))) (by omega) (by omega) (by have h9 := pop_fex (x := x) i1 hmz; omega) (fl_bit i3) (flI_s i4 (by omega)) ⟨wlineW hW1, okW_line (o := (o.1, o.2.1, L1)) i5.2.1 (andn_lt (i5.2.1.2.2 (fex x ms) hfn).2), i5.2.2⟩ (wlineF i6) (by omega) (by omega) _ _ ls w (lv_sub hl [0, 2, 1, 4, 5, 6, 7, 8, 9] rfl)
        · exact False.elim (by omega)
      · refine lv_iload hx hb wdX1_passOfFlat_67 (lv_at hl 1 rfl) ?_
        refine x_Ni F w (As := [.int (zI (ms : Int))]) (rest := []) (s_X11_highest (m9 := ms) (by omega)) wgc_X11_highest wtb_5 wtb_7 (by decide) whs_X11_highest ⟨(by omega), (by omega)⟩ hl.1 rfl (Nat.le_of_ble_eq_true rfl) ⟨Nat.zero_le _, Nat.zero_le _⟩ wdX1_passOfFlat_69 (fun H locs w => ?_)
        have hw12 := higI_rg ms (by omega)
        have hmz : ms ≠ 0 := fun h9 => by rw [h9] at i2; have h8 : pop 0 = 0 := rfl; omega
        refine r_val (v := zI ((fex x ms : Nat) : Int)) (congrArg zI (fex_h (by omega) hx01 hmz)) ?_
        have hfx := fex_t (x := x) i1 hmz
        have hfn := i3 _ hfx.1
        refine lv_goto (tgt := 80) hx hb wdX1_passOfFlat_72 (by decide) ?_
        refine lv_istore (lv' := [(9, .int (zI (((fex x ms) : Nat) : Int))), (8, .int (zI (i : Int))), (6, .int (zI (ms : Int))), (4, .int (zI (cc : Int))), (7, .int (zI ov)), (5, .int (zI (s9 : Int))), (3, .int (zI (x : Int))), (0, .ref (B + 23)), (1, .ref (B + ru)), (2, .ref (B + a))]) hx hb wdX1_passOfFlat_80 hl (by decide) rfl (fun ls hl => ?_)
        refine lv_aload_n hx hb wdX1_passOfFlat_82 rfl (lv_at hl 9 rfl) ?_
        refine lv_iload hx hb wdX1_passOfFlat_83 (lv_at hl 0 rfl) ?_
        refine k_Vi F w (As := [.int (zI (((fex x ms) : Nat) : Int))]) (rest := []) (a := a) (kd_lt (a := a) hk (by decide)) (sh_9 hk _ _) rfl (s_X9_hasTone hk hW1 hwf1 (by omega)) wgv_X1_47 whv_X9_hasTone ⟨(by omega), (by omega)⟩ hl.1 rfl (Nat.le_of_ble_eq_true rfl) ⟨Nat.zero_le _, Nat.zero_le _⟩ wdX1_passOfFlat_85 (fun r Ma15 H locs hp w => ?_)
        rcases hp with ⟨⟨k14, ek14, hk14, rfl⟩ | ⟨nk14, rfl⟩, hMe⟩
        · rw [hMe] at w
          refine z_if_eq (tgt := 121) hx hb (by omega) wdX1_passOfFlat_88 (by decide) (fun c16 => False.elim (by omega)) (fun c16 => ?_)
          refine lv_aload_n hx hb wdX1_passOfFlat_91 rfl (lv_at hl 9 rfl) ?_
          refine f_9_5 F w (a := a) hk wtb_27 wdX1_passOfFlat_92 ?_
          refine lv_iload hx hb wdX1_passOfFlat_95 (lv_at hl 0 rfl) ?_
          refine lv_dup2_11 hx hb wdX1_passOfFlat_97 rfl rfl ?_
          refine g_iald F w (a := (a + 2)) (kd_w2 hk) (j := (fex x ms)) (ix_n (by omega)) (by omega) wdX1_passOfFlat_98 ?_
          have hL16 := (hKL1 (fex x ms) (by omega)).2
          refine r_val (v := (zI (((L1 (fex x ms)) : Nat) : Int))) (hW1.2.2.2.2.2 (fex x ms) (by omega)) ?_
          refine lv_iconst (v := zI 1) hx hb wdX1_passOfFlat_99 rfl ?_
          refine lv_iload hx hb wdX1_passOfFlat_100 (lv_at hl 5 rfl) ?_
          refine lv_ishl hx hb wdX1_passOfFlat_102 ?_
          refine r_val (v := (zI (((2 ^ s9) : Nat) : Int))) (zb_shl (n := s9) (by omega)) ?_
          have q17 := p2_b (n := s9) (by omega)
          refine lv_iconst (v := zI (-1)) hx hb wdX1_passOfFlat_103 rfl ?_
          refine lv_ixor hx hb wdX1_passOfFlat_104 ?_
          refine lv_iand hx hb wdX1_passOfFlat_105 ?_
          refine r_val (v := (zI (((andn (L1 (fex x ms)) (2 ^ s9)) : Nat) : Int))) (zb_andn _ _) ?_
          have q19 := andn_le (L1 (fex x ms)) (2 ^ s9)
          refine g_iast F w (a := (a + 2)) (kd_w2 hk) (j := (fex x ms)) (ix_n (by omega)) (by omega) wdX1_passOfFlat_106 (fun H locs w => ?_)
          refine lv_iload hx hb wdX1_passOfFlat_107 (lv_at hl 2 rfl) ?_
          refine lv_iconst (v := zI 1) hx hb wdX1_passOfFlat_109 rfl ?_
          refine lv_iload hx hb wdX1_passOfFlat_110 (lv_at hl 0 rfl) ?_
          refine lv_ishl hx hb wdX1_passOfFlat_112 ?_
          refine r_val (v := (zI (((2 ^ (fex x ms)) : Nat) : Int))) (zb_shl (n := (fex x ms)) (by omega)) ?_
          have q20 := p2_b (n := (fex x ms)) (by omega)
          refine lv_iconst (v := zI (-1)) hx hb wdX1_passOfFlat_113 rfl ?_
          refine lv_ixor hx hb wdX1_passOfFlat_114 ?_
          refine lv_iand hx hb wdX1_passOfFlat_115 ?_
          refine r_val (v := (zI (((andn ms (2 ^ (fex x ms))) : Nat) : Int))) (zb_andn _ _) ?_
          have q22 := andn_le ms (2 ^ (fex x ms))
          refine lv_istore (lv' := [(6, .int (zI (((andn ms (2 ^ (fex x ms))) : Nat) : Int))), (9, .int (zI (((fex x ms) : Nat) : Int))), (8, .int (zI (i : Int))), (4, .int (zI (cc : Int))), (7, .int (zI ov)), (5, .int (zI (s9 : Int))), (3, .int (zI (x : Int))), (0, .ref (B + 23)), (1, .ref (B + ru)), (2, .ref (B + a))]) hx hb wdX1_passOfFlat_116 hl (by decide) rfl (fun ls hl => ?_)
          refine z_iinc (v := (((cc + 1) : Nat) : Int)) (lv' := [(4, .int (zI (((cc + 1) : Nat) : Int))), (6, .int (zI (((andn ms (2 ^ (fex x ms))) : Nat) : Int))), (9, .int (zI (((fex x ms) : Nat) : Int))), (8, .int (zI (i : Int))), (7, .int (zI ov)), (5, .int (zI (s9 : Int))), (3, .int (zI (x : Int))), (0, .ref (B + 23)), (1, .ref (B + ru)), (2, .ref (B + a))]) hx hb wdX1_passOfFlat_118 hl (k := 3) rfl (by omega) (by decide) rfl (fun ls hl => ?_)
          refine z_iinc (v := (((i + 1) : Nat) : Int)) (lv' := [(8, .int (zI (((i + 1) : Nat) : Int))), (4, .int (zI (((cc + 1) : Nat) : Int))), (6, .int (zI (((andn ms (2 ^ (fex x ms))) : Nat) : Int))), (9, .int (zI (((fex x ms) : Nat) : Int))), (7, .int (zI ov)), (5, .int (zI (s9 : Int))), (3, .int (zI (x : Int))), (0, .ref (B + 23)), (1, .ref (B + ru)), (2, .ref (B + a))]) hx hb wdX1_passOfFlat_121 hl (k := 3) rfl (by omega) (by decide) rfl (fun ls hl => ?_)
          refine lv_goto (tgt := 56) hx hb wdX1_passOfFlat_124 (by decide) ?_
          exact ih (i + 1) (andn ms (2 ^ fex x ms)) (cc + 1) (st Nm (a + 2) (fex x ms) (zI (((andn (L1 (fex x ms)) (2 ^ s9)) : Nat) : Int))) (updF L1 (fex x ms) (andn (L1 (fex x ms)) (2 ^ s9))) (by omega) (by omega) (by have h9 := pop_fex (x := x) i1 hmz; omega) (fl_bit i3) (flI_s i4 (by omega)) ⟨wlineW hW1, okW_line (o := (o.1, o.2.1, L1)) i5.2.1 (andn_lt (i5.2.1.2.2 (fex x ms) hfn).2), i5.2.2⟩ (wlineF i6) (by omega) (by omega) _ _ ls w (lv_sub hl [0, 2, 1, 4, 5, 6, 7, 8, 9] rfl)
        · exact False.elim (by omega)
theorem wdX1_passOfFlat_22 : decode cX1_passOfFlat 22 = .ok (.iload 5, 2) := dqU kk_21 (by decide +kernel)
theorem wdX1_passOfFlat_24 : decode cX1_passOfFlat 24 = .ok (.aload_n 2, 1) := dq0 kk_44 (by decide +kernel)
theorem wdX1_passOfFlat_25 : decode cX1_passOfFlat 25 = .ok (.getfield 34, 3) := dqV kk_180 (by decide +kernel)
theorem wtb_41 : Cond.fieldLink "ToneLines$Doer" 34 "ToneLines$Word" "syllables" "I" ∈ TB := tb_69
theorem wdX1_passOfFlat_28 : decode cX1_passOfFlat 28 = .ok (.if_icmp .ge 105, 3) := dqT kk_162 (by decide +kernel)
theorem wdX1_passOfFlat_31 : decode cX1_passOfFlat 31 = .ok (.aload_n 2, 1) := dq0 kk_44 (by decide +kernel)
theorem wdX1_passOfFlat_32 : decode cX1_passOfFlat 32 = .ok (.iload 5, 2) := dqU kk_21 (by decide +kernel)
theorem wdX1_passOfFlat_34 : decode cX1_passOfFlat 34 = .ok (.invokevirtual 64, 3) := dqV kk_182 (by decide +kernel)
theorem wtk_X9_tonesOf : Cond.code yX9_tonesOf cX9_tonesOf 4 (some .int) ∈ TB := tbm (tc4 (List.mem_of_getElem? (i := 5) rfl)) rfl
theorem wgc_X9_tonesOf : GoodIn TB (cw yX9_tonesOf cX9_tonesOf 4 (some .int)) := goodIn_c2 wtk_X9_tonesOf
theorem wtb_42 : Cond.methodLink "ToneLines$Doer" 64 yX9_tonesOf ∈ TB := tbm (tc4 (List.mem_of_getElem? (i := 2) rfl)) rfl
theorem wtb_43 : Cond.instanceMethod yX9_tonesOf ∈ TB := tbm (tc4 (List.mem_of_getElem? (i := 3) rfl)) rfl
theorem wtb_44 : Cond.selects "ToneLines$Word" yX9_tonesOf yX9_tonesOf ∈ TB := tbm (tc4 (List.mem_of_getElem? (i := 4) rfl)) rfl
theorem wgv_X1_64 : GoodIn TB (wsV RX1 64 RX9 yX9_tonesOf (cw yX9_tonesOf cX9_tonesOf 4 (some .int))) := goodIn_4 wtb_42 wtb_43 wtb_44 wtb_3 wgc_X9_tonesOf
theorem whv_X9_tonesOf : yX9_tonesOf.cls = RX9 ∧ yX9_tonesOf.cls ≠ "java/lang/invoke/MethodHandle" ∧ yX9_tonesOf.cls ≠ "java/lang/invoke/VarHandle" ∧ (parseMethodDescriptor yX9_tonesOf.desc).map (fun d => d.parameters.length) = some 1 := by decide +kernel
theorem wdX1_passOfFlat_37 : decode cX1_passOfFlat 37 = .ok (.istore 6, 2) := dqU kk_54 (by decide +kernel)
theorem wdX1_passOfFlat_39 : decode cX1_passOfFlat 39 = .ok (.iload 6, 2) := dqU kk_21 (by decide +kernel)
theorem wdX1_passOfFlat_41 : decode cX1_passOfFlat 41 = .ok (.invokestatic 67, 3) := dqV kk_184 (by decide +kernel)
theorem wdX1_passOfFlat_44 : decode cX1_passOfFlat 44 = .ok (.aload_n 1, 1) := dq0 kk_43 (by decide +kernel)
theorem wdX1_passOfFlat_45 : decode cX1_passOfFlat 45 = .ok (.getfield 15, 3) := dqV kk_180 (by decide +kernel)
theorem wtb_45 : Cond.fieldLink "ToneLines$Doer" 15 "ToneLines$Rule" "parts" "[I" ∈ TB := tb_79
theorem wdX1_passOfFlat_48 : decode cX1_passOfFlat 48 = .ok (.iconst 3, 1) := dq0 kk_6 (by decide +kernel)
theorem wdX1_passOfFlat_49 : decode cX1_passOfFlat 49 = .ok (.iaload, 1) := dq0 kk_46 (by decide +kernel)
theorem wdX1_passOfFlat_50 : decode cX1_passOfFlat 50 = .ok (.isub, 1) := dq0 kk_100 (by decide +kernel)
theorem wdX1_passOfFlat_51 : decode cX1_passOfFlat 51 = .ok (.istore 7, 2) := dqU kk_54 (by decide +kernel)
theorem wdX1_passOfFlat_53 : decode cX1_passOfFlat 53 = .ok (.iconst 0, 1) := dq0 kk_3 (by decide +kernel)
theorem wdX1_passOfFlat_54 : decode cX1_passOfFlat 54 = .ok (.istore 8, 2) := dqU kk_54 (by decide +kernel)
theorem wdX1_passOfFlat_127 : decode cX1_passOfFlat 127 = .ok (.iinc 5 1, 3) := dqI kk_132 (by decide +kernel)
theorem wdX1_passOfFlat_130 : decode cX1_passOfFlat 130 = .ok (.goto (-108), 3) := dqT kk_167 (by decide +kernel)
set_option maxRecDepth 4000 in
theorem lp_X1_flat1 {p : Program} {l : Launch} {e : Env} {s : State} {m : MethodId} {args : Array Value} {below : List Frame} {meth : Method} {c : Code} {D : va_G} {B : Nat} {cy : Nat → ClassId} {H0 : Heap} {Q : State → Prop} {M : Mem} {R : Room} {a ru q hv ed n9 x : Nat} {o : Wo} {P : Nat → Int} (F : CallFix p m c cX1_passOfFlat 10 s args TB RX1) (hR1 : 2 ≤ R.frames) (hR2 : 40 ≤ R.locals) (hk : kd a = (9, 0, 0)) (hku : kd ru = (4, 0, 0)) (hx01 : x = 0 ∨ x = 1) (hP3 : P 3 = (n9 : Int)) (hn9 : 1 ≤ n9) (hn99 : n9 ≤ 9) (hap : ru + 1 < a ∨ a + 2 < ru)  (kk : ∀ (s9 : Nat) (cc : Nat) (Nm : Mem) (o1 : Wo) (H : Heap) (locs : List Loc) (ls : Array Slot), (CW Nm a q hv ed o1) → (flP x n9 q o = (o1, cc)) → (Fr3 Nm M a) → (cc ≤ 144) → Wd D B cy s H0 Nm H locs → lv_has ls 10 [(4, .int (zI (cc : Int)))] → W p l e R s m args below meth c H locs 0 0 Q (F0 m 133 ls [])) : ∀ (f : Nat) (s9 : Nat) (cc : Nat) (Nm : Mem) (o1 : Wo), (s9 ≤ q) → (CW Nm a q hv ed o1) → (flP x n9 s9 o = (o1, cc)) → (cc ≤ 12 * s9) → (Fr3 Nm M a) → (isU Nm ru P) → (q ≤ s9 + f) → ∀ (H : Heap) (locs : List Loc) (ls : Array Slot), Wd D B cy s H0 Nm H locs → lv_has ls 10 [(5, .int (zI (s9 : Int))), (4, .int (zI (cc : Int))), (3, .int (zI (x : Int))), (0, .ref (B + 23)), (1, .ref (B + ru)), (2, .ref (B + a))] → W p l e R s m args below meth c H locs 0 0 Q (F0 m 22 ls []) := by
  have hx := F.1
  have hb := F.2.1
  intro f
  induction f with
  | zero =>
    intro s9 cc Nm o1 i0 i1 i2 i3 i4 i5 hf H locs ls w hl
    have hW1 := i1.1
    have hwf1 := i1.wf
    have hKL1 := hwf1.2.2.2.2
    have hn1 := hwf1.1
    have hq1 := hwf1.2.1
    refine lv_iload hx hb wdX1_passOfFlat_22 (lv_at hl 0 rfl) ?_
    refine lv_aload_n hx hb wdX1_passOfFlat_24 rfl (lv_at hl 5 rfl) ?_
    refine f_9_1 F w (a := a) hk wtb_41 wdX1_passOfFlat_25 ?_
    refine r_val (v := (zI (q : Int))) (hW1.2.1) ?_
    refine z_icmp_ge (tgt := 133) hx hb (by omega) (by omega) wdX1_passOfFlat_28 (by decide) (fun c1 => ?_) (fun c1 => False.elim (by omega))
    exact kk s9 cc Nm o1 _ _ ls i1 (by rw [show q = s9 by omega]; exact i2) i4 (by omega) w (lv_sub hl [1] rfl)
  | succ f ih =>
    intro s9 cc Nm o1 i0 i1 i2 i3 i4 i5 hf H locs ls w hl
    have hW1 := i1.1
    have hwf1 := i1.wf
    have hKL1 := hwf1.2.2.2.2
    have hn1 := hwf1.1
    have hq1 := hwf1.2.1
    refine lv_iload hx hb wdX1_passOfFlat_22 (lv_at hl 0 rfl) ?_
    refine lv_aload_n hx hb wdX1_passOfFlat_24 rfl (lv_at hl 5 rfl) ?_
    refine f_9_1 F w (a := a) hk wtb_41 wdX1_passOfFlat_25 ?_
    refine r_val (v := (zI (q : Int))) (hW1.2.1) ?_
    refine z_icmp_ge (tgt := 133) hx hb (by omega) (by omega) wdX1_passOfFlat_28 (by decide) (fun c1 => ?_) (fun c1 => ?_)
    · exact kk s9 cc Nm o1 _ _ ls i1 (by rw [show q = s9 by omega]; exact i2) i4 (by omega) w (lv_sub hl [1] rfl)
    · refine lv_aload_n hx hb wdX1_passOfFlat_31 rfl (lv_at hl 5 rfl) ?_
      refine lv_iload hx hb wdX1_passOfFlat_32 (lv_at hl 0 rfl) ?_
      refine x_Vi F w (As := [.int (zI (s9 : Int))]) (rest := []) (a := a) (kd_lt (a := a) hk (by decide)) (sh_9 hk _ _) rfl (s_X9_tonesOf hk hW1 hwf1 (j := s9) (by omega)) wgv_X1_64 whv_X9_tonesOf ⟨(by omega), (by omega)⟩ hl.1 rfl (Nat.le_of_ble_eq_true rfl) ⟨Nat.zero_le _, Nat.zero_le _⟩ wdX1_passOfFlat_34 (fun H locs w => ?_)
      have hm1 := tmk_lt (L := o1.2.2) (j := s9) (n := o1.1) (by omega)
      refine lv_istore (lv' := [(6, .int (zI (((tmk o1.2.2 s9 o1.1) : Nat) : Int))), (5, .int (zI (s9 : Int))), (4, .int (zI (cc : Int))), (3, .int (zI (x : Int))), (0, .ref (B + 23)), (1, .ref (B + ru)), (2, .ref (B + a))]) hx hb wdX1_passOfFlat_37 hl (by decide) rfl (fun ls hl => ?_)
      refine lv_iload hx hb wdX1_passOfFlat_39 (lv_at hl 0 rfl) ?_
      refine x_Si F w (As := [.int (zI (((tmk o1.2.2 s9 o1.1) : Nat) : Int))]) (rest := []) (s_bitCountN (m := (tmk o1.2.2 s9 o1.1)) (by omega)) wgs_X1_67 whs_J6_bitCount_0f7a4 ⟨(by omega), (by omega)⟩ hl.1 rfl (Nat.le_of_ble_eq_true rfl) ⟨Nat.zero_le _, Nat.zero_le _⟩ wdX1_passOfFlat_41 (fun H locs w => ?_)
      have hp2 := (pop_le (tmk o1.2.2 s9 o1.1) (by omega)).1
      refine lv_aload_n hx hb wdX1_passOfFlat_44 rfl (lv_at hl 5 rfl) ?_
      refine f_4_0 F w (a := ru) hku wtb_45 wdX1_passOfFlat_45 ?_
      refine lv_iconst (v := zI 3) hx hb wdX1_passOfFlat_48 rfl ?_
      refine g_iald F w (a := (ru + 1)) (kd_r1 hku) (j := 3) ⟨by decide, by decide⟩ (by omega) wdX1_passOfFlat_49 ?_
      refine r_val (v := (zI (P 3))) (i5 3 (by decide)) ?_
      refine z_isub (z := ((((pop (tmk o1.2.2 s9 o1.1)) : Nat) : Int) - (P 3))) hx hb wdX1_passOfFlat_50 (by omega) ?_
      refine lv_istore (lv' := [(7, .int (zI ((((pop (tmk o1.2.2 s9 o1.1)) : Nat) : Int) - (P 3)))), (6, .int (zI (((tmk o1.2.2 s9 o1.1) : Nat) : Int))), (5, .int (zI (s9 : Int))), (4, .int (zI (cc : Int))), (3, .int (zI (x : Int))), (0, .ref (B + 23)), (1, .ref (B + ru)), (2, .ref (B + a))]) hx hb wdX1_passOfFlat_51 hl (by decide) rfl (fun ls hl => ?_)
      refine lv_iconst (v := zI 0) hx hb wdX1_passOfFlat_53 rfl ?_
      refine lv_istore (lv' := [(8, .int (zI 0)), (7, .int (zI ((((pop (tmk o1.2.2 s9 o1.1)) : Nat) : Int) - (P 3)))), (6, .int (zI (((tmk o1.2.2 s9 o1.1) : Nat) : Int))), (5, .int (zI (s9 : Int))), (4, .int (zI (cc : Int))), (3, .int (zI (x : Int))), (0, .ref (B + 23)), (1, .ref (B + ru)), (2, .ref (B + a))]) hx hb wdX1_passOfFlat_54 hl (by decide) rfl (fun ls hl => ?_)
      have hpl := (pop_le (tmk o1.2.2 s9 o1.1) (by omega)).1
      refine lp_X1_flat2 (o := o1) (n9 := n9) (m0 := tmk o1.2.2 s9 o1.1) (c0 := cc) (L0 := o1.2.2) (M := Nm)  F (by omega) (by omega) hk (by omega) hx01 (by omega) hn9 hn99 (by omega) (by omega) (fun i ms c2 Nn L2 H locs ls y0 y1 y2 y3 w hl => ?_) 12 0 (tmk o1.2.2 s9 o1.1) cc Nm o1.2.2 (by omega) (by omega) (by omega) tmk_in flI_0 i1 Fr3.rf (by omega) (by omega) _ _ ls w (lv_sub hl [0, 2, 4, 1, 3, 5, 6, 7, 8] rfl)
      refine z_iinc (v := (((s9 + 1) : Nat) : Int)) (lv' := [(5, .int (zI (((s9 + 1) : Nat) : Int))), (4, .int (zI (c2 : Int))), (3, .int (zI (x : Int))), (0, .ref (B + 23)), (1, .ref (B + ru)), (2, .ref (B + a))]) hx hb wdX1_passOfFlat_127 hl (k := 1) rfl (by omega) (by decide) rfl (fun ls hl => ?_)
      refine lv_goto (tgt := 22) hx hb wdX1_passOfFlat_130 (by decide) ?_
      have hU2 : isU Nn ru P := isU.fr i5 (by first | (rw [y2.1 (ru + 1) (by omega) (by omega) (by omega)]) )
      exact ih (s9 + 1) c2 Nn (o1.1, o1.2.1, L2) (by omega) y1 (by rw [y3]; exact flP_s i2 (flS_of y0)) (by omega) (Fr3.tr i4 y2) hU2 (by omega) _ _ ls w (lv_sub hl [0, 1, 2, 3, 4, 5] rfl)
theorem wdX1_passOfFlat_0 : decode cX1_passOfFlat 0 = .ok (.aload_n 1, 1) := dq0 kk_43 (by decide +kernel)
theorem wdX1_passOfFlat_1 : decode cX1_passOfFlat 1 = .ok (.getfield 15, 3) := dqV kk_180 (by decide +kernel)
theorem wdX1_passOfFlat_4 : decode cX1_passOfFlat 4 = .ok (.iconst 4, 1) := dq0 kk_7 (by decide +kernel)
theorem wdX1_passOfFlat_5 : decode cX1_passOfFlat 5 = .ok (.iaload, 1) := dq0 kk_46 (by decide +kernel)
theorem wdX1_passOfFlat_6 : decode cX1_passOfFlat 6 = .ok (.iconst 1, 1) := dq0 kk_4 (by decide +kernel)
theorem wdX1_passOfFlat_7 : decode cX1_passOfFlat 7 = .ok (.if_icmp .ne 7, 3) := dqT kk_160 (by decide +kernel)
theorem wdX1_passOfFlat_14 : decode cX1_passOfFlat 14 = .ok (.iconst 0, 1) := dq0 kk_3 (by decide +kernel)
theorem wdX1_passOfFlat_15 : decode cX1_passOfFlat 15 = .ok (.istore_n 3, 1) := dq0 kk_62 (by decide +kernel)
theorem wdX1_passOfFlat_16 : decode cX1_passOfFlat 16 = .ok (.iconst 0, 1) := dq0 kk_3 (by decide +kernel)
theorem wdX1_passOfFlat_17 : decode cX1_passOfFlat 17 = .ok (.istore 4, 2) := dqU kk_54 (by decide +kernel)
theorem wdX1_passOfFlat_19 : decode cX1_passOfFlat 19 = .ok (.iconst 0, 1) := dq0 kk_3 (by decide +kernel)
theorem wdX1_passOfFlat_20 : decode cX1_passOfFlat 20 = .ok (.istore 5, 2) := dqU kk_54 (by decide +kernel)
theorem wdX1_passOfFlat_133 : decode cX1_passOfFlat 133 = .ok (.iload 4, 2) := dqU kk_21 (by decide +kernel)
theorem wdX1_passOfFlat_135 : decode cX1_passOfFlat 135 = .ok (.ireturn, 1) := dq0 kk_172 (by decide +kernel)
theorem wdX1_passOfFlat_10 : decode cX1_passOfFlat 10 = .ok (.iconst 1, 1) := dq0 kk_4 (by decide +kernel)
theorem wdX1_passOfFlat_11 : decode cX1_passOfFlat 11 = .ok (.goto 4, 3) := dqT kk_167 (by decide +kernel)
set_option maxRecDepth 4000 in
theorem s_X1_passOfFlat {l : Launch} {D : va_G} {B : Nat} {cy : Nat → ClassId} {M : Mem} {a q hv ed : Nat} {o : Wo} (hk : kd a = (9, 0, 0)) (hC : CW M a q hv ed o) {ru : Nat} {P : Nat → Int} (hku : kd ru = (4, 0, 0)) (hU : isU M ru P) (hP : okP P) (hap : ru + 1 < a ∨ a + 2 < ru) {x n9 : Nat} (hx8 : (P 4 = 1 ∧ x = 1) ∨ (P 4 ≠ 1 ∧ x = 0)) (hq3 : P 3 = (n9 : Int)) (hn9 : 1 ≤ n9) (hn99 : n9 ≤ 9) : Ci l D B cy yX1_passOfFlat cX1_passOfFlat 10 (some .int) 2 40 [.ref (B + 23), .ref (B + ru), .ref (B + a)] M (fun r M1 => ∃ o1 cc, flP x n9 q o = (o1, cc) ∧ r = zI ((cc : Nat) : Int) ∧ CW M1 a q hv ed o1 ∧ Fr3 M1 M a ∧ cc ≤ 144) := by
  refine s_any (by decide) (Nat.le_of_ble_eq_true rfl) ?_
  intro p e s m below meth c ls F hr hlocks w hl
  have F : CallFix p m c cX1_passOfFlat 10 s _ TB RX1 := F
  have hx := F.1
  have hb := F.2.1
  have hl : lv_has ls 10 [(0, .ref (B + 23)), (1, .ref (B + ru)), (2, .ref (B + a))] := hl
  have hW := hC.1
  have hwf := hC.wf
  have hKL := hwf.2.2.2.2
  have hn12 := hwf.1
  have hq12 := hwf.2.1
  have hP0 := hP 0 (by decide)
  have hP1 := hP 1 (by decide)
  have hP2 := hP 2 (by decide)
  have hP3 := hP 3 (by decide)
  have hP4 := hP 4 (by decide)
  have hP5 := hP 5 (by decide)
  have hP6 := hP 6 (by decide)
  have hP7 := hP 7 (by decide)
  refine lv_aload_n hx hb wdX1_passOfFlat_0 rfl (lv_at hl 1 rfl) ?_
  refine f_4_0 F w (a := ru) hku wtb_45 wdX1_passOfFlat_1 ?_
  refine lv_iconst (v := zI 4) hx hb wdX1_passOfFlat_4 rfl ?_
  refine g_iald F w (a := (ru + 1)) (kd_r1 hku) (j := 4) ⟨by decide, by decide⟩ (by omega) wdX1_passOfFlat_5 ?_
  refine r_val (v := (zI (P 4))) (hU 4 (by decide)) ?_
  refine lv_iconst (v := zI 1) hx hb wdX1_passOfFlat_6 rfl ?_
  refine z_icmp_ne (tgt := 14) hx hb (by omega) (by omega) wdX1_passOfFlat_7 (by decide) (fun c1 => ?_) (fun c1 => ?_)
  · refine lv_iconst (v := zI 0) hx hb wdX1_passOfFlat_14 rfl ?_
    refine r_val (v := zI ((x : Nat) : Int)) (congrArg zI (by omega)) ?_
    refine lv_istore_n (lv' := [(3, .int (zI (x : Int))), (0, .ref (B + 23)), (1, .ref (B + ru)), (2, .ref (B + a))]) hx hb wdX1_passOfFlat_15 rfl hl (by decide) rfl (fun ls hl => ?_)
    refine lv_iconst (v := zI 0) hx hb wdX1_passOfFlat_16 rfl ?_
    refine lv_istore (lv' := [(4, .int (zI 0)), (3, .int (zI (x : Int))), (0, .ref (B + 23)), (1, .ref (B + ru)), (2, .ref (B + a))]) hx hb wdX1_passOfFlat_17 hl (by decide) rfl (fun ls hl => ?_)
    refine lv_iconst (v := zI 0) hx hb wdX1_passOfFlat_19 rfl ?_
    refine lv_istore (lv' := [(5, .int (zI 0)), (4, .int (zI 0)), (3, .int (zI (x : Int))), (0, .ref (B + 23)), (1, .ref (B + ru)), (2, .ref (B + a))]) hx hb wdX1_passOfFlat_20 hl (by decide) rfl (fun ls hl => ?_)
    have hx01 : x = 0 ∨ x = 1 := by omega
    refine lp_X1_flat1  F (Nat.le_of_ble_eq_true rfl) (Nat.le_of_ble_eq_true rfl) hk hku hx01 hq3 hn9 hn99 hap (fun s9 cc Nm o1 H locs ls x0 x1 x2 x3 w hl => ?_) q 0 0 M o (by omega) hC rfl (by omega) Fr3.rf hU (by omega) _ _ ls w (lv_sub hl [0, 1, 2, 3, 4, 5] rfl)
    refine lv_iload hx hb wdX1_passOfFlat_133 (lv_at hl 0 rfl) ?_
    exact e_i F w hr hlocks ⟨o1, cc, x1, rfl, x0, x2, x3⟩ wdX1_passOfFlat_135
  · refine lv_iconst (v := zI 1) hx hb wdX1_passOfFlat_10 rfl ?_
    refine lv_goto (tgt := 15) hx hb wdX1_passOfFlat_11 (by decide) ?_
    refine r_val (v := zI ((x : Nat) : Int)) (congrArg zI (by omega)) ?_
    refine lv_istore_n (lv' := [(3, .int (zI (x : Int))), (0, .ref (B + 23)), (1, .ref (B + ru)), (2, .ref (B + a))]) hx hb wdX1_passOfFlat_15 rfl hl (by decide) rfl (fun ls hl => ?_)
    refine lv_iconst (v := zI 0) hx hb wdX1_passOfFlat_16 rfl ?_
    refine lv_istore (lv' := [(4, .int (zI 0)), (3, .int (zI (x : Int))), (0, .ref (B + 23)), (1, .ref (B + ru)), (2, .ref (B + a))]) hx hb wdX1_passOfFlat_17 hl (by decide) rfl (fun ls hl => ?_)
    refine lv_iconst (v := zI 0) hx hb wdX1_passOfFlat_19 rfl ?_
    refine lv_istore (lv' := [(5, .int (zI 0)), (4, .int (zI 0)), (3, .int (zI (x : Int))), (0, .ref (B + 23)), (1, .ref (B + ru)), (2, .ref (B + a))]) hx hb wdX1_passOfFlat_20 hl (by decide) rfl (fun ls hl => ?_)
    have hx01 : x = 0 ∨ x = 1 := by omega
    refine lp_X1_flat1  F (Nat.le_of_ble_eq_true rfl) (Nat.le_of_ble_eq_true rfl) hk hku hx01 hq3 hn9 hn99 hap (fun s9 cc Nm o1 H locs ls x0 x1 x2 x3 w hl => ?_) q 0 0 M o (by omega) hC rfl (by omega) Fr3.rf hU (by omega) _ _ ls w (lv_sub hl [0, 1, 2, 3, 4, 5] rfl)
    refine lv_iload hx hb wdX1_passOfFlat_133 (lv_at hl 0 rfl) ?_
    exact e_i F w hr hlocks ⟨o1, cc, x1, rfl, x0, x2, x3⟩ wdX1_passOfFlat_135
