theorem wdX12_reading_7 : decode cX12_reading 7 = .ok (.iload 4, 2) := dX12_reading_7
theorem wdX12_reading_9 : decode cX12_reading 9 = .ok (.aload_n 0, 1) := dX12_reading_9
theorem wdX12_reading_10 : decode cX12_reading 10 = .ok (.getfield 17, 3) := dX12_reading_10
theorem wdX12_reading_13 : decode cX12_reading 13 = .ok (.iconst 0, 1) := dX12_reading_13
theorem wdX12_reading_14 : decode cX12_reading 14 = .ok (.iaload, 1) := dX12_reading_14
theorem wdX12_reading_15 : decode cX12_reading 15 = .ok (.if_icmp .ge 49, 3) := dX12_reading_15
theorem wdX12_reading_18 : decode cX12_reading 18 = .ok (.aload_n 0, 1) := dX12_reading_18
theorem wdX12_reading_19 : decode cX12_reading 19 = .ok (.getfield 17, 3) := dX12_reading_19
theorem wdX12_reading_22 : decode cX12_reading 22 = .ok (.bipush 13, 2) := dX12_reading_22
theorem wdX12_reading_24 : decode cX12_reading 24 = .ok (.iload 4, 2) := dX12_reading_24
theorem wdX12_reading_26 : decode cX12_reading 26 = .ok (.iadd, 1) := dX12_reading_26
theorem wdX12_reading_27 : decode cX12_reading 27 = .ok (.iaload, 1) := dX12_reading_27
theorem wdX12_reading_28 : decode cX12_reading 28 = .ok (.iload_n 1, 1) := dX12_reading_28
theorem wdX12_reading_29 : decode cX12_reading 29 = .ok (.invokestatic 51, 3) := dX12_reading_29
theorem wdX12_reading_32 : decode cX12_reading 32 = .ok (.ifCond .ne 6, 3) := dX12_reading_32
theorem wdX12_reading_38 : decode cX12_reading 38 = .ok (.iload_n 2, 1) := dX12_reading_38
theorem wdX12_reading_39 : decode cX12_reading 39 = .ok (.iload_n 3, 1) := dX12_reading_39
theorem wdX12_reading_40 : decode cX12_reading 40 = .ok (.aload_n 0, 1) := dX12_reading_40
theorem wdX12_reading_41 : decode cX12_reading 41 = .ok (.getfield 17, 3) := dX12_reading_41
theorem wdX12_reading_44 : decode cX12_reading 44 = .ok (.iconst 1, 1) := dX12_reading_44
theorem wdX12_reading_45 : decode cX12_reading 45 = .ok (.iload 4, 2) := dX12_reading_45
theorem wdX12_reading_47 : decode cX12_reading 47 = .ok (.iadd, 1) := dX12_reading_47
theorem wdX12_reading_48 : decode cX12_reading 48 = .ok (.iaload, 1) := dX12_reading_48
theorem wdX12_reading_49 : decode cX12_reading 49 = .ok (.iconst 1, 1) := dX12_reading_49
theorem wdX12_reading_50 : decode cX12_reading 50 = .ok (.iadd, 1) := dX12_reading_50
theorem wdX12_reading_51 : decode cX12_reading 51 = .ok (.imul, 1) := dX12_reading_51
theorem wdX12_reading_52 : decode cX12_reading 52 = .ok (.iadd, 1) := dX12_reading_52
theorem wdX12_reading_53 : decode cX12_reading 53 = .ok (.istore_n 2, 1) := dX12_reading_53
theorem wdX12_reading_54 : decode cX12_reading 54 = .ok (.iload_n 3, 1) := dX12_reading_54
theorem wdX12_reading_55 : decode cX12_reading 55 = .ok (.iconst 4, 1) := dX12_reading_55
theorem wdX12_reading_56 : decode cX12_reading 56 = .ok (.imul, 1) := dX12_reading_56
theorem wdX12_reading_57 : decode cX12_reading 57 = .ok (.istore_n 3, 1) := dX12_reading_57
theorem wdX12_reading_58 : decode cX12_reading 58 = .ok (.iinc 4 1, 3) := dX12_reading_58
theorem wdX12_reading_61 : decode cX12_reading 61 = .ok (.goto (-54), 3) := dX12_reading_61
theorem wdX12_reading_35 : decode cX12_reading 35 = .ok (.goto 23, 3) := dX12_reading_35
set_option maxRecDepth 4000 in
theorem lp_X12_reading {p : Program} {l : Launch} {e : Env} {s : State} {m : MethodId} {args : Array Value} {below : List Frame} {meth : Method} {c : Code} {D : va_G} {B : Nat} {cy : Nat → ClassId} {H0 : Heap} {Q : State → Prop} {M : Mem} {R : Room} {q hv ed j9 : Nat} {o : Wo} {z9 : Int} (F : CallFix p m c cX12_reading 5 s args TB RX12) (hR1 : 1 ≤ R.frames) (hR2 : 21 ≤ R.locals) (hR : RW M q hv ed o z9) (hj9 : j9 < 12) (kk : ∀ (t : Nat) (al : Nat) (by9 : Nat) (H : Heap) (locs : List Loc) (ls : Array Slot), (al = rdW9 o j9) → Wd D B cy s H0 M H locs → lv_has ls 5 [(2, .int (zI (al : Int)))] → W p l e R s m args below meth c H locs 0 0 Q (F0 m 64 ls [])) : ∀ (f : Nat) (t : Nat) (al : Nat) (by9 : Nat), (t ≤ o.1) → (rdI9 o.2.1 o.2.2 j9 o.1 t al by9) → (o.1 ≤ t + f) → ∀ (H : Heap) (locs : List Loc) (ls : Array Slot), Wd D B cy s H0 M H locs → lv_has ls 5 [(4, .int (zI (t : Int))), (3, .int (zI (by9 : Int))), (2, .int (zI (al : Int))), (0, .ref (B + 146)), (1, .int (zI (j9 : Int)))] → W p l e R s m args below meth c H locs 0 0 Q (F0 m 7 ls []) := by
  have hx := F.1
  have hb := F.2.1
  have hW := hR.1
  have hwf := hR.wf
  have hKL := hwf.2.2.2.2
  have hn12 := hwf.1
  have hq12 := hwf.2.1
  have hhv := hwf.2.2.1
  have hed := hwf.2.2.2.1
  have hc := hR.2.2.2.2
  intro f
  induction f with
  | zero =>
    intro t al by9 i0 i1 hf H locs ls w hl
    have hrb := rdI_b i1 hn12 i0 (fun j hj => (hKL j hj).1)
    refine lv_iload hx hb wdX12_reading_7 (lv_at hl 0 rfl) ?_
    refine lv_aload_n hx hb wdX12_reading_9 rfl (lv_at hl 3 rfl) ?_
    refine f_12_2 F w (a := 146) rfl wtb_102 wdX12_reading_10 ?_
    refine lv_iconst (v := zI 0) hx hb wdX12_reading_13 rfl ?_
    refine g_iald F w (a := 148) rfl (j := 0) ⟨by decide, by decide⟩ (by omega) wdX12_reading_14 ?_
    refine r_val (v := (zI ((o.1 : Nat) : Int))) (hW.1) ?_
    refine z_icmp_ge (tgt := 64) hx hb (by omega) (by omega) wdX12_reading_15 (by decide) (fun c1 => ?_) (fun c1 => False.elim (by omega))
    exact kk t al by9 _ _ ls (rdI_e (by rw [show t = o.1 by omega] at i1; exact i1)) w (lv_sub hl [2] rfl)
  | succ f ih =>
    intro t al by9 i0 i1 hf H locs ls w hl
    have hrb := rdI_b i1 hn12 i0 (fun j hj => (hKL j hj).1)
    refine lv_iload hx hb wdX12_reading_7 (lv_at hl 0 rfl) ?_
    refine lv_aload_n hx hb wdX12_reading_9 rfl (lv_at hl 3 rfl) ?_
    refine f_12_2 F w (a := 146) rfl wtb_102 wdX12_reading_10 ?_
    refine lv_iconst (v := zI 0) hx hb wdX12_reading_13 rfl ?_
    refine g_iald F w (a := 148) rfl (j := 0) ⟨by decide, by decide⟩ (by omega) wdX12_reading_14 ?_
    refine r_val (v := (zI ((o.1 : Nat) : Int))) (hW.1) ?_
    refine z_icmp_ge (tgt := 64) hx hb (by omega) (by omega) wdX12_reading_15 (by decide) (fun c1 => ?_) (fun c1 => ?_)
    · exact kk t al by9 _ _ ls (rdI_e (by rw [show t = o.1 by omega] at i1; exact i1)) w (lv_sub hl [2] rfl)
    · refine lv_aload_n hx hb wdX12_reading_18 rfl (lv_at hl 3 rfl) ?_
      refine f_12_2 F w (a := 146) rfl wtb_102 wdX12_reading_19 ?_
      refine lv_bipush (v := zI 13) hx hb wdX12_reading_22 (by decide) ?_
      refine lv_iload hx hb wdX12_reading_24 (lv_at hl 0 rfl) ?_
      refine z_iadd (z := (((13 + t) : Nat) : Int)) hx hb wdX12_reading_26 (by omega) ?_
      refine g_iald F w (a := 148) rfl (j := (13 + t)) (ix_n (by omega)) (by omega) wdX12_reading_27 ?_
      have hL1 := (hKL t (by omega)).2
      refine r_val (v := (zI (((o.2.2 t) : Nat) : Int))) (hW.2.2.2.2.2 t (by omega)) ?_
      refine lv_iload_n hx hb wdX12_reading_28 rfl (lv_at hl 4 rfl) ?_
      refine k_Si F w (As := [.int (zI (((o.2.2 t) : Nat) : Int)), .int (zI (j9 : Int))]) (rest := []) (s_X12_isIn (m9 := (o.2.2 t)) (k := j9) (by omega) (by omega)) wgs_X12_51 whs_X12_isIn ⟨(by omega), (by omega)⟩ hl.1 rfl (Nat.le_of_ble_eq_true rfl) ⟨Nat.zero_le _, Nat.zero_le _⟩ wdX12_reading_29 (fun r Ma3 H locs hp w => ?_)
      rcases hp with ⟨⟨hb2, rfl⟩ | ⟨hb2, rfl⟩, hMe⟩
      · rw [hMe] at w
        refine z_if_ne (tgt := 38) hx hb (by omega) wdX12_reading_32 (by decide) (fun c4 => ?_) (fun c4 => False.elim (by omega))
        refine lv_iload_n hx hb wdX12_reading_38 rfl (lv_at hl 2 rfl) ?_
        refine lv_iload_n hx hb wdX12_reading_39 rfl (lv_at hl 1 rfl) ?_
        refine lv_aload_n hx hb wdX12_reading_40 rfl (lv_at hl 3 rfl) ?_
        refine f_12_2 F w (a := 146) rfl wtb_102 wdX12_reading_41 ?_
        refine lv_iconst (v := zI 1) hx hb wdX12_reading_44 rfl ?_
        refine lv_iload hx hb wdX12_reading_45 (lv_at hl 0 rfl) ?_
        refine z_iadd (z := (((1 + t) : Nat) : Int)) hx hb wdX12_reading_47 (by omega) ?_
        refine g_iald F w (a := 148) rfl (j := (1 + t)) (ix_n (by omega)) (by omega) wdX12_reading_48 ?_
        have hK4 := (hKL t (by omega)).1
        refine r_val (v := (zI (((o.2.1 t) : Nat) : Int))) (hW.2.2.2.2.1 t (by omega)) ?_
        refine lv_iconst (v := zI 1) hx hb wdX12_reading_49 rfl ?_
        refine z_iadd (z := ((((o.2.1 t) + 1) : Nat) : Int)) hx hb wdX12_reading_50 (by omega) ?_
        refine lv_imul hx hb wdX12_reading_51 ?_
        obtain ⟨pv, hpv⟩ : ∃ pv : Nat, pv = by9 * (o.2.1 t + 1) := ⟨_, rfl⟩
        have hpb := hrb.2.2 pv hpv (by omega)
        refine r_val (v := zI (pv : Int)) (mul_zz (a := by9) (b := o.2.1 t + 1) (congrArg _ hpv)) ?_
        refine z_iadd (z := (((al + pv) : Nat) : Int)) hx hb wdX12_reading_52 (by omega) ?_
        refine lv_istore_n (lv' := [(2, .int (zI (((al + pv) : Nat) : Int))), (4, .int (zI (t : Int))), (3, .int (zI (by9 : Int))), (0, .ref (B + 146)), (1, .int (zI (j9 : Int)))]) hx hb wdX12_reading_53 rfl hl (by decide) rfl (fun ls hl => ?_)
        refine lv_iload_n hx hb wdX12_reading_54 rfl (lv_at hl 2 rfl) ?_
        refine lv_iconst (v := zI 4) hx hb wdX12_reading_55 rfl ?_
        refine z_imul (z := (((by9 * 4) : Nat) : Int)) hx hb wdX12_reading_56 (by omega) ?_
        refine lv_istore_n (lv' := [(3, .int (zI (((by9 * 4) : Nat) : Int))), (2, .int (zI (((al + pv) : Nat) : Int))), (4, .int (zI (t : Int))), (0, .ref (B + 146)), (1, .int (zI (j9 : Int)))]) hx hb wdX12_reading_57 rfl hl (by decide) rfl (fun ls hl => ?_)
        refine z_iinc (v := (((t + 1) : Nat) : Int)) (lv' := [(4, .int (zI (((t + 1) : Nat) : Int))), (3, .int (zI (((by9 * 4) : Nat) : Int))), (2, .int (zI (((al + pv) : Nat) : Int))), (0, .ref (B + 146)), (1, .int (zI (j9 : Int)))]) hx hb wdX12_reading_58 hl (k := 2) rfl (by omega) (by decide) rfl (fun ls hl => ?_)
        refine lv_goto (tgt := 7) hx hb wdX12_reading_61 (by decide) ?_
        exact ih (t + 1) (al + pv) (by9 * 4) (by omega) (rdI9_y i1 (by omega) hb2 hpv) (by omega) _ _ ls w (lv_sub hl [0, 1, 2, 3, 4] rfl)
      · rw [hMe] at w
        refine z_if_ne (tgt := 38) hx hb (by omega) wdX12_reading_32 (by decide) (fun c5 => False.elim (by omega)) (fun c5 => ?_)
        refine lv_goto (tgt := 58) hx hb wdX12_reading_35 (by decide) ?_
        refine z_iinc (v := (((t + 1) : Nat) : Int)) (lv' := [(4, .int (zI (((t + 1) : Nat) : Int))), (3, .int (zI (by9 : Int))), (2, .int (zI (al : Int))), (0, .ref (B + 146)), (1, .int (zI (j9 : Int)))]) hx hb wdX12_reading_58 hl (k := 0) rfl (by omega) (by decide) rfl (fun ls hl => ?_)
        refine lv_goto (tgt := 7) hx hb wdX12_reading_61 (by decide) ?_
        exact ih (t + 1) al by9 (by omega) (rdI9_n i1 (by omega) hb2) (by omega) _ _ ls w (lv_sub hl [0, 1, 2, 3, 4] rfl)
theorem wdX12_reading_0 : decode cX12_reading 0 = .ok (.iconst 0, 1) := dX12_reading_0
theorem wdX12_reading_1 : decode cX12_reading 1 = .ok (.istore_n 2, 1) := dX12_reading_1
theorem wdX12_reading_2 : decode cX12_reading 2 = .ok (.iconst 1, 1) := dX12_reading_2
theorem wdX12_reading_3 : decode cX12_reading 3 = .ok (.istore_n 3, 1) := dX12_reading_3
theorem wdX12_reading_4 : decode cX12_reading 4 = .ok (.iconst 0, 1) := dX12_reading_4
theorem wdX12_reading_5 : decode cX12_reading 5 = .ok (.istore 4, 2) := dX12_reading_5
theorem wdX12_reading_64 : decode cX12_reading 64 = .ok (.iload_n 2, 1) := dX12_reading_64
theorem wdX12_reading_65 : decode cX12_reading 65 = .ok (.ireturn, 1) := dX12_reading_65
set_option maxRecDepth 4000 in
theorem k_reading {l : Launch} {D : va_G} {B : Nat} {cy : Nat → ClassId} {M : Mem} {q hv ed : Nat} {o : Wo} {z9 : Int} (hR : RW M q hv ed o z9) {j9 : Nat} (hj9 : j9 < 12) : Ci l D B cy yX12_reading cX12_reading 5 (some .int) 1 21 [.ref (B + 146), .int (zI (j9 : Int))] M (fun r M1 => r = zI ((rdW9 o j9 : Nat) : Int) ∧ M1 = M) := by
  refine s_any (by decide) (Nat.le_of_ble_eq_true rfl) ?_
  intro p e s m below meth c ls F hr hlocks w hl
  have F : CallFix p m c cX12_reading 5 s _ TB RX12 := F
  have hx := F.1
  have hb := F.2.1
  have hl : lv_has ls 5 [(0, .ref (B + 146)), (1, .int (zI (j9 : Int)))] := hl
  have hW := hR.1
  have hwf := hR.wf
  have hKL := hwf.2.2.2.2
  have hn12 := hwf.1
  have hq12 := hwf.2.1
  have hhv := hwf.2.2.1
  have hed := hwf.2.2.2.1
  have hc := hR.2.2.2.2
  have hrw := rdW_b (s := j9) hR.2.1
  refine lv_iconst (v := zI 0) hx hb wdX12_reading_0 rfl ?_
  refine lv_istore_n (lv' := [(2, .int (zI 0)), (0, .ref (B + 146)), (1, .int (zI (j9 : Int)))]) hx hb wdX12_reading_1 rfl hl (by decide) rfl (fun ls hl => ?_)
  refine lv_iconst (v := zI 1) hx hb wdX12_reading_2 rfl ?_
  refine lv_istore_n (lv' := [(3, .int (zI 1)), (2, .int (zI 0)), (0, .ref (B + 146)), (1, .int (zI (j9 : Int)))]) hx hb wdX12_reading_3 rfl hl (by decide) rfl (fun ls hl => ?_)
  refine lv_iconst (v := zI 0) hx hb wdX12_reading_4 rfl ?_
  refine lv_istore (lv' := [(4, .int (zI 0)), (3, .int (zI 1)), (2, .int (zI 0)), (0, .ref (B + 146)), (1, .int (zI (j9 : Int)))]) hx hb wdX12_reading_5 hl (by decide) rfl (fun ls hl => ?_)
  refine lp_X12_reading  F (Nat.le_of_ble_eq_true rfl) (Nat.le_of_ble_eq_true rfl) hR hj9 (fun t al by9 H locs ls x0 w hl => ?_) o.1 0 0 1 (by omega) rdI_0 (by omega) _ _ ls w (lv_sub hl [0, 1, 2, 3, 4] rfl)
  rw [x0] at hl
  refine lv_iload_n hx hb wdX12_reading_64 rfl (lv_at hl 0 rfl) ?_
  exact e_i F w hr hlocks ⟨rfl, rfl⟩ wdX12_reading_65
theorem wdX12_lays_0 : decode cX12_lays 0 = .ok (.iload_n 1, 1) := dX12_lays_0
theorem wdX12_lays_1 : decode cX12_lays 1 = .ok (.iconst 0, 1) := dX12_lays_1
theorem wdX12_lays_2 : decode cX12_lays 2 = .ok (.aload_n 0, 1) := dX12_lays_2
theorem wdX12_lays_3 : decode cX12_lays 3 = .ok (.getfield 239, 3) := dX12_lays_3
theorem wdX12_lays_6 : decode cX12_lays 6 = .ok (.invokestatic 55, 3) := dX12_lays_6
theorem wdX12_lays_9 : decode cX12_lays 9 = .ok (.ifCond .ne 5, 3) := dX12_lays_9
theorem wdX12_lays_14 : decode cX12_lays 14 = .ok (.aload_n 0, 1) := dX12_lays_14
theorem wdX12_lays_15 : decode cX12_lays 15 = .ok (.iload_n 1, 1) := dX12_lays_15
theorem wdX12_lays_16 : decode cX12_lays 16 = .ok (.invokevirtual 255, 3) := dX12_lays_16
theorem wdX12_lays_19 : decode cX12_lays 19 = .ok (.pop, 1) := dX12_lays_19
theorem wdX12_lays_20 : decode cX12_lays 20 = .ok (.iconst 1, 1) := dX12_lays_20
theorem wdX12_lays_21 : decode cX12_lays 21 = .ok (.ireturn, 1) := dX12_lays_21
theorem wdX12_lays_12 : decode cX12_lays 12 = .ok (.iconst 0, 1) := dX12_lays_12
theorem wdX12_lays_13 : decode cX12_lays 13 = .ok (.ireturn, 1) := dX12_lays_13
set_option maxRecDepth 4000 in
theorem m_lays {l : Launch} {D : va_G} {B : Nat} {cy : Nat → ClassId} {M : Mem} {Ps : Nat → Nat → Int} {mr k q hv ed : Nat} {o : Wo} {Hs : Nat → Fw} (hS : MS M Ps mr (q, hv, ed, o) Hs k) {n9 : Int} (hn9 : rg n9) : Ci l D B cy yX12_lays cX12_lays 2 (some .boolean) 9 212 [.ref (B + 146), .int (zI n9)] M (fun r M1 => (∃ nn : Nat, n9 = (nn : Int) ∧ nn ≤ mr ∧ r = zI 1 ∧ ∃ z, RW M1 q hv ed (sg9 Ps (q, hv, ed, o) nn) z) ∨ (¬ (0 ≤ n9 ∧ n9 ≤ (mr : Int)) ∧ r = zI 0)) := by
  refine s_any (by decide) (Nat.le_of_ble_eq_true rfl) ?_
  intro p e s m below meth c ls F hr hlocks w hl
  have F : CallFix p m c cX12_lays 2 s _ TB RX12 := F
  have hx := F.1
  have hb := F.2.1
  have hl : lv_has ls 2 [(0, .ref (B + 146)), (1, .int (zI n9))] := hl
  have hm8 := hS.1.1
  have hk12 := hS.2.2.2.2.1
  have hC : TW M q hv ed o := hS.T
  have hW : isR M 147 o.1 q hv ed o.2.1 o.2.2 := hC.1
  have hwf := hC.wf
  have hKL := hwf.2.2.2.2
  have hn12 := hwf.1
  have hq12 := hwf.2.1
  have hhv := hwf.2.2.1
  have hed := hwf.2.2.2.1
  refine lv_iload_n hx hb wdX12_lays_0 rfl (lv_at hl 1 rfl) ?_
  refine lv_iconst (v := zI 0) hx hb wdX12_lays_1 rfl ?_
  refine lv_aload_n hx hb wdX12_lays_2 rfl (lv_at hl 0 rfl) ?_
  refine f_12_5 F w (a := 146) rfl wtb_291 wdX12_lays_3 ?_
  refine r_val (v := (zI (mr : Int))) (hS.2.1) ?_
  refine k_Si F w (As := [.int (zI n9), .int (zI 0), .int (zI (mr : Int))]) (rest := []) (s_X12_in (v := n9) (a := 0) (b := (mr : Int)) (by omega) (by omega) (by omega)) wgs_X12_55 whs_X12_in ⟨(Nat.le_of_ble_eq_true rfl), (Nat.le_of_ble_eq_true rfl)⟩ hl.1 rfl (Nat.le_of_ble_eq_true rfl) ⟨Nat.zero_le _, Nat.zero_le _⟩ wdX12_lays_6 (fun r Ma2 H locs hp w => ?_)
  rcases hp with ⟨⟨hb1, rfl⟩ | ⟨hb1, rfl⟩, hMe⟩
  · rw [hMe] at w
    refine z_if_ne (tgt := 14) hx hb (by omega) wdX12_lays_9 (by decide) (fun c3 => ?_) (fun c3 => False.elim (by omega))
    obtain ⟨nn, rfl⟩ : ∃ n8 : Nat, n9 = (n8 : Int) := ⟨Int.toNat n9, by omega⟩
    refine lv_aload_n hx hb wdX12_lays_14 rfl (lv_at hl 0 rfl) ?_
    refine lv_iload_n hx hb wdX12_lays_15 rfl (lv_at hl 1 rfl) ?_
    refine k_Vi F w (As := [.int (zI (nn : Int))]) (rest := []) (a := 146) (kd_lt (a := 146) (show kd 146 = (12, 0, 0) from rfl) (by decide)) (sh_12 rfl _ _) rfl (s_X12_derives hC hS.1 (n9 := nn) (by omega)) wgv_X12_255 whv_X12_derives ⟨(Nat.le_of_ble_eq_true rfl), (Nat.le_of_ble_eq_true rfl)⟩ hl.1 rfl (Nat.le_of_ble_eq_true rfl) ⟨Nat.zero_le _, Nat.zero_le _⟩ wdX12_lays_16 (fun r Ma4 H locs hp w => ?_)
    rcases hp with ⟨oT, dT, eT, rfl, ⟨zT, hRT⟩, hFT, hdT⟩
    refine lv_pop hx hb wdX12_lays_19 rfl ?_
    refine lv_iconst (v := zI 1) hx hb wdX12_lays_20 rfl ?_
    exact e_z F w hr hlocks (nar_z (by omega)) (Or.inl ⟨nn, rfl, by omega, rfl, zT, by rw [show sg9 Ps (q, hv, ed, o) nn = oT from congrArg Prod.fst eT]; exact hRT⟩) wdX12_lays_21
  · rw [hMe] at w
    refine z_if_ne (tgt := 14) hx hb (by omega) wdX12_lays_9 (by decide) (fun c5 => False.elim (by omega)) (fun c5 => ?_)
    refine lv_iconst (v := zI 0) hx hb wdX12_lays_12 rfl ?_
    exact e_z F w hr hlocks (nar_z (by omega)) (Or.inr ⟨by omega, rfl⟩) wdX12_lays_13
theorem wtk_X12_lays : Cond.code yX12_lays cX12_lays 2 (some .boolean) ∈ TB := tk_X12_lays
theorem wgc_X12_lays : GoodIn TB (cw yX12_lays cX12_lays 2 (some .boolean)) := goodIn_c2 wtk_X12_lays
theorem wtb_337 : Cond.methodLink "ToneLinesModel" 261 yX12_lays ∈ TB := tb_611
theorem wtb_338 : Cond.instanceMethod yX12_lays ∈ TB := tb_612
theorem wtb_339 : Cond.selects "ToneLinesModel" yX12_lays yX12_lays ∈ TB := tb_613
theorem wgv_X12_261 : GoodIn TB (wsV RX12 261 RX12 yX12_lays (cw yX12_lays cX12_lays 2 (some .boolean))) := goodIn_4 wtb_337 wtb_338 wtb_339 wtb_105 wgc_X12_lays
theorem whv_X12_lays : yX12_lays.cls = RX12 ∧ yX12_lays.cls ≠ "java/lang/invoke/MethodHandle" ∧ yX12_lays.cls ≠ "java/lang/invoke/VarHandle" ∧ (parseMethodDescriptor yX12_lays.desc).map (fun d => d.parameters.length) = some 1 := hv_X12_lays
theorem wtk_X12_orNeither : Cond.code yX12_orNeither cX12_orNeither 1 (some .int) ∈ TB := tk_X12_orNeither
theorem wgc_X12_orNeither : GoodIn TB (cw yX12_orNeither cX12_orNeither 1 (some .int)) := goodIn_c2 wtk_X12_orNeither
theorem wtb_361 : Cond.methodLink "ToneLinesModel" 285 yX12_orNeither ∈ TB := tb_635
theorem wtb_362 : Cond.static yX12_orNeither ∈ TB := tb_636
theorem wgs_X12_285 : GoodIn TB (va_wsS RX12 285 yX12_orNeither (cw yX12_orNeither cX12_orNeither 1 (some .int))) := goodIn_3 wtb_361 wtb_362 wtb_105 wgc_X12_orNeither
theorem whs_X12_orNeither : yX12_orNeither.cls ≠ "java/lang/invoke/MethodHandle" ∧ yX12_orNeither.cls ≠ "java/lang/invoke/VarHandle" ∧ (parseMethodDescriptor yX12_orNeither.desc).map (fun d => d.parameters.length) = some 1 := hs_X12_orNeither
theorem wdX12_syllableAt_0 : decode cX12_syllableAt 0 = .ok (.aload_n 0, 1) := dX12_syllableAt_0
theorem wdX12_syllableAt_1 : decode cX12_syllableAt 1 = .ok (.iload_n 1, 1) := dX12_syllableAt_1
theorem wdX12_syllableAt_2 : decode cX12_syllableAt 2 = .ok (.invokevirtual 261, 3) := dX12_syllableAt_2
theorem wdX12_syllableAt_5 : decode cX12_syllableAt 5 = .ok (.ifCond .eq 14, 3) := dX12_syllableAt_5
theorem wdX12_syllableAt_8 : decode cX12_syllableAt 8 = .ok (.aload_n 0, 1) := dX12_syllableAt_8
theorem wdX12_syllableAt_9 : decode cX12_syllableAt 9 = .ok (.getfield 17, 3) := dX12_syllableAt_9
theorem wdX12_syllableAt_12 : decode cX12_syllableAt 12 = .ok (.iload_n 2, 1) := dX12_syllableAt_12
theorem wdX12_syllableAt_13 : decode cX12_syllableAt 13 = .ok (.invokestatic 94, 3) := dX12_syllableAt_13
theorem wdX12_syllableAt_16 : decode cX12_syllableAt 16 = .ok (.ifCond .ne 5, 3) := dX12_syllableAt_16
theorem wdX12_syllableAt_21 : decode cX12_syllableAt 21 = .ok (.aload_n 0, 1) := dX12_syllableAt_21
theorem wdX12_syllableAt_22 : decode cX12_syllableAt 22 = .ok (.getfield 17, 3) := dX12_syllableAt_22
theorem wdX12_syllableAt_25 : decode cX12_syllableAt 25 = .ok (.iload_n 2, 1) := dX12_syllableAt_25
theorem wdX12_syllableAt_26 : decode cX12_syllableAt 26 = .ok (.invokestatic 69, 3) := dX12_syllableAt_26
theorem wdX12_syllableAt_29 : decode cX12_syllableAt 29 = .ok (.istore 4, 2) := dX12_syllableAt_29
theorem wdX12_syllableAt_31 : decode cX12_syllableAt 31 = .ok (.iload_n 3, 1) := dX12_syllableAt_31
theorem wdX12_syllableAt_32 : decode cX12_syllableAt 32 = .ok (.tableswitch 110 0 5 #[40, 60, 80, 86, 95, 104], 40) := dX12_syllableAt_32
theorem wdX12_syllableAt_72 : decode cX12_syllableAt 72 = .ok (.aload_n 0, 1) := dX12_syllableAt_72
theorem wdX12_syllableAt_73 : decode cX12_syllableAt 73 = .ok (.getfield 17, 3) := dX12_syllableAt_73
theorem wdX12_syllableAt_76 : decode cX12_syllableAt 76 = .ok (.bipush 26, 2) := dX12_syllableAt_76
theorem wdX12_syllableAt_78 : decode cX12_syllableAt 78 = .ok (.iaload, 1) := dX12_syllableAt_78
theorem wdX12_syllableAt_79 : decode cX12_syllableAt 79 = .ok (.iload_n 2, 1) := dX12_syllableAt_79
theorem wdX12_syllableAt_80 : decode cX12_syllableAt 80 = .ok (.invokestatic 51, 3) := dX12_syllableAt_80
theorem wdX12_syllableAt_83 : decode cX12_syllableAt 83 = .ok (.ifCond .eq 7, 3) := dX12_syllableAt_83
theorem wdX12_syllableAt_86 : decode cX12_syllableAt 86 = .ok (.iconst 1, 1) := dX12_syllableAt_86
theorem wdX12_syllableAt_87 : decode cX12_syllableAt 87 = .ok (.goto 4, 3) := dX12_syllableAt_87
theorem wdX12_syllableAt_91 : decode cX12_syllableAt 91 = .ok (.ireturn, 1) := dX12_syllableAt_91
theorem wdX12_syllableAt_90 : decode cX12_syllableAt 90 = .ok (.iconst 0, 1) := dX12_syllableAt_90
theorem wdX12_syllableAt_92 : decode cX12_syllableAt 92 = .ok (.aload_n 0, 1) := dX12_syllableAt_92
theorem wdX12_syllableAt_93 : decode cX12_syllableAt 93 = .ok (.getfield 17, 3) := dX12_syllableAt_93
theorem wdX12_syllableAt_96 : decode cX12_syllableAt 96 = .ok (.bipush 27, 2) := dX12_syllableAt_96
theorem wdX12_syllableAt_98 : decode cX12_syllableAt 98 = .ok (.iaload, 1) := dX12_syllableAt_98
theorem wdX12_syllableAt_99 : decode cX12_syllableAt 99 = .ok (.iload_n 2, 1) := dX12_syllableAt_99
theorem wdX12_syllableAt_100 : decode cX12_syllableAt 100 = .ok (.invokestatic 51, 3) := dX12_syllableAt_100
theorem wdX12_syllableAt_103 : decode cX12_syllableAt 103 = .ok (.ifCond .eq 7, 3) := dX12_syllableAt_103
theorem wdX12_syllableAt_106 : decode cX12_syllableAt 106 = .ok (.iconst 1, 1) := dX12_syllableAt_106
theorem wdX12_syllableAt_107 : decode cX12_syllableAt 107 = .ok (.goto 4, 3) := dX12_syllableAt_107
theorem wdX12_syllableAt_111 : decode cX12_syllableAt 111 = .ok (.ireturn, 1) := dX12_syllableAt_111
theorem wdX12_syllableAt_110 : decode cX12_syllableAt 110 = .ok (.iconst 0, 1) := dX12_syllableAt_110
theorem wdX12_syllableAt_112 : decode cX12_syllableAt 112 = .ok (.iload 4, 2) := dX12_syllableAt_112
theorem wdX12_syllableAt_114 : decode cX12_syllableAt 114 = .ok (.invokestatic 76, 3) := dX12_syllableAt_114
theorem wdX12_syllableAt_117 : decode cX12_syllableAt 117 = .ok (.ireturn, 1) := dX12_syllableAt_117
theorem wdX12_syllableAt_118 : decode cX12_syllableAt 118 = .ok (.iload 4, 2) := dX12_syllableAt_118
theorem wdX12_syllableAt_120 : decode cX12_syllableAt 120 = .ok (.invokestatic 63, 3) := dX12_syllableAt_120
theorem wdX12_syllableAt_123 : decode cX12_syllableAt 123 = .ok (.invokestatic 285, 3) := dX12_syllableAt_123
theorem wdX12_syllableAt_126 : decode cX12_syllableAt 126 = .ok (.ireturn, 1) := dX12_syllableAt_126
theorem wdX12_syllableAt_127 : decode cX12_syllableAt 127 = .ok (.iload 4, 2) := dX12_syllableAt_127
theorem wdX12_syllableAt_129 : decode cX12_syllableAt 129 = .ok (.invokestatic 59, 3) := dX12_syllableAt_129
theorem wdX12_syllableAt_132 : decode cX12_syllableAt 132 = .ok (.invokestatic 285, 3) := dX12_syllableAt_132
theorem wdX12_syllableAt_135 : decode cX12_syllableAt 135 = .ok (.ireturn, 1) := dX12_syllableAt_135
theorem wdX12_syllableAt_136 : decode cX12_syllableAt 136 = .ok (.aload_n 0, 1) := dX12_syllableAt_136
theorem wdX12_syllableAt_137 : decode cX12_syllableAt 137 = .ok (.iload_n 2, 1) := dX12_syllableAt_137
theorem wdX12_syllableAt_138 : decode cX12_syllableAt 138 = .ok (.invokevirtual 288, 3) := dX12_syllableAt_138
theorem wtk_X12_reading : Cond.code yX12_reading cX12_reading 5 (some .int) ∈ TB := tk_X12_reading
theorem wgc_X12_reading : GoodIn TB (cw yX12_reading cX12_reading 5 (some .int)) := goodIn_c2 wtk_X12_reading
theorem wtb_363 : Cond.methodLink "ToneLinesModel" 288 yX12_reading ∈ TB := tb_637
theorem wtb_364 : Cond.instanceMethod yX12_reading ∈ TB := tb_638
theorem wtb_365 : Cond.selects "ToneLinesModel" yX12_reading yX12_reading ∈ TB := tb_639
theorem wgv_X12_288 : GoodIn TB (wsV RX12 288 RX12 yX12_reading (cw yX12_reading cX12_reading 5 (some .int))) := goodIn_4 wtb_363 wtb_364 wtb_365 wtb_105 wgc_X12_reading
theorem whv_X12_reading : yX12_reading.cls = RX12 ∧ yX12_reading.cls ≠ "java/lang/invoke/MethodHandle" ∧ yX12_reading.cls ≠ "java/lang/invoke/VarHandle" ∧ (parseMethodDescriptor yX12_reading.desc).map (fun d => d.parameters.length) = some 1 := hv_X12_reading
theorem wdX12_syllableAt_141 : decode cX12_syllableAt 141 = .ok (.ireturn, 1) := dX12_syllableAt_141
theorem wdX12_syllableAt_142 : decode cX12_syllableAt 142 = .ok (.iconst (-1), 1) := dX12_syllableAt_142
theorem wdX12_syllableAt_143 : decode cX12_syllableAt 143 = .ok (.ireturn, 1) := dX12_syllableAt_143
theorem wdX12_syllableAt_19 : decode cX12_syllableAt 19 = .ok (.iconst (-1), 1) := dX12_syllableAt_19
theorem wdX12_syllableAt_20 : decode cX12_syllableAt 20 = .ok (.ireturn, 1) := dX12_syllableAt_20
set_option maxRecDepth 4000 in
theorem k_syllableAt {l : Launch} {D : va_G} {B : Nat} {cy : Nat → ClassId} {M : Mem} {Ps : Nat → Nat → Int} {mr k q hv ed : Nat} {o : Wo} {Hs : Nat → Fw} (hS : MS M Ps mr (q, hv, ed, o) Hs k) {n9 u9 w9 : Int} (hn9 : rg n9) (hu9 : rg u9) (hw9 : rg w9) : Ci l D B cy yX12_syllableAt cX12_syllableAt 5 (some .int) 10 233 [.ref (B + 146), .int (zI n9), .int (zI u9), .int (zI w9)] M (fun r M1 => r = zI (ofA Ps mr (q, hv, ed, o) n9 (sylA u9 w9))) := by
  refine s_any (by decide) (Nat.le_of_ble_eq_true rfl) ?_
  intro p e s m below meth c ls F hr hlocks w hl
  have F : CallFix p m c cX12_syllableAt 5 s _ TB RX12 := F
  have hx := F.1
  have hb := F.2.1
  have hl : lv_has ls 5 [(0, .ref (B + 146)), (1, .int (zI n9)), (2, .int (zI u9)), (3, .int (zI w9))] := hl
  have hm8 := hS.1.1
  have hk12 := hS.2.2.2.2.1
  have hC : TW M q hv ed o := hS.T
  have hW : isR M 147 o.1 q hv ed o.2.1 o.2.2 := hC.1
  have hwf := hC.wf
  have hKL := hwf.2.2.2.2
  have hn12 := hwf.1
  have hq12 := hwf.2.1
  have hhv := hwf.2.2.1
  have hed := hwf.2.2.2.1
  refine lv_aload_n hx hb wdX12_syllableAt_0 rfl (lv_at hl 0 rfl) ?_
  refine lv_iload_n hx hb wdX12_syllableAt_1 rfl (lv_at hl 1 rfl) ?_
  refine k_Vi F w (As := [.int (zI n9)]) (rest := []) (a := 146) (kd_lt (a := 146) (show kd 146 = (12, 0, 0) from rfl) (by decide)) (sh_12 rfl _ _) rfl (m_lays hS (n9 := n9) (by omega)) wgv_X12_261 whv_X12_lays ⟨(Nat.le_of_ble_eq_true rfl), (Nat.le_of_ble_eq_true rfl)⟩ hl.1 rfl (Nat.le_of_ble_eq_true rfl) ⟨Nat.zero_le _, Nat.zero_le _⟩ wdX12_syllableAt_2 (fun r Ma1 H locs hp w => ?_)
  rcases hp with ⟨nn, rfl, hnn, rfl, z9, hRs⟩ | ⟨hnc, rfl⟩
  · obtain ⟨o1, ho1⟩ : ∃ o1, o1 = sg9 Ps (q, hv, ed, o) nn := ⟨_, rfl⟩
    have hR : RW Ma1 q hv ed o1 z9 := by rw [ho1]; exact hRs
    have hW1 := hR.1
    have hwf1 := hR.wf
    have hKL1 := hwf1.2.2.2.2
    have hn1 := hwf1.1
    have hc1 := hR.2.2.2.2
    refine z_if_eq (tgt := 19) hx hb (by omega) wdX12_syllableAt_5 (by decide) (fun c2 => False.elim (by omega)) (fun c2 => ?_)
    refine lv_aload_n hx hb wdX12_syllableAt_8 rfl (lv_at hl 0 rfl) ?_
    refine f_12_2 F w (a := 146) rfl wtb_102 wdX12_syllableAt_9 ?_
    refine lv_iload_n hx hb wdX12_syllableAt_12 rfl (lv_at hl 2 rfl) ?_
    refine k_Si F w (As := [.ref (B + 148), .int (zI u9)]) (rest := []) (s_X12_isSyllable (a := 148) rfl hW1 hwf1 (t := u9) (by omega)) wgs_X12_94 whs_X12_isSyllable ⟨(Nat.le_of_ble_eq_true rfl), (Nat.le_of_ble_eq_true rfl)⟩ hl.1 rfl (Nat.le_of_ble_eq_true rfl) ⟨Nat.zero_le _, Nat.zero_le _⟩ wdX12_syllableAt_13 (fun r Ma3 H locs hp w => ?_)
    rcases hp with ⟨⟨uu, rfl, huu, rfl⟩ | ⟨nuu, rfl⟩, hMe⟩
    · rw [hMe] at w
      refine z_if_ne (tgt := 21) hx hb (by omega) wdX12_syllableAt_16 (by decide) (fun c4 => ?_) (fun c4 => False.elim (by omega))
      refine lv_aload_n hx hb wdX12_syllableAt_21 rfl (lv_at hl 0 rfl) ?_
      refine f_12_2 F w (a := 146) rfl wtb_102 wdX12_syllableAt_22 ?_
      refine lv_iload_n hx hb wdX12_syllableAt_25 rfl (lv_at hl 2 rfl) ?_
      refine x_Si F w (As := [.ref (B + 148), .int (zI (uu : Int))]) (rest := []) (s_X12_tonesOf (a := 148) rfl hW1 hwf1 (j := uu) (by omega)) wgs_X12_69 whs_X12_tonesOf ⟨(Nat.le_of_ble_eq_true rfl), (Nat.le_of_ble_eq_true rfl)⟩ hl.1 rfl (Nat.le_of_ble_eq_true rfl) ⟨Nat.zero_le _, Nat.zero_le _⟩ wdX12_syllableAt_26 (fun H locs w => ?_)
      have hm4 := tmk_lt (L := o1.2.2) (j := uu) (n := o1.1) (by omega)
      refine lv_istore (lv' := [(4, .int (zI (((tmk o1.2.2 uu o1.1) : Nat) : Int))), (0, .ref (B + 146)), (1, .int (zI (nn : Int))), (2, .int (zI (uu : Int))), (3, .int (zI w9))]) hx hb wdX12_syllableAt_29 hl (by decide) rfl (fun ls hl => ?_)
      refine lv_iload_n hx hb wdX12_syllableAt_31 rfl (lv_at hl 4 rfl) ?_
      rcases (show (w9 : Int) = 0 ∨ (w9 : Int) = 1 ∨ (w9 : Int) = 2 ∨ (w9 : Int) = 3 ∨ (w9 : Int) = 4 ∨ (w9 : Int) = 5 ∨ (w9 ≠ 0 ∧ w9 ≠ 1 ∧ w9 ≠ 2 ∧ w9 ≠ 3 ∧ w9 ≠ 4 ∧ w9 ≠ 5) by omega) with c6 | c6 | c6 | c6 | c6 | c6 | c6
      · refine r_val (v := zI 0) (congrArg zI c6) ?_
        refine lv_tableIn (tgt := 72) hx hb wdX12_syllableAt_32 (by decide) (by decide) (off := 40) rfl (by decide) ?_
        refine lv_aload_n hx hb wdX12_syllableAt_72 rfl (lv_at hl 1 rfl) ?_
        refine f_12_2 F w (a := 146) rfl wtb_102 wdX12_syllableAt_73 ?_
        refine lv_bipush (v := zI 26) hx hb wdX12_syllableAt_76 (by decide) ?_
        refine g_iald F w (a := 148) rfl (j := 26) ⟨by decide, by decide⟩ (by omega) wdX12_syllableAt_78 ?_
        refine r_val (v := (zI (hv : Int))) (hW1.2.2.1) ?_
        refine lv_iload_n hx hb wdX12_syllableAt_79 rfl (lv_at hl 3 rfl) ?_
        refine k_Si F w (As := [.int (zI (hv : Int)), .int (zI (uu : Int))]) (rest := []) (s_X12_isIn (m9 := hv) (k := uu) (by omega) (by omega)) wgs_X12_51 whs_X12_isIn ⟨(Nat.le_of_ble_eq_true rfl), (Nat.le_of_ble_eq_true rfl)⟩ hl.1 rfl (Nat.le_of_ble_eq_true rfl) ⟨Nat.zero_le _, Nat.zero_le _⟩ wdX12_syllableAt_80 (fun r Ma8 H locs hp w => ?_)
        rcases hp with ⟨⟨hb7, rfl⟩ | ⟨hb7, rfl⟩, hMe⟩
        · rw [hMe] at w
          refine z_if_eq (tgt := 90) hx hb (by omega) wdX12_syllableAt_83 (by decide) (fun c9 => False.elim (by omega)) (fun c9 => ?_)
          refine lv_iconst (v := zI 1) hx hb wdX12_syllableAt_86 rfl ?_
          refine lv_goto (tgt := 91) hx hb wdX12_syllableAt_87 (by decide) ?_
          exact e_i F w hr hlocks (congrArg zI ((ofA_y hnn).trans (by rw [← ho1]; exact (sylA_0 huu c6).trans (congrArg _ (tb_h hb7 rfl)))).symm) wdX12_syllableAt_91
        · rw [hMe] at w
          refine z_if_eq (tgt := 90) hx hb (by omega) wdX12_syllableAt_83 (by decide) (fun c10 => ?_) (fun c10 => False.elim (by omega))
          refine lv_iconst (v := zI 0) hx hb wdX12_syllableAt_90 rfl ?_
          exact e_i F w hr hlocks (congrArg zI ((ofA_y hnn).trans (by rw [← ho1]; exact (sylA_0 huu c6).trans (congrArg _ (tb_n hb7 rfl)))).symm) wdX12_syllableAt_91
      · refine r_val (v := zI 1) (congrArg zI c6) ?_
        refine lv_tableIn (tgt := 92) hx hb wdX12_syllableAt_32 (by decide) (by decide) (off := 60) rfl (by decide) ?_
        refine lv_aload_n hx hb wdX12_syllableAt_92 rfl (lv_at hl 1 rfl) ?_
        refine f_12_2 F w (a := 146) rfl wtb_102 wdX12_syllableAt_93 ?_
        refine lv_bipush (v := zI 27) hx hb wdX12_syllableAt_96 (by decide) ?_
        refine g_iald F w (a := 148) rfl (j := 27) ⟨by decide, by decide⟩ (by omega) wdX12_syllableAt_98 ?_
        refine r_val (v := (zI (ed : Int))) (hW1.2.2.2.1) ?_
        refine lv_iload_n hx hb wdX12_syllableAt_99 rfl (lv_at hl 3 rfl) ?_
        refine k_Si F w (As := [.int (zI (ed : Int)), .int (zI (uu : Int))]) (rest := []) (s_X12_isIn (m9 := ed) (k := uu) (by omega) (by omega)) wgs_X12_51 whs_X12_isIn ⟨(Nat.le_of_ble_eq_true rfl), (Nat.le_of_ble_eq_true rfl)⟩ hl.1 rfl (Nat.le_of_ble_eq_true rfl) ⟨Nat.zero_le _, Nat.zero_le _⟩ wdX12_syllableAt_100 (fun r Ma12 H locs hp w => ?_)
        rcases hp with ⟨⟨hb11, rfl⟩ | ⟨hb11, rfl⟩, hMe⟩
        · rw [hMe] at w
          refine z_if_eq (tgt := 110) hx hb (by omega) wdX12_syllableAt_103 (by decide) (fun c13 => False.elim (by omega)) (fun c13 => ?_)
          refine lv_iconst (v := zI 1) hx hb wdX12_syllableAt_106 rfl ?_
          refine lv_goto (tgt := 111) hx hb wdX12_syllableAt_107 (by decide) ?_
          exact e_i F w hr hlocks (congrArg zI ((ofA_y hnn).trans (by rw [← ho1]; exact (sylA_1 huu c6).trans (congrArg _ (tb_h hb11 rfl)))).symm) wdX12_syllableAt_111
        · rw [hMe] at w
          refine z_if_eq (tgt := 110) hx hb (by omega) wdX12_syllableAt_103 (by decide) (fun c14 => ?_) (fun c14 => False.elim (by omega))
          refine lv_iconst (v := zI 0) hx hb wdX12_syllableAt_110 rfl ?_
          exact e_i F w hr hlocks (congrArg zI ((ofA_y hnn).trans (by rw [← ho1]; exact (sylA_1 huu c6).trans (congrArg _ (tb_n hb11 rfl)))).symm) wdX12_syllableAt_111
      · refine r_val (v := zI 2) (congrArg zI c6) ?_
        refine lv_tableIn (tgt := 112) hx hb wdX12_syllableAt_32 (by decide) (by decide) (off := 80) rfl (by decide) ?_
        refine lv_iload hx hb wdX12_syllableAt_112 (lv_at hl 0 rfl) ?_
        refine x_Si F w (As := [.int (zI (((tmk o1.2.2 uu o1.1) : Nat) : Int))]) (rest := []) (s_X12_bitsOf (m9 := (tmk o1.2.2 uu o1.1)) (by omega)) wgs_X12_76 whs_X12_bitsOf ⟨(Nat.le_of_ble_eq_true rfl), (Nat.le_of_ble_eq_true rfl)⟩ hl.1 rfl (Nat.le_of_ble_eq_true rfl) ⟨Nat.zero_le _, Nat.zero_le _⟩ wdX12_syllableAt_114 (fun H locs w => ?_)
        have hp14 := (pop_le (tmk o1.2.2 uu o1.1) (by omega)).1
        exact e_i F w hr hlocks (congrArg zI ((ofA_y hnn).trans (by rw [← ho1]; exact sylA_2 huu c6)).symm) wdX12_syllableAt_117
      · refine r_val (v := zI 3) (congrArg zI c6) ?_
        refine lv_tableIn (tgt := 118) hx hb wdX12_syllableAt_32 (by decide) (by decide) (off := 86) rfl (by decide) ?_
        refine lv_iload hx hb wdX12_syllableAt_118 (lv_at hl 0 rfl) ?_
        refine x_Si F w (As := [.int (zI (((tmk o1.2.2 uu o1.1) : Nat) : Int))]) (rest := []) (s_X12_firstOf (m9 := (tmk o1.2.2 uu o1.1)) (by omega)) wgs_X12_63 whs_X12_firstOf ⟨(Nat.le_of_ble_eq_true rfl), (Nat.le_of_ble_eq_true rfl)⟩ hl.1 rfl (Nat.le_of_ble_eq_true rfl) ⟨Nat.zero_le _, Nat.zero_le _⟩ wdX12_syllableAt_120 (fun H locs w => ?_)
        have hw15 := lowI_rg (tmk o1.2.2 uu o1.1) (by omega)
        refine x_Si F w (As := [.int (zI (lowI (tmk o1.2.2 uu o1.1)))]) (rest := []) (k_orNeither (x9 := (lowI (tmk o1.2.2 uu o1.1))) (by omega)) wgs_X12_285 whs_X12_orNeither ⟨(Nat.le_of_ble_eq_true rfl), (Nat.le_of_ble_eq_true rfl)⟩ hl.1 rfl (Nat.le_of_ble_eq_true rfl) ⟨Nat.zero_le _, Nat.zero_le _⟩ wdX12_syllableAt_123 (fun H locs w => ?_)
        have hon16 := orN_b (lowI (tmk o1.2.2 uu o1.1)) (by omega) (by omega)
        exact e_i F w hr hlocks (congrArg zI ((ofA_y hnn).trans (by rw [← ho1]; exact sylA_3 huu c6)).symm) wdX12_syllableAt_126
      · refine r_val (v := zI 4) (congrArg zI c6) ?_
        refine lv_tableIn (tgt := 127) hx hb wdX12_syllableAt_32 (by decide) (by decide) (off := 95) rfl (by decide) ?_
        refine lv_iload hx hb wdX12_syllableAt_127 (lv_at hl 0 rfl) ?_
        refine x_Si F w (As := [.int (zI (((tmk o1.2.2 uu o1.1) : Nat) : Int))]) (rest := []) (s_X12_lastOf (m9 := (tmk o1.2.2 uu o1.1)) (by omega)) wgs_X12_59 whs_X12_lastOf ⟨(Nat.le_of_ble_eq_true rfl), (Nat.le_of_ble_eq_true rfl)⟩ hl.1 rfl (Nat.le_of_ble_eq_true rfl) ⟨Nat.zero_le _, Nat.zero_le _⟩ wdX12_syllableAt_129 (fun H locs w => ?_)
        have hw17 := higI_rg (tmk o1.2.2 uu o1.1) (by omega)
        refine x_Si F w (As := [.int (zI (higI (tmk o1.2.2 uu o1.1)))]) (rest := []) (k_orNeither (x9 := (higI (tmk o1.2.2 uu o1.1))) (by omega)) wgs_X12_285 whs_X12_orNeither ⟨(Nat.le_of_ble_eq_true rfl), (Nat.le_of_ble_eq_true rfl)⟩ hl.1 rfl (Nat.le_of_ble_eq_true rfl) ⟨Nat.zero_le _, Nat.zero_le _⟩ wdX12_syllableAt_132 (fun H locs w => ?_)
        have hon18 := orN_b (higI (tmk o1.2.2 uu o1.1)) (by omega) (by omega)
        exact e_i F w hr hlocks (congrArg zI ((ofA_y hnn).trans (by rw [← ho1]; exact sylA_4 huu c6)).symm) wdX12_syllableAt_135
      · refine r_val (v := zI 5) (congrArg zI c6) ?_
        refine lv_tableIn (tgt := 136) hx hb wdX12_syllableAt_32 (by decide) (by decide) (off := 104) rfl (by decide) ?_
        refine lv_aload_n hx hb wdX12_syllableAt_136 rfl (lv_at hl 1 rfl) ?_
        refine lv_iload_n hx hb wdX12_syllableAt_137 rfl (lv_at hl 3 rfl) ?_
        refine x_Vi F w (As := [.int (zI (uu : Int))]) (rest := []) (a := 146) (kd_lt (a := 146) (show kd 146 = (12, 0, 0) from rfl) (by decide)) (sh_12 rfl _ _) rfl (k_reading hR (j9 := uu) (by omega)) wgv_X12_288 whv_X12_reading ⟨(Nat.le_of_ble_eq_true rfl), (Nat.le_of_ble_eq_true rfl)⟩ hl.1 rfl (Nat.le_of_ble_eq_true rfl) ⟨Nat.zero_le _, Nat.zero_le _⟩ wdX12_syllableAt_138 (fun H locs w => ?_)
        have hrw := rdW_b (s := uu) hR.2.1
        exact e_i F w hr hlocks (congrArg zI ((ofA_y hnn).trans (by rw [← ho1]; exact sylA_5 huu c6)).symm) wdX12_syllableAt_141
      · refine lv_tableOut (tgt := 142) hx hb wdX12_syllableAt_32 (by rw [zI_toInt (by omega)]; omega) (by decide) ?_
        refine lv_iconst (v := zI (-1)) hx hb wdX12_syllableAt_142 rfl ?_
        exact e_i F w hr hlocks (congrArg zI ((ofA_y hnn).trans (by rw [← ho1]; exact sylA_d huu c6)).symm) wdX12_syllableAt_143
    · rw [hMe] at w
      refine z_if_ne (tgt := 21) hx hb (by omega) wdX12_syllableAt_16 (by decide) (fun c21 => False.elim (by omega)) (fun c21 => ?_)
      refine lv_iconst (v := zI (-1)) hx hb wdX12_syllableAt_19 rfl ?_
      exact e_i F w hr hlocks (congrArg zI ((ofA_y hnn).trans (by rw [← ho1]; exact sylA_n nuu)).symm) wdX12_syllableAt_20
  · refine z_if_eq (tgt := 19) hx hb (by omega) wdX12_syllableAt_5 (by decide) (fun c22 => ?_) (fun c22 => False.elim (by omega))
    refine lv_iconst (v := zI (-1)) hx hb wdX12_syllableAt_19 rfl ?_
    exact e_i F w hr hlocks (congrArg zI (ofA_n hnc).symm) wdX12_syllableAt_20
