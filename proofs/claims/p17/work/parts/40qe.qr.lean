theorem wdX12_reading_7 : decode cX12_reading 7 = .ok (.iload 4, 2) := by decide +kernel
theorem wdX12_reading_9 : decode cX12_reading 9 = .ok (.aload_n 0, 1) := by decide +kernel
theorem wdX12_reading_10 : decode cX12_reading 10 = .ok (.getfield 17, 3) := by decide +kernel
theorem wdX12_reading_13 : decode cX12_reading 13 = .ok (.iconst 0, 1) := by decide +kernel
theorem wdX12_reading_14 : decode cX12_reading 14 = .ok (.iaload, 1) := by decide +kernel
theorem wdX12_reading_15 : decode cX12_reading 15 = .ok (.if_icmp .ge 49, 3) := by decide +kernel
theorem wdX12_reading_18 : decode cX12_reading 18 = .ok (.aload_n 0, 1) := by decide +kernel
theorem wdX12_reading_19 : decode cX12_reading 19 = .ok (.getfield 17, 3) := by decide +kernel
theorem wdX12_reading_22 : decode cX12_reading 22 = .ok (.bipush 13, 2) := by decide +kernel
theorem wdX12_reading_24 : decode cX12_reading 24 = .ok (.iload 4, 2) := by decide +kernel
theorem wdX12_reading_26 : decode cX12_reading 26 = .ok (.iadd, 1) := by decide +kernel
theorem wdX12_reading_27 : decode cX12_reading 27 = .ok (.iaload, 1) := by decide +kernel
theorem wdX12_reading_28 : decode cX12_reading 28 = .ok (.iload_n 1, 1) := by decide +kernel
theorem wdX12_reading_29 : decode cX12_reading 29 = .ok (.invokestatic 51, 3) := by decide +kernel
theorem wdX12_reading_32 : decode cX12_reading 32 = .ok (.ifCond .ne 6, 3) := by decide +kernel
theorem wdX12_reading_38 : decode cX12_reading 38 = .ok (.iload_n 2, 1) := by decide +kernel
theorem wdX12_reading_39 : decode cX12_reading 39 = .ok (.iload_n 3, 1) := by decide +kernel
theorem wdX12_reading_40 : decode cX12_reading 40 = .ok (.aload_n 0, 1) := by decide +kernel
theorem wdX12_reading_41 : decode cX12_reading 41 = .ok (.getfield 17, 3) := by decide +kernel
theorem wdX12_reading_44 : decode cX12_reading 44 = .ok (.iconst 1, 1) := by decide +kernel
theorem wdX12_reading_45 : decode cX12_reading 45 = .ok (.iload 4, 2) := by decide +kernel
theorem wdX12_reading_47 : decode cX12_reading 47 = .ok (.iadd, 1) := by decide +kernel
theorem wdX12_reading_48 : decode cX12_reading 48 = .ok (.iaload, 1) := by decide +kernel
theorem wdX12_reading_49 : decode cX12_reading 49 = .ok (.iconst 1, 1) := by decide +kernel
theorem wdX12_reading_50 : decode cX12_reading 50 = .ok (.iadd, 1) := by decide +kernel
theorem wdX12_reading_51 : decode cX12_reading 51 = .ok (.imul, 1) := by decide +kernel
theorem wdX12_reading_52 : decode cX12_reading 52 = .ok (.iadd, 1) := by decide +kernel
theorem wdX12_reading_53 : decode cX12_reading 53 = .ok (.istore_n 2, 1) := by decide +kernel
theorem wdX12_reading_54 : decode cX12_reading 54 = .ok (.iload_n 3, 1) := by decide +kernel
theorem wdX12_reading_55 : decode cX12_reading 55 = .ok (.iconst 4, 1) := by decide +kernel
theorem wdX12_reading_56 : decode cX12_reading 56 = .ok (.imul, 1) := by decide +kernel
theorem wdX12_reading_57 : decode cX12_reading 57 = .ok (.istore_n 3, 1) := by decide +kernel
theorem wdX12_reading_58 : decode cX12_reading 58 = .ok (.iinc 4 1, 3) := by decide +kernel
theorem wdX12_reading_61 : decode cX12_reading 61 = .ok (.goto (-54), 3) := by decide +kernel
theorem wdX12_reading_35 : decode cX12_reading 35 = .ok (.goto 23, 3) := by decide +kernel
set_option maxRecDepth 4000 in
theorem lp_X12_reading {p : Program} {l : Launch} {e : Env} {s : State} {m : MethodId} {args : Array Value} {below : List Frame} {meth : Method} {c : Code} {D : va_G} {B : Nat} {cy : Nat → ClassId} {H0 : Heap} {Q : State → Prop} {M : Mem} {R : Room} {q hv ed j9 : Nat} {o : Wo} {z9 : Int} (F : CallFix p m c cX12_reading 5 s args TB RX12) (hR1 : 1 ≤ R.frames) (hR2 : 21 ≤ R.locals) (hR : RW M q hv ed o z9) (hj9 : j9 < 12) (kk : ∀ (t : Nat) (al : Nat) (by9 : Nat) (H : Heap) (locs : List Loc) (ls : Array Slot), (al = rdW9 o j9) → Wd D B cy s H0 M H locs → lv_has ls 5 [(2, .int (zI (al : Int)))] → W p l e R s m args below meth c H locs 0 0 Q (F0 m 64 ls [])) : ∀ (f : Nat) (t : Nat) (al : Nat) (by9 : Nat), (t ≤ o.1) → (rdI9 o.2.1 o.2.2 j9 o.1 t al by9) → (o.1 ≤ t + f) → ∀ (H : Heap) (locs : List Loc) (ls : Array Slot), Wd D B cy s H0 M H locs → lv_has ls 5 [(4, .int (zI (t : Int))), (3, .int (zI (by9 : Int))), (2, .int (zI (al : Int))), (0, .ref (B + 146)), (1, .int (zI (j9 : Int)))] → W p l e R s m args below meth c H locs 0 0 Q (F0 m 7 ls []) := by
  have hx := F.1
  have hb := F.2.1
  have hW := hR.1
  have hwf := hR.wf
  have hKL := hwf.2.2.2.2
  have hn12 := hwf.1
  have hq12 := hwf.2.1
  have hhv := hwf.2.2.1
  have hed := hwf.2.2.2.1
  have hc := hR.2.2.2.2
  intro f
  induction f with
  | zero =>
    intro t al by9 i0 i1 hf H locs ls w hl
    have hrb := rdI_b i1 hn12 i0 (fun j hj => (hKL j hj).1)
    refine lv_iload hx hb wdX12_reading_7 (lv_at hl 0 rfl) ?_
    refine lv_aload_n hx hb wdX12_reading_9 rfl (lv_at hl 3 rfl) ?_
    refine f_12_2 F w (a := 146) rfl wtb_102 wdX12_reading_10 ?_
    refine lv_iconst (v := zI 0) hx hb wdX12_reading_13 rfl ?_
    refine g_iald F w (a := 148) rfl (j := 0) ⟨by decide, by decide⟩ (by omega) wdX12_reading_14 ?_
    refine r_val (v := (zI ((o.1 : Nat) : Int))) (hW.1) ?_
    refine z_icmp_ge (tgt := 64) hx hb (by omega) (by omega) wdX12_reading_15 (by decide) (fun c1 => ?_) (fun c1 => False.elim (by omega))
    exact kk t al by9 _ _ ls (rdI_e (by rw [show t = o.1 by omega] at i1; exact i1)) w (lv_sub hl [2] rfl)
  | succ f ih =>
    intro t al by9 i0 i1 hf H locs ls w hl
    have hrb := rdI_b i1 hn12 i0 (fun j hj => (hKL j hj).1)
    refine lv_iload hx hb wdX12_reading_7 (lv_at hl 0 rfl) ?_
    refine lv_aload_n hx hb wdX12_reading_9 rfl (lv_at hl 3 rfl) ?_
    refine f_12_2 F w (a := 146) rfl wtb_102 wdX12_reading_10 ?_
    refine lv_iconst (v := zI 0) hx hb wdX12_reading_13 rfl ?_
    refine g_iald F w (a := 148) rfl (j := 0) ⟨by decide, by decide⟩ (by omega) wdX12_reading_14 ?_
    refine r_val (v := (zI ((o.1 : Nat) : Int))) (hW.1) ?_
    refine z_icmp_ge (tgt := 64) hx hb (by omega) (by omega) wdX12_reading_15 (by decide) (fun c1 => ?_) (fun c1 => ?_)
    · exact kk t al by9 _ _ ls (rdI_e (by rw [show t = o.1 by omega] at i1; exact i1)) w (lv_sub hl [2] rfl)
    · refine lv_aload_n hx hb wdX12_reading_18 rfl (lv_at hl 3 rfl) ?_
      refine f_12_2 F w (a := 146) rfl wtb_102 wdX12_reading_19 ?_
      refine lv_bipush (v := zI 13) hx hb wdX12_reading_22 (by decide) ?_
      refine lv_iload hx hb wdX12_reading_24 (lv_at hl 0 rfl) ?_
      refine z_iadd (z := (((13 + t) : Nat) : Int)) hx hb wdX12_reading_26 (by omega) ?_
      refine g_iald F w (a := 148) rfl (j := (13 + t)) (ix_n (by omega)) (by omega) wdX12_reading_27 ?_
      have hL1 := (hKL t (by omega)).2
      refine r_val (v := (zI (((o.2.2 t) : Nat) : Int))) (hW.2.2.2.2.2 t (by omega)) ?_
      refine lv_iload_n hx hb wdX12_reading_28 rfl (lv_at hl 4 rfl) ?_
      refine k_Si F w (As := [.int (zI (((o.2.2 t) : Nat) : Int)), .int (zI (j9 : Int))]) (rest := []) (s_X12_isIn (m9 := (o.2.2 t)) (k := j9) (by omega) (by omega)) wgs_X12_51 whs_X12_isIn ⟨(by omega), (by omega)⟩ hl.1 rfl (Nat.le_of_ble_eq_true rfl) ⟨Nat.zero_le _, Nat.zero_le _⟩ wdX12_reading_29 (fun r Ma3 H locs hp w => ?_)
      rcases hp with ⟨⟨hb2, rfl⟩ | ⟨hb2, rfl⟩, hMe⟩
      · rw [hMe] at w
        refine z_if_ne (tgt := 38) hx hb (by omega) wdX12_reading_32 (by decide) (fun c4 => ?_) (fun c4 => False.elim (by omega))
        refine lv_iload_n hx hb wdX12_reading_38 rfl (lv_at hl 2 rfl) ?_
        refine lv_iload_n hx hb wdX12_reading_39 rfl (lv_at hl 1 rfl) ?_
        refine lv_aload_n hx hb wdX12_reading_40 rfl (lv_at hl 3 rfl) ?_
        refine f_12_2 F w (a := 146) rfl wtb_102 wdX12_reading_41 ?_
        refine lv_iconst (v := zI 1) hx hb wdX12_reading_44 rfl ?_
        refine lv_iload hx hb wdX12_reading_45 (lv_at hl 0 rfl) ?_
        refine z_iadd (z := (((1 + t) : Nat) : Int)) hx hb wdX12_reading_47 (by omega) ?_
        refine g_iald F w (a := 148) rfl (j := (1 + t)) (ix_n (by omega)) (by omega) wdX12_reading_48 ?_
        have hK4 := (hKL t (by omega)).1
        refine r_val (v := (zI (((o.2.1 t) : Nat) : Int))) (hW.2.2.2.2.1 t (by omega)) ?_
        refine lv_iconst (v := zI 1) hx hb wdX12_reading_49 rfl ?_
        refine z_iadd (z := ((((o.2.1 t) + 1) : Nat) : Int)) hx hb wdX12_reading_50 (by omega) ?_
        refine lv_imul hx hb wdX12_reading_51 ?_
        obtain ⟨pv, hpv⟩ : ∃ pv : Nat, pv = by9 * (o.2.1 t + 1) := ⟨_, rfl⟩
        have hpb := hrb.2.2 pv hpv (by omega)
        refine r_val (v := zI (pv : Int)) (mul_zz (a := by9) (b := o.2.1 t + 1) (congrArg _ hpv)) ?_
        refine z_iadd (z := (((al + pv) : Nat) : Int)) hx hb wdX12_reading_52 (by omega) ?_
        refine lv_istore_n (lv' := [(2, .int (zI (((al + pv) : Nat) : Int))), (4, .int (zI (t : Int))), (3, .int (zI (by9 : Int))), (0, .ref (B + 146)), (1, .int (zI (j9 : Int)))]) hx hb wdX12_reading_53 rfl hl (by decide) rfl (fun ls hl => ?_)
        refine lv_iload_n hx hb wdX12_reading_54 rfl (lv_at hl 2 rfl) ?_
        refine lv_iconst (v := zI 4) hx hb wdX12_reading_55 rfl ?_
        refine z_imul (z := (((by9 * 4) : Nat) : Int)) hx hb wdX12_reading_56 (by omega) ?_
        refine lv_istore_n (lv' := [(3, .int (zI (((by9 * 4) : Nat) : Int))), (2, .int (zI (((al + pv) : Nat) : Int))), (4, .int (zI (t : Int))), (0, .ref (B + 146)), (1, .int (zI (j9 : Int)))]) hx hb wdX12_reading_57 rfl hl (by decide) rfl (fun ls hl => ?_)
        refine z_iinc (v := (((t + 1) : Nat) : Int)) (lv' := [(4, .int (zI (((t + 1) : Nat) : Int))), (3, .int (zI (((by9 * 4) : Nat) : Int))), (2, .int (zI (((al + pv) : Nat) : Int))), (0, .ref (B + 146)), (1, .int (zI (j9 : Int)))]) hx hb wdX12_reading_58 hl (k := 2) rfl (by omega) (by decide) rfl (fun ls hl => ?_)
        refine lv_goto (tgt := 7) hx hb wdX12_reading_61 (by decide) ?_
        exact ih (t + 1) (al + pv) (by9 * 4) (by omega) (rdI9_y i1 (by omega) hb2 hpv) (by omega) _ _ ls w (lv_sub hl [0, 1, 2, 3, 4] rfl)
      · rw [hMe] at w
        refine z_if_ne (tgt := 38) hx hb (by omega) wdX12_reading_32 (by decide) (fun c5 => False.elim (by omega)) (fun c5 => ?_)
        refine lv_goto (tgt := 58) hx hb wdX12_reading_35 (by decide) ?_
        refine z_iinc (v := (((t + 1) : Nat) : Int)) (lv' := [(4, .int (zI (((t + 1) : Nat) : Int))), (3, .int (zI (by9 : Int))), (2, .int (zI (al : Int))), (0, .ref (B + 146)), (1, .int (zI (j9 : Int)))]) hx hb wdX12_reading_58 hl (k := 0) rfl (by omega) (by decide) rfl (fun ls hl => ?_)
        refine lv_goto (tgt := 7) hx hb wdX12_reading_61 (by decide) ?_
        exact ih (t + 1) al by9 (by omega) (rdI9_n i1 (by omega) hb2) (by omega) _ _ ls w (lv_sub hl [0, 1, 2, 3, 4] rfl)
theorem wdX12_reading_0 : decode cX12_reading 0 = .ok (.iconst 0, 1) := by decide +kernel
theorem wdX12_reading_1 : decode cX12_reading 1 = .ok (.istore_n 2, 1) := by decide +kernel
theorem wdX12_reading_2 : decode cX12_reading 2 = .ok (.iconst 1, 1) := by decide +kernel
theorem wdX12_reading_3 : decode cX12_reading 3 = .ok (.istore_n 3, 1) := by decide +kernel
theorem wdX12_reading_4 : decode cX12_reading 4 = .ok (.iconst 0, 1) := by decide +kernel
theorem wdX12_reading_5 : decode cX12_reading 5 = .ok (.istore 4, 2) := by decide +kernel
theorem wdX12_reading_64 : decode cX12_reading 64 = .ok (.iload_n 2, 1) := by decide +kernel
theorem wdX12_reading_65 : decode cX12_reading 65 = .ok (.ireturn, 1) := by decide +kernel
set_option maxRecDepth 4000 in
theorem k_reading {l : Launch} {D : va_G} {B : Nat} {cy : Nat → ClassId} {M : Mem} {q hv ed : Nat} {o : Wo} {z9 : Int} (hR : RW M q hv ed o z9) {j9 : Nat} (hj9 : j9 < 12) : Ci l D B cy yX12_reading cX12_reading 5 (some .int) 1 21 [.ref (B + 146), .int (zI (j9 : Int))] M (fun r M1 => r = zI ((rdW9 o j9 : Nat) : Int) ∧ M1 = M) := by
  refine s_any (by decide) (Nat.le_of_ble_eq_true rfl) ?_
  intro p e s m below meth c ls F hr hlocks w hl
  have F : CallFix p m c cX12_reading 5 s _ TB RX12 := F
  have hx := F.1
  have hb := F.2.1
  have hl : lv_has ls 5 [(0, .ref (B + 146)), (1, .int (zI (j9 : Int)))] := hl
  have hW := hR.1
  have hwf := hR.wf
  have hKL := hwf.2.2.2.2
  have hn12 := hwf.1
  have hq12 := hwf.2.1
  have hhv := hwf.2.2.1
  have hed := hwf.2.2.2.1
  have hc := hR.2.2.2.2
  have hrw := rdW_b (s := j9) hR.2.1
  refine lv_iconst (v := zI 0) hx hb wdX12_reading_0 rfl ?_
  refine lv_istore_n (lv' := [(2, .int (zI 0)), (0, .ref (B + 146)), (1, .int (zI (j9 : Int)))]) hx hb wdX12_reading_1 rfl hl (by decide) rfl (fun ls hl => ?_)
  refine lv_iconst (v := zI 1) hx hb wdX12_reading_2 rfl ?_
  refine lv_istore_n (lv' := [(3, .int (zI 1)), (2, .int (zI 0)), (0, .ref (B + 146)), (1, .int (zI (j9 : Int)))]) hx hb wdX12_reading_3 rfl hl (by decide) rfl (fun ls hl => ?_)
  refine lv_iconst (v := zI 0) hx hb wdX12_reading_4 rfl ?_
  refine lv_istore (lv' := [(4, .int (zI 0)), (3, .int (zI 1)), (2, .int (zI 0)), (0, .ref (B + 146)), (1, .int (zI (j9 : Int)))]) hx hb wdX12_reading_5 hl (by decide) rfl (fun ls hl => ?_)
  refine lp_X12_reading  F (Nat.le_of_ble_eq_true rfl) (Nat.le_of_ble_eq_true rfl) hR hj9 (fun t al by9 H locs ls x0 w hl => ?_) o.1 0 0 1 (by omega) rdI_0 (by omega) _ _ ls w (lv_sub hl [0, 1, 2, 3, 4] rfl)
  rw [x0] at hl
  refine lv_iload_n hx hb wdX12_reading_64 rfl (lv_at hl 0 rfl) ?_
  exact e_i F w hr hlocks ⟨rfl, rfl⟩ wdX12_reading_65
theorem wdX12_lays_0 : decode cX12_lays 0 = .ok (.iload_n 1, 1) := by decide +kernel
theorem wdX12_lays_1 : decode cX12_lays 1 = .ok (.iconst 0, 1) := by decide +kernel
theorem wdX12_lays_2 : decode cX12_lays 2 = .ok (.aload_n 0, 1) := by decide +kernel
theorem wdX12_lays_3 : decode cX12_lays 3 = .ok (.getfield 239, 3) := by decide +kernel
theorem wdX12_lays_6 : decode cX12_lays 6 = .ok (.invokestatic 55, 3) := by decide +kernel
theorem wdX12_lays_9 : decode cX12_lays 9 = .ok (.ifCond .ne 5, 3) := by decide +kernel
theorem wdX12_lays_14 : decode cX12_lays 14 = .ok (.aload_n 0, 1) := by decide +kernel
theorem wdX12_lays_15 : decode cX12_lays 15 = .ok (.iload_n 1, 1) := by decide +kernel
theorem wdX12_lays_16 : decode cX12_lays 16 = .ok (.invokevirtual 255, 3) := by decide +kernel
theorem wdX12_lays_19 : decode cX12_lays 19 = .ok (.pop, 1) := by decide +kernel
theorem wdX12_lays_20 : decode cX12_lays 20 = .ok (.iconst 1, 1) := by decide +kernel
theorem wdX12_lays_21 : decode cX12_lays 21 = .ok (.ireturn, 1) := by decide +kernel
theorem wdX12_lays_12 : decode cX12_lays 12 = .ok (.iconst 0, 1) := by decide +kernel
theorem wdX12_lays_13 : decode cX12_lays 13 = .ok (.ireturn, 1) := by decide +kernel
set_option maxRecDepth 4000 in
theorem m_lays {l : Launch} {D : va_G} {B : Nat} {cy : Nat → ClassId} {M : Mem} {Ps : Nat → Nat → Int} {mr k q hv ed : Nat} {o : Wo} {Hs : Nat → Fw} (hS : MS M Ps mr (q, hv, ed, o) Hs k) {n9 : Int} (hn9 : rg n9) : Ci l D B cy yX12_lays cX12_lays 2 (some .boolean) 9 212 [.ref (B + 146), .int (zI n9)] M (fun r M1 => (∃ nn : Nat, n9 = (nn : Int) ∧ nn ≤ mr ∧ r = zI 1 ∧ ∃ z, RW M1 q hv ed (sg9 Ps (q, hv, ed, o) nn) z) ∨ (¬ (0 ≤ n9 ∧ n9 ≤ (mr : Int)) ∧ r = zI 0)) := by
  refine s_any (by decide) (Nat.le_of_ble_eq_true rfl) ?_
  intro p e s m below meth c ls F hr hlocks w hl
  have F : CallFix p m c cX12_lays 2 s _ TB RX12 := F
  have hx := F.1
  have hb := F.2.1
  have hl : lv_has ls 2 [(0, .ref (B + 146)), (1, .int (zI n9))] := hl
  have hm8 := hS.1.1
  have hk12 := hS.2.2.2.2.1
  have hC : TW M q hv ed o := hS.T
  have hW : isR M 147 o.1 q hv ed o.2.1 o.2.2 := hC.1
  have hwf := hC.wf
  have hKL := hwf.2.2.2.2
  have hn12 := hwf.1
  have hq12 := hwf.2.1
  have hhv := hwf.2.2.1
  have hed := hwf.2.2.2.1
  refine lv_iload_n hx hb wdX12_lays_0 rfl (lv_at hl 1 rfl) ?_
  refine lv_iconst (v := zI 0) hx hb wdX12_lays_1 rfl ?_
  refine lv_aload_n hx hb wdX12_lays_2 rfl (lv_at hl 0 rfl) ?_
  refine f_12_5 F w (a := 146) rfl wtb_291 wdX12_lays_3 ?_
  refine r_val (v := (zI (mr : Int))) (hS.2.1) ?_
  refine k_Si F w (As := [.int (zI n9), .int (zI 0), .int (zI (mr : Int))]) (rest := []) (s_X12_in (v := n9) (a := 0) (b := (mr : Int)) (by omega) (by omega) (by omega)) wgs_X12_55 whs_X12_in ⟨(Nat.le_of_ble_eq_true rfl), (Nat.le_of_ble_eq_true rfl)⟩ hl.1 rfl (Nat.le_of_ble_eq_true rfl) ⟨Nat.zero_le _, Nat.zero_le _⟩ wdX12_lays_6 (fun r Ma2 H locs hp w => ?_)
  rcases hp with ⟨⟨hb1, rfl⟩ | ⟨hb1, rfl⟩, hMe⟩
  · rw [hMe] at w
    refine z_if_ne (tgt := 14) hx hb (by omega) wdX12_lays_9 (by decide) (fun c3 => ?_) (fun c3 => False.elim (by omega))
    obtain ⟨nn, rfl⟩ : ∃ n8 : Nat, n9 = (n8 : Int) := ⟨Int.toNat n9, by omega⟩
    refine lv_aload_n hx hb wdX12_lays_14 rfl (lv_at hl 0 rfl) ?_
    refine lv_iload_n hx hb wdX12_lays_15 rfl (lv_at hl 1 rfl) ?_
    refine k_Vi F w (As := [.int (zI (nn : Int))]) (rest := []) (a := 146) (kd_lt (a := 146) (show kd 146 = (12, 0, 0) from rfl) (by decide)) (sh_12 rfl _ _) rfl (s_X12_derives hC hS.1 (n9 := nn) (by omega)) wgv_X12_255 whv_X12_derives ⟨(Nat.le_of_ble_eq_true rfl), (Nat.le_of_ble_eq_true rfl)⟩ hl.1 rfl (Nat.le_of_ble_eq_true rfl) ⟨Nat.zero_le _, Nat.zero_le _⟩ wdX12_lays_16 (fun r Ma4 H locs hp w => ?_)
    rcases hp with ⟨oT, dT, eT, rfl, ⟨zT, hRT⟩, hFT, hdT⟩
    refine lv_pop hx hb wdX12_lays_19 rfl ?_
    refine lv_iconst (v := zI 1) hx hb wdX12_lays_20 rfl ?_
    exact e_z F w hr hlocks (nar_z (by omega)) (Or.inl ⟨nn, rfl, by omega, rfl, zT, by rw [show sg9 Ps (q, hv, ed, o) nn = oT from congrArg Prod.fst eT]; exact hRT⟩) wdX12_lays_21
  · rw [hMe] at w
    refine z_if_ne (tgt := 14) hx hb (by omega) wdX12_lays_9 (by decide) (fun c5 => False.elim (by omega)) (fun c5 => ?_)
    refine lv_iconst (v := zI 0) hx hb wdX12_lays_12 rfl ?_
    exact e_z F w hr hlocks (nar_z (by omega)) (Or.inr ⟨by omega, rfl⟩) wdX12_lays_13
theorem wdX12_has_0 : decode cX12_has 0 = .ok (.aload_n 0, 1) := by decide +kernel
theorem wdX12_has_1 : decode cX12_has 1 = .ok (.iload_n 1, 1) := by decide +kernel
theorem wdX12_has_2 : decode cX12_has 2 = .ok (.invokevirtual 261, 3) := by decide +kernel
theorem wtk_X12_lays : Cond.code yX12_lays cX12_lays 2 (some .boolean) ∈ TB := tbm (tc6 (List.mem_of_getElem? (i := 153) rfl)) rfl
theorem wgc_X12_lays : GoodIn TB (cw yX12_lays cX12_lays 2 (some .boolean)) := goodIn_c2 wtk_X12_lays
theorem wtb_337 : Cond.methodLink "ToneLinesModel" 261 yX12_lays ∈ TB := tbm (tc6 (List.mem_of_getElem? (i := 150) rfl)) rfl
theorem wtb_338 : Cond.instanceMethod yX12_lays ∈ TB := tbm (tc6 (List.mem_of_getElem? (i := 152) rfl)) rfl
theorem wtb_339 : Cond.selects "ToneLinesModel" yX12_lays yX12_lays ∈ TB := tbp (List.mem_of_getElem? (i := 72) rfl) rfl
theorem wgv_X12_261 : GoodIn TB (wsV RX12 261 RX12 yX12_lays (cw yX12_lays cX12_lays 2 (some .boolean))) := goodIn_4 wtb_337 wtb_338 wtb_339 wtb_105 wgc_X12_lays
theorem whv_X12_lays : yX12_lays.cls = RX12 ∧ yX12_lays.cls ≠ "java/lang/invoke/MethodHandle" ∧ yX12_lays.cls ≠ "java/lang/invoke/VarHandle" ∧ (parseMethodDescriptor yX12_lays.desc).map (fun d => d.parameters.length) = some 1 := by decide +kernel
theorem wdX12_has_5 : decode cX12_has 5 = .ok (.ifCond .ne 5, 3) := by decide +kernel
theorem wdX12_has_10 : decode cX12_has 10 = .ok (.iload_n 2, 1) := by decide +kernel
theorem wdX12_has_11 : decode cX12_has 11 = .ok (.tableswitch 107 0 8 #[49, 56, 64, 69, 74, 79, 92, 97, 102], 49) := by decide +kernel
theorem wdX12_has_60 : decode cX12_has 60 = .ok (.aload_n 0, 1) := by decide +kernel
theorem wdX12_has_61 : decode cX12_has 61 = .ok (.getfield 17, 3) := by decide +kernel
theorem wdX12_has_64 : decode cX12_has 64 = .ok (.iconst 0, 1) := by decide +kernel
theorem wdX12_has_65 : decode cX12_has 65 = .ok (.iaload, 1) := by decide +kernel
theorem wdX12_has_66 : decode cX12_has 66 = .ok (.ireturn, 1) := by decide +kernel
theorem wdX12_has_67 : decode cX12_has 67 = .ok (.aload_n 0, 1) := by decide +kernel
theorem wdX12_has_68 : decode cX12_has 68 = .ok (.getfield 17, 3) := by decide +kernel
theorem wdX12_has_71 : decode cX12_has 71 = .ok (.bipush 25, 2) := by decide +kernel
theorem wdX12_has_73 : decode cX12_has 73 = .ok (.iaload, 1) := by decide +kernel
theorem wdX12_has_74 : decode cX12_has 74 = .ok (.ireturn, 1) := by decide +kernel
theorem wdX12_has_75 : decode cX12_has 75 = .ok (.aload_n 0, 1) := by decide +kernel
theorem wdX12_has_76 : decode cX12_has 76 = .ok (.invokevirtual 264, 3) := by decide +kernel
theorem wtk_X12_lines : Cond.code yX12_lines cX12_lines 3 (some .int) ∈ TB := tbm (tc6 (List.mem_of_getElem? (i := 157) rfl)) rfl
theorem wgc_X12_lines : GoodIn TB (cw yX12_lines cX12_lines 3 (some .int)) := goodIn_c2 wtk_X12_lines
theorem wtb_340 : Cond.methodLink "ToneLinesModel" 264 yX12_lines ∈ TB := tbm (tc6 (List.mem_of_getElem? (i := 154) rfl)) rfl
theorem wtb_341 : Cond.instanceMethod yX12_lines ∈ TB := tbm (tc6 (List.mem_of_getElem? (i := 156) rfl)) rfl
theorem wtb_342 : Cond.selects "ToneLinesModel" yX12_lines yX12_lines ∈ TB := tbp (List.mem_of_getElem? (i := 73) rfl) rfl
theorem wgv_X12_264 : GoodIn TB (wsV RX12 264 RX12 yX12_lines (cw yX12_lines cX12_lines 3 (some .int))) := goodIn_4 wtb_340 wtb_341 wtb_342 wtb_105 wgc_X12_lines
theorem whv_X12_lines : yX12_lines.cls = RX12 ∧ yX12_lines.cls ≠ "java/lang/invoke/MethodHandle" ∧ yX12_lines.cls ≠ "java/lang/invoke/VarHandle" ∧ (parseMethodDescriptor yX12_lines.desc).map (fun d => d.parameters.length) = some 0 := by decide +kernel
theorem wdX12_has_79 : decode cX12_has 79 = .ok (.ireturn, 1) := by decide +kernel
theorem wdX12_has_80 : decode cX12_has 80 = .ok (.aload_n 0, 1) := by decide +kernel
theorem wdX12_has_81 : decode cX12_has 81 = .ok (.invokevirtual 267, 3) := by decide +kernel
theorem wtk_X12_floating : Cond.code yX12_floating cX12_floating 3 (some .int) ∈ TB := tbm (tc6 (List.mem_of_getElem? (i := 161) rfl)) rfl
theorem wgc_X12_floating : GoodIn TB (cw yX12_floating cX12_floating 3 (some .int)) := goodIn_c2 wtk_X12_floating
theorem wtb_343 : Cond.methodLink "ToneLinesModel" 267 yX12_floating ∈ TB := tbm (tc6 (List.mem_of_getElem? (i := 158) rfl)) rfl
theorem wtb_344 : Cond.instanceMethod yX12_floating ∈ TB := tbm (tc6 (List.mem_of_getElem? (i := 160) rfl)) rfl
theorem wtb_345 : Cond.selects "ToneLinesModel" yX12_floating yX12_floating ∈ TB := tbp (List.mem_of_getElem? (i := 74) rfl) rfl
theorem wgv_X12_267 : GoodIn TB (wsV RX12 267 RX12 yX12_floating (cw yX12_floating cX12_floating 3 (some .int))) := goodIn_4 wtb_343 wtb_344 wtb_345 wtb_105 wgc_X12_floating
theorem whv_X12_floating : yX12_floating.cls = RX12 ∧ yX12_floating.cls ≠ "java/lang/invoke/MethodHandle" ∧ yX12_floating.cls ≠ "java/lang/invoke/VarHandle" ∧ (parseMethodDescriptor yX12_floating.desc).map (fun d => d.parameters.length) = some 0 := by decide +kernel
theorem wdX12_has_84 : decode cX12_has 84 = .ok (.ireturn, 1) := by decide +kernel
theorem wdX12_has_85 : decode cX12_has 85 = .ok (.aload_n 0, 1) := by decide +kernel
theorem wdX12_has_86 : decode cX12_has 86 = .ok (.invokevirtual 270, 3) := by decide +kernel
theorem wtk_X12_bare : Cond.code yX12_bare cX12_bare 3 (some .int) ∈ TB := tbm (tc6 (List.mem_of_getElem? (i := 165) rfl)) rfl
theorem wgc_X12_bare : GoodIn TB (cw yX12_bare cX12_bare 3 (some .int)) := goodIn_c2 wtk_X12_bare
theorem wtb_346 : Cond.methodLink "ToneLinesModel" 270 yX12_bare ∈ TB := tbm (tc6 (List.mem_of_getElem? (i := 162) rfl)) rfl
theorem wtb_347 : Cond.instanceMethod yX12_bare ∈ TB := tbm (tc6 (List.mem_of_getElem? (i := 164) rfl)) rfl
theorem wtb_348 : Cond.selects "ToneLinesModel" yX12_bare yX12_bare ∈ TB := tbp (List.mem_of_getElem? (i := 75) rfl) rfl
theorem wgv_X12_270 : GoodIn TB (wsV RX12 270 RX12 yX12_bare (cw yX12_bare cX12_bare 3 (some .int))) := goodIn_4 wtb_346 wtb_347 wtb_348 wtb_105 wgc_X12_bare
theorem whv_X12_bare : yX12_bare.cls = RX12 ∧ yX12_bare.cls ≠ "java/lang/invoke/MethodHandle" ∧ yX12_bare.cls ≠ "java/lang/invoke/VarHandle" ∧ (parseMethodDescriptor yX12_bare.desc).map (fun d => d.parameters.length) = some 0 := by decide +kernel
theorem wdX12_has_89 : decode cX12_has 89 = .ok (.ireturn, 1) := by decide +kernel
theorem wdX12_has_90 : decode cX12_has 90 = .ok (.aload_n 0, 1) := by decide +kernel
theorem wdX12_has_91 : decode cX12_has 91 = .ok (.aload_n 0, 1) := by decide +kernel
theorem wdX12_has_92 : decode cX12_has 92 = .ok (.getfield 17, 3) := by decide +kernel
theorem wdX12_has_95 : decode cX12_has 95 = .ok (.iconst 0, 1) := by decide +kernel
theorem wdX12_has_96 : decode cX12_has 96 = .ok (.iaload, 1) := by decide +kernel
theorem wdX12_has_97 : decode cX12_has 97 = .ok (.iconst 1, 1) := by decide +kernel
theorem wdX12_has_98 : decode cX12_has 98 = .ok (.isub, 1) := by decide +kernel
theorem wdX12_has_99 : decode cX12_has 99 = .ok (.invokevirtual 273, 3) := by decide +kernel
theorem wtk_X12_fallsTo : Cond.code yX12_fallsTo cX12_fallsTo 4 (some .int) ∈ TB := tbm (tc6 (List.mem_of_getElem? (i := 169) rfl)) rfl
theorem wgc_X12_fallsTo : GoodIn TB (cw yX12_fallsTo cX12_fallsTo 4 (some .int)) := goodIn_c2 wtk_X12_fallsTo
theorem wtb_349 : Cond.methodLink "ToneLinesModel" 273 yX12_fallsTo ∈ TB := tbm (tc6 (List.mem_of_getElem? (i := 166) rfl)) rfl
theorem wtb_350 : Cond.instanceMethod yX12_fallsTo ∈ TB := tbm (tc6 (List.mem_of_getElem? (i := 168) rfl)) rfl
theorem wtb_351 : Cond.selects "ToneLinesModel" yX12_fallsTo yX12_fallsTo ∈ TB := tbp (List.mem_of_getElem? (i := 76) rfl) rfl
theorem wgv_X12_273 : GoodIn TB (wsV RX12 273 RX12 yX12_fallsTo (cw yX12_fallsTo cX12_fallsTo 4 (some .int))) := goodIn_4 wtb_349 wtb_350 wtb_351 wtb_105 wgc_X12_fallsTo
theorem whv_X12_fallsTo : yX12_fallsTo.cls = RX12 ∧ yX12_fallsTo.cls ≠ "java/lang/invoke/MethodHandle" ∧ yX12_fallsTo.cls ≠ "java/lang/invoke/VarHandle" ∧ (parseMethodDescriptor yX12_fallsTo.desc).map (fun d => d.parameters.length) = some 1 := by decide +kernel
theorem wdX12_has_102 : decode cX12_has 102 = .ok (.ireturn, 1) := by decide +kernel
theorem wdX12_has_103 : decode cX12_has 103 = .ok (.aload_n 0, 1) := by decide +kernel
theorem wdX12_has_104 : decode cX12_has 104 = .ok (.invokevirtual 276, 3) := by decide +kernel
theorem wtk_X12_mostTones : Cond.code yX12_mostTones cX12_mostTones 3 (some .int) ∈ TB := tbm (tc6 (List.mem_of_getElem? (i := 177) rfl)) rfl
theorem wgc_X12_mostTones : GoodIn TB (cw yX12_mostTones cX12_mostTones 3 (some .int)) := goodIn_c2 wtk_X12_mostTones
theorem wtb_352 : Cond.methodLink "ToneLinesModel" 276 yX12_mostTones ∈ TB := tbm (tc6 (List.mem_of_getElem? (i := 174) rfl)) rfl
theorem wtb_353 : Cond.instanceMethod yX12_mostTones ∈ TB := tbm (tc6 (List.mem_of_getElem? (i := 176) rfl)) rfl
theorem wtb_354 : Cond.selects "ToneLinesModel" yX12_mostTones yX12_mostTones ∈ TB := tbp (List.mem_of_getElem? (i := 78) rfl) rfl
theorem wgv_X12_276 : GoodIn TB (wsV RX12 276 RX12 yX12_mostTones (cw yX12_mostTones cX12_mostTones 3 (some .int))) := goodIn_4 wtb_352 wtb_353 wtb_354 wtb_105 wgc_X12_mostTones
theorem whv_X12_mostTones : yX12_mostTones.cls = RX12 ∧ yX12_mostTones.cls ≠ "java/lang/invoke/MethodHandle" ∧ yX12_mostTones.cls ≠ "java/lang/invoke/VarHandle" ∧ (parseMethodDescriptor yX12_mostTones.desc).map (fun d => d.parameters.length) = some 0 := by decide +kernel
theorem wdX12_has_107 : decode cX12_has 107 = .ok (.ireturn, 1) := by decide +kernel
theorem wdX12_has_108 : decode cX12_has 108 = .ok (.aload_n 0, 1) := by decide +kernel
theorem wdX12_has_109 : decode cX12_has 109 = .ok (.invokevirtual 279, 3) := by decide +kernel
theorem wtk_X12_mostSyllables : Cond.code yX12_mostSyllables cX12_mostSyllables 3 (some .int) ∈ TB := tbm (tc6 (List.mem_of_getElem? (i := 181) rfl)) rfl
theorem wgc_X12_mostSyllables : GoodIn TB (cw yX12_mostSyllables cX12_mostSyllables 3 (some .int)) := goodIn_c2 wtk_X12_mostSyllables
theorem wtb_355 : Cond.methodLink "ToneLinesModel" 279 yX12_mostSyllables ∈ TB := tbm (tc6 (List.mem_of_getElem? (i := 178) rfl)) rfl
theorem wtb_356 : Cond.instanceMethod yX12_mostSyllables ∈ TB := tbm (tc6 (List.mem_of_getElem? (i := 180) rfl)) rfl
theorem wtb_357 : Cond.selects "ToneLinesModel" yX12_mostSyllables yX12_mostSyllables ∈ TB := tbp (List.mem_of_getElem? (i := 79) rfl) rfl
theorem wgv_X12_279 : GoodIn TB (wsV RX12 279 RX12 yX12_mostSyllables (cw yX12_mostSyllables cX12_mostSyllables 3 (some .int))) := goodIn_4 wtb_355 wtb_356 wtb_357 wtb_105 wgc_X12_mostSyllables
theorem whv_X12_mostSyllables : yX12_mostSyllables.cls = RX12 ∧ yX12_mostSyllables.cls ≠ "java/lang/invoke/MethodHandle" ∧ yX12_mostSyllables.cls ≠ "java/lang/invoke/VarHandle" ∧ (parseMethodDescriptor yX12_mostSyllables.desc).map (fun d => d.parameters.length) = some 0 := by decide +kernel
theorem wdX12_has_112 : decode cX12_has 112 = .ok (.ireturn, 1) := by decide +kernel
theorem wdX12_has_113 : decode cX12_has 113 = .ok (.aload_n 0, 1) := by decide +kernel
theorem wdX12_has_114 : decode cX12_has 114 = .ok (.invokevirtual 282, 3) := by decide +kernel
theorem wtk_X12_toBare : Cond.code yX12_toBare cX12_toBare 2 (some .int) ∈ TB := tbm (tc6 (List.mem_of_getElem? (i := 185) rfl)) rfl
theorem wgc_X12_toBare : GoodIn TB (cw yX12_toBare cX12_toBare 2 (some .int)) := goodIn_c2 wtk_X12_toBare
theorem wtb_358 : Cond.methodLink "ToneLinesModel" 282 yX12_toBare ∈ TB := tbm (tc6 (List.mem_of_getElem? (i := 182) rfl)) rfl
theorem wtb_359 : Cond.instanceMethod yX12_toBare ∈ TB := tbm (tc6 (List.mem_of_getElem? (i := 184) rfl)) rfl
theorem wtb_360 : Cond.selects "ToneLinesModel" yX12_toBare yX12_toBare ∈ TB := tbp (List.mem_of_getElem? (i := 80) rfl) rfl
theorem wgv_X12_282 : GoodIn TB (wsV RX12 282 RX12 yX12_toBare (cw yX12_toBare cX12_toBare 2 (some .int))) := goodIn_4 wtb_358 wtb_359 wtb_360 wtb_105 wgc_X12_toBare
theorem whv_X12_toBare : yX12_toBare.cls = RX12 ∧ yX12_toBare.cls ≠ "java/lang/invoke/MethodHandle" ∧ yX12_toBare.cls ≠ "java/lang/invoke/VarHandle" ∧ (parseMethodDescriptor yX12_toBare.desc).map (fun d => d.parameters.length) = some 0 := by decide +kernel
theorem wdX12_has_117 : decode cX12_has 117 = .ok (.ireturn, 1) := by decide +kernel
theorem wdX12_has_118 : decode cX12_has 118 = .ok (.iconst (-1), 1) := by decide +kernel
theorem wdX12_has_119 : decode cX12_has 119 = .ok (.ireturn, 1) := by decide +kernel
theorem wdX12_has_8 : decode cX12_has 8 = .ok (.iconst (-1), 1) := by decide +kernel
theorem wdX12_has_9 : decode cX12_has 9 = .ok (.ireturn, 1) := by decide +kernel
set_option maxRecDepth 4000 in
theorem k_has {l : Launch} {D : va_G} {B : Nat} {cy : Nat → ClassId} {M : Mem} {Ps : Nat → Nat → Int} {mr k q hv ed : Nat} {o : Wo} {Hs : Nat → Fw} (hS : MS M Ps mr (q, hv, ed, o) Hs k) {n9 w9 : Int} (hn9 : rg n9) (hw9 : rg w9) : Ci l D B cy yX12_has cX12_has 3 (some .int) 10 233 [.ref (B + 146), .int (zI n9), .int (zI w9)] M (fun r M1 => r = zI (ofA Ps mr (q, hv, ed, o) n9 (hasA w9))) := by
  refine s_any (by decide) (Nat.le_of_ble_eq_true rfl) ?_
  intro p e s m below meth c ls F hr hlocks w hl
  have F : CallFix p m c cX12_has 3 s _ TB RX12 := F
  have hx := F.1
  have hb := F.2.1
  have hl : lv_has ls 3 [(0, .ref (B + 146)), (1, .int (zI n9)), (2, .int (zI w9))] := hl
  have hm8 := hS.1.1
  have hk12 := hS.2.2.2.2.1
  have hC : TW M q hv ed o := hS.T
  have hW : isR M 147 o.1 q hv ed o.2.1 o.2.2 := hC.1
  have hwf := hC.wf
  have hKL := hwf.2.2.2.2
  have hn12 := hwf.1
  have hq12 := hwf.2.1
  have hhv := hwf.2.2.1
  have hed := hwf.2.2.2.1
  refine lv_aload_n hx hb wdX12_has_0 rfl (lv_at hl 0 rfl) ?_
  refine lv_iload_n hx hb wdX12_has_1 rfl (lv_at hl 1 rfl) ?_
  refine k_Vi F w (As := [.int (zI n9)]) (rest := []) (a := 146) (kd_lt (a := 146) (show kd 146 = (12, 0, 0) from rfl) (by decide)) (sh_12 rfl _ _) rfl (m_lays hS (n9 := n9) (by omega)) wgv_X12_261 whv_X12_lays ⟨(Nat.le_of_ble_eq_true rfl), (Nat.le_of_ble_eq_true rfl)⟩ hl.1 rfl (Nat.le_of_ble_eq_true rfl) ⟨Nat.zero_le _, Nat.zero_le _⟩ wdX12_has_2 (fun r Ma1 H locs hp w => ?_)
  rcases hp with ⟨nn, rfl, hnn, rfl, z9, hRs⟩ | ⟨hnc, rfl⟩
  · obtain ⟨o1, ho1⟩ : ∃ o1, o1 = sg9 Ps (q, hv, ed, o) nn := ⟨_, rfl⟩
    have hR : RW Ma1 q hv ed o1 z9 := by rw [ho1]; exact hRs
    have hW1 := hR.1
    have hwf1 := hR.wf
    have hKL1 := hwf1.2.2.2.2
    have hn1 := hwf1.1
    have hc1 := hR.2.2.2.2
    refine z_if_ne (tgt := 10) hx hb (by omega) wdX12_has_5 (by decide) (fun c2 => ?_) (fun c2 => False.elim (by omega))
    refine lv_iload_n hx hb wdX12_has_10 rfl (lv_at hl 2 rfl) ?_
    rcases (show (w9 : Int) = 0 ∨ (w9 : Int) = 1 ∨ (w9 : Int) = 2 ∨ (w9 : Int) = 3 ∨ (w9 : Int) = 4 ∨ (w9 : Int) = 5 ∨ (w9 : Int) = 6 ∨ (w9 : Int) = 7 ∨ (w9 : Int) = 8 ∨ (w9 ≠ 0 ∧ w9 ≠ 1 ∧ w9 ≠ 2 ∧ w9 ≠ 3 ∧ w9 ≠ 4 ∧ w9 ≠ 5 ∧ w9 ≠ 6 ∧ w9 ≠ 7 ∧ w9 ≠ 8) by omega) with c3 | c3 | c3 | c3 | c3 | c3 | c3 | c3 | c3 | c3
    · refine r_val (v := zI 0) (congrArg zI c3) ?_
      refine lv_tableIn (tgt := 60) hx hb wdX12_has_11 (by decide) (by decide) (off := 49) rfl (by decide) ?_
      refine lv_aload_n hx hb wdX12_has_60 rfl (lv_at hl 0 rfl) ?_
      refine f_12_2 F w (a := 146) rfl wtb_102 wdX12_has_61 ?_
      refine lv_iconst (v := zI 0) hx hb wdX12_has_64 rfl ?_
      refine g_iald F w (a := 148) rfl (j := 0) ⟨by decide, by decide⟩ (by omega) wdX12_has_65 ?_
      refine r_val (v := (zI ((o1.1 : Nat) : Int))) (hW1.1) ?_
      exact e_i F w hr hlocks (congrArg zI ((ofA_y hnn).trans (by rw [← ho1]; exact hasA_0 c3)).symm) wdX12_has_66
    · refine r_val (v := zI 1) (congrArg zI c3) ?_
      refine lv_tableIn (tgt := 67) hx hb wdX12_has_11 (by decide) (by decide) (off := 56) rfl (by decide) ?_
      refine lv_aload_n hx hb wdX12_has_67 rfl (lv_at hl 0 rfl) ?_
      refine f_12_2 F w (a := 146) rfl wtb_102 wdX12_has_68 ?_
      refine lv_bipush (v := zI 25) hx hb wdX12_has_71 (by decide) ?_
      refine g_iald F w (a := 148) rfl (j := 25) ⟨by decide, by decide⟩ (by omega) wdX12_has_73 ?_
      refine r_val (v := (zI (q : Int))) (hW1.2.1) ?_
      exact e_i F w hr hlocks (congrArg zI ((ofA_y hnn).trans (by rw [← ho1]; exact hasA_1 c3)).symm) wdX12_has_74
    · refine r_val (v := zI 2) (congrArg zI c3) ?_
      refine lv_tableIn (tgt := 75) hx hb wdX12_has_11 (by decide) (by decide) (off := 64) rfl (by decide) ?_
      refine lv_aload_n hx hb wdX12_has_75 rfl (lv_at hl 0 rfl) ?_
      refine x_Vi F w (As := []) (rest := []) (a := 146) (kd_lt (a := 146) (show kd 146 = (12, 0, 0) from rfl) (by decide)) (sh_12 rfl _ _) rfl (k_lines hR) wgv_X12_264 whv_X12_lines ⟨(Nat.le_of_ble_eq_true rfl), (Nat.le_of_ble_eq_true rfl)⟩ hl.1 rfl (Nat.le_of_ble_eq_true rfl) ⟨Nat.zero_le _, Nat.zero_le _⟩ wdX12_has_76 (fun H locs w => ?_)
      have hsp := sumP_le (F := fun t => pop (o1.2.2 t)) (b := 12) (n := o1.1) (fun k hk9 => (pop_le _ (hKL1 k hk9).2).1)
      exact e_i F w hr hlocks (congrArg zI ((ofA_y hnn).trans (by rw [← ho1]; exact hasA_2 c3)).symm) wdX12_has_79
    · refine r_val (v := zI 3) (congrArg zI c3) ?_
      refine lv_tableIn (tgt := 80) hx hb wdX12_has_11 (by decide) (by decide) (off := 69) rfl (by decide) ?_
      refine lv_aload_n hx hb wdX12_has_80 rfl (lv_at hl 0 rfl) ?_
      refine x_Vi F w (As := []) (rest := []) (a := 146) (kd_lt (a := 146) (show kd 146 = (12, 0, 0) from rfl) (by decide)) (sh_12 rfl _ _) rfl (k_floating hR) wgv_X12_267 whv_X12_floating ⟨(Nat.le_of_ble_eq_true rfl), (Nat.le_of_ble_eq_true rfl)⟩ hl.1 rfl (Nat.le_of_ble_eq_true rfl) ⟨Nat.zero_le _, Nat.zero_le _⟩ wdX12_has_81 (fun H locs w => ?_)
      have hfl := flt_lt (L := o1.2.2) (n := o1.1) (by omega)
      exact e_i F w hr hlocks (congrArg zI ((ofA_y hnn).trans (by rw [← ho1]; exact hasA_3 c3)).symm) wdX12_has_84
    · refine r_val (v := zI 4) (congrArg zI c3) ?_
      refine lv_tableIn (tgt := 85) hx hb wdX12_has_11 (by decide) (by decide) (off := 74) rfl (by decide) ?_
      refine lv_aload_n hx hb wdX12_has_85 rfl (lv_at hl 0 rfl) ?_
      refine x_Vi F w (As := []) (rest := []) (a := 146) (kd_lt (a := 146) (show kd 146 = (12, 0, 0) from rfl) (by decide)) (sh_12 rfl _ _) rfl (k_bare hR) wgv_X12_270 whv_X12_bare ⟨(Nat.le_of_ble_eq_true rfl), (Nat.le_of_ble_eq_true rfl)⟩ hl.1 rfl (Nat.le_of_ble_eq_true rfl) ⟨Nat.zero_le _, Nat.zero_le _⟩ wdX12_has_86 (fun H locs w => ?_)
      have hbl := br_le (n := o1.1) (L := o1.2.2) hq12
      exact e_i F w hr hlocks (congrArg zI ((ofA_y hnn).trans (by rw [← ho1]; exact (hasA_4 c3).trans (congrArg _ br_eq.symm))).symm) wdX12_has_89
    · refine r_val (v := zI 5) (congrArg zI c3) ?_
      refine lv_tableIn (tgt := 90) hx hb wdX12_has_11 (by decide) (by decide) (off := 79) rfl (by decide) ?_
      refine lv_aload_n hx hb wdX12_has_90 rfl (lv_at hl 0 rfl) ?_
      refine lv_aload_n hx hb wdX12_has_91 rfl (lv_at hl 0 rfl) ?_
      refine f_12_2 F w (a := 146) rfl wtb_102 wdX12_has_92 ?_
      refine lv_iconst (v := zI 0) hx hb wdX12_has_95 rfl ?_
      refine g_iald F w (a := 148) rfl (j := 0) ⟨by decide, by decide⟩ (by omega) wdX12_has_96 ?_
      refine r_val (v := (zI ((o1.1 : Nat) : Int))) (hW1.1) ?_
      refine lv_iconst (v := zI 1) hx hb wdX12_has_97 rfl ?_
      refine z_isub (z := (((o1.1 : Nat) : Int) - 1)) hx hb wdX12_has_98 (by omega) ?_
      refine x_Vi F w (As := [.int (zI (((o1.1 : Nat) : Int) - 1))]) (rest := []) (a := 146) (kd_lt (a := 146) (show kd 146 = (12, 0, 0) from rfl) (by decide)) (sh_12 rfl _ _) rfl (k_fallsTo hR (m9 := o1.1) (by omega)) wgv_X12_273 whv_X12_fallsTo ⟨(Nat.le_of_ble_eq_true rfl), (Nat.le_of_ble_eq_true rfl)⟩ hl.1 rfl (Nat.le_of_ble_eq_true rfl) ⟨Nat.zero_le _, Nat.zero_le _⟩ wdX12_has_99 (fun H locs w => ?_)
      have hfm := fw_b (K := o1.2.1) o1.1
      exact e_i F w hr hlocks (congrArg zI ((ofA_y hnn).trans (by rw [← ho1]; exact hasA_5 c3)).symm) wdX12_has_102
    · refine r_val (v := zI 6) (congrArg zI c3) ?_
      refine lv_tableIn (tgt := 103) hx hb wdX12_has_11 (by decide) (by decide) (off := 92) rfl (by decide) ?_
      refine lv_aload_n hx hb wdX12_has_103 rfl (lv_at hl 0 rfl) ?_
      refine x_Vi F w (As := []) (rest := []) (a := 146) (kd_lt (a := 146) (show kd 146 = (12, 0, 0) from rfl) (by decide)) (sh_12 rfl _ _) rfl (k_mostTones hR) wgv_X12_276 whv_X12_mostTones ⟨(Nat.le_of_ble_eq_true rfl), (Nat.le_of_ble_eq_true rfl)⟩ hl.1 rfl (Nat.le_of_ble_eq_true rfl) ⟨Nat.zero_le _, Nat.zero_le _⟩ wdX12_has_104 (fun H locs w => ?_)
      have hmt : maxP (fun s => pop (tmk o1.2.2 s o1.1)) q ≤ 12 := maxP_le (fun k _ => (pop_le _ (tmk_lt hn1)).1)
      exact e_i F w hr hlocks (congrArg zI ((ofA_y hnn).trans (by rw [← ho1]; exact hasA_6 c3)).symm) wdX12_has_107
    · refine r_val (v := zI 7) (congrArg zI c3) ?_
      refine lv_tableIn (tgt := 108) hx hb wdX12_has_11 (by decide) (by decide) (off := 97) rfl (by decide) ?_
      refine lv_aload_n hx hb wdX12_has_108 rfl (lv_at hl 0 rfl) ?_
      refine x_Vi F w (As := []) (rest := []) (a := 146) (kd_lt (a := 146) (show kd 146 = (12, 0, 0) from rfl) (by decide)) (sh_12 rfl _ _) rfl (k_mostSyllables hR) wgv_X12_279 whv_X12_mostSyllables ⟨(Nat.le_of_ble_eq_true rfl), (Nat.le_of_ble_eq_true rfl)⟩ hl.1 rfl (Nat.le_of_ble_eq_true rfl) ⟨Nat.zero_le _, Nat.zero_le _⟩ wdX12_has_109 (fun H locs w => ?_)
      have hms : maxP (fun t => pop (o1.2.2 t)) o1.1 ≤ 12 := maxP_le (fun k hk9 => (pop_le _ (hKL1 k hk9).2).1)
      exact e_i F w hr hlocks (congrArg zI ((ofA_y hnn).trans (by rw [← ho1]; exact hasA_7 c3)).symm) wdX12_has_112
    · refine r_val (v := zI 8) (congrArg zI c3) ?_
      refine lv_tableIn (tgt := 113) hx hb wdX12_has_11 (by decide) (by decide) (off := 102) rfl (by decide) ?_
      refine lv_aload_n hx hb wdX12_has_113 rfl (lv_at hl 0 rfl) ?_
      refine x_Vi F w (As := []) (rest := []) (a := 146) (kd_lt (a := 146) (show kd 146 = (12, 0, 0) from rfl) (by decide)) (sh_12 rfl _ _) rfl (k_toBare hR) wgv_X12_282 whv_X12_toBare ⟨(Nat.le_of_ble_eq_true rfl), (Nat.le_of_ble_eq_true rfl)⟩ hl.1 rfl (Nat.le_of_ble_eq_true rfl) ⟨Nat.zero_le _, Nat.zero_le _⟩ wdX12_has_114 (fun H locs w => ?_)
      have hff := fb_le (n := o1.1) (L := o1.2.2) hq12
      exact e_i F w hr hlocks (congrArg zI ((ofA_y hnn).trans (by rw [← ho1]; exact hasA_8 c3)).symm) wdX12_has_117
    · refine lv_tableOut (tgt := 118) hx hb wdX12_has_11 (by rw [zI_toInt (by omega)]; omega) (by decide) ?_
      refine lv_iconst (v := zI (-1)) hx hb wdX12_has_118 rfl ?_
      exact e_i F w hr hlocks (congrArg zI ((ofA_y hnn).trans (by rw [← ho1]; exact hasA_d c3)).symm) wdX12_has_119
  · refine z_if_ne (tgt := 10) hx hb (by omega) wdX12_has_5 (by decide) (fun c11 => False.elim (by omega)) (fun c11 => ?_)
    refine lv_iconst (v := zI (-1)) hx hb wdX12_has_8 rfl ?_
    exact e_i F w hr hlocks (congrArg zI (ofA_n hnc).symm) wdX12_has_9
theorem wdX12_toneAt_0 : decode cX12_toneAt 0 = .ok (.aload_n 0, 1) := by decide +kernel
theorem wdX12_toneAt_1 : decode cX12_toneAt 1 = .ok (.iload_n 1, 1) := by decide +kernel
theorem wdX12_toneAt_2 : decode cX12_toneAt 2 = .ok (.invokevirtual 261, 3) := by decide +kernel
theorem wdX12_toneAt_5 : decode cX12_toneAt 5 = .ok (.ifCond .ne 5, 3) := by decide +kernel
theorem wdX12_toneAt_10 : decode cX12_toneAt 10 = .ok (.aload_n 0, 1) := by decide +kernel
theorem wdX12_toneAt_11 : decode cX12_toneAt 11 = .ok (.getfield 17, 3) := by decide +kernel
theorem wdX12_toneAt_14 : decode cX12_toneAt 14 = .ok (.iload_n 2, 1) := by decide +kernel
theorem wdX12_toneAt_15 : decode cX12_toneAt 15 = .ok (.invokestatic 105, 3) := by decide +kernel
theorem wdX12_toneAt_18 : decode cX12_toneAt 18 = .ok (.ifCond .ne 15, 3) := by decide +kernel
theorem wdX12_toneAt_33 : decode cX12_toneAt 33 = .ok (.aload_n 0, 1) := by decide +kernel
theorem wdX12_toneAt_34 : decode cX12_toneAt 34 = .ok (.getfield 17, 3) := by decide +kernel
theorem wdX12_toneAt_37 : decode cX12_toneAt 37 = .ok (.bipush 13, 2) := by decide +kernel
theorem wdX12_toneAt_39 : decode cX12_toneAt 39 = .ok (.iload_n 2, 1) := by decide +kernel
theorem wdX12_toneAt_40 : decode cX12_toneAt 40 = .ok (.iadd, 1) := by decide +kernel
theorem wdX12_toneAt_41 : decode cX12_toneAt 41 = .ok (.iaload, 1) := by decide +kernel
theorem wdX12_toneAt_42 : decode cX12_toneAt 42 = .ok (.istore 4, 2) := by decide +kernel
theorem wdX12_toneAt_44 : decode cX12_toneAt 44 = .ok (.aload_n 0, 1) := by decide +kernel
theorem wdX12_toneAt_45 : decode cX12_toneAt 45 = .ok (.getfield 17, 3) := by decide +kernel
theorem wdX12_toneAt_48 : decode cX12_toneAt 48 = .ok (.iconst 1, 1) := by decide +kernel
theorem wdX12_toneAt_49 : decode cX12_toneAt 49 = .ok (.iload_n 2, 1) := by decide +kernel
theorem wdX12_toneAt_50 : decode cX12_toneAt 50 = .ok (.iadd, 1) := by decide +kernel
theorem wdX12_toneAt_51 : decode cX12_toneAt 51 = .ok (.iaload, 1) := by decide +kernel
theorem wdX12_toneAt_52 : decode cX12_toneAt 52 = .ok (.istore 5, 2) := by decide +kernel
theorem wdX12_toneAt_54 : decode cX12_toneAt 54 = .ok (.iload_n 3, 1) := by decide +kernel
theorem wdX12_toneAt_55 : decode cX12_toneAt 55 = .ok (.tableswitch 73 0 4 #[33, 36, 45, 54, 60], 33) := by decide +kernel
theorem wdX12_toneAt_88 : decode cX12_toneAt 88 = .ok (.iload 5, 2) := by decide +kernel
theorem wdX12_toneAt_90 : decode cX12_toneAt 90 = .ok (.ireturn, 1) := by decide +kernel
theorem wdX12_toneAt_91 : decode cX12_toneAt 91 = .ok (.iload 4, 2) := by decide +kernel
theorem wdX12_toneAt_93 : decode cX12_toneAt 93 = .ok (.invokestatic 63, 3) := by decide +kernel
theorem wdX12_toneAt_96 : decode cX12_toneAt 96 = .ok (.invokestatic 285, 3) := by decide +kernel
theorem wtk_X12_orNeither : Cond.code yX12_orNeither cX12_orNeither 1 (some .int) ∈ TB := tbm (tc6 (List.mem_of_getElem? (i := 192) rfl)) rfl
theorem wgc_X12_orNeither : GoodIn TB (cw yX12_orNeither cX12_orNeither 1 (some .int)) := goodIn_c2 wtk_X12_orNeither
theorem wtb_361 : Cond.methodLink "ToneLinesModel" 285 yX12_orNeither ∈ TB := tbm (tc6 (List.mem_of_getElem? (i := 190) rfl)) rfl
theorem wtb_362 : Cond.static yX12_orNeither ∈ TB := tbm (tc6 (List.mem_of_getElem? (i := 191) rfl)) rfl
theorem wgs_X12_285 : GoodIn TB (va_wsS RX12 285 yX12_orNeither (cw yX12_orNeither cX12_orNeither 1 (some .int))) := goodIn_3 wtb_361 wtb_362 wtb_105 wgc_X12_orNeither
theorem whs_X12_orNeither : yX12_orNeither.cls ≠ "java/lang/invoke/MethodHandle" ∧ yX12_orNeither.cls ≠ "java/lang/invoke/VarHandle" ∧ (parseMethodDescriptor yX12_orNeither.desc).map (fun d => d.parameters.length) = some 1 := by decide +kernel
theorem wdX12_toneAt_99 : decode cX12_toneAt 99 = .ok (.ireturn, 1) := by decide +kernel
theorem wdX12_toneAt_100 : decode cX12_toneAt 100 = .ok (.iload 4, 2) := by decide +kernel
theorem wdX12_toneAt_102 : decode cX12_toneAt 102 = .ok (.invokestatic 59, 3) := by decide +kernel
theorem wdX12_toneAt_105 : decode cX12_toneAt 105 = .ok (.invokestatic 285, 3) := by decide +kernel
theorem wdX12_toneAt_108 : decode cX12_toneAt 108 = .ok (.ireturn, 1) := by decide +kernel
theorem wdX12_toneAt_109 : decode cX12_toneAt 109 = .ok (.iload 4, 2) := by decide +kernel
theorem wdX12_toneAt_111 : decode cX12_toneAt 111 = .ok (.invokestatic 76, 3) := by decide +kernel
theorem wdX12_toneAt_114 : decode cX12_toneAt 114 = .ok (.ireturn, 1) := by decide +kernel
theorem wdX12_toneAt_115 : decode cX12_toneAt 115 = .ok (.iconst 3, 1) := by decide +kernel
theorem wdX12_toneAt_116 : decode cX12_toneAt 116 = .ok (.iconst 3, 1) := by decide +kernel
theorem wdX12_toneAt_117 : decode cX12_toneAt 117 = .ok (.iload 5, 2) := by decide +kernel
theorem wdX12_toneAt_119 : decode cX12_toneAt 119 = .ok (.imul, 1) := by decide +kernel
theorem wdX12_toneAt_120 : decode cX12_toneAt 120 = .ok (.iadd, 1) := by decide +kernel
theorem wdX12_toneAt_121 : decode cX12_toneAt 121 = .ok (.aload_n 0, 1) := by decide +kernel
theorem wdX12_toneAt_122 : decode cX12_toneAt 122 = .ok (.iload_n 2, 1) := by decide +kernel
theorem wdX12_toneAt_123 : decode cX12_toneAt 123 = .ok (.invokevirtual 273, 3) := by decide +kernel
theorem wdX12_toneAt_126 : decode cX12_toneAt 126 = .ok (.isub, 1) := by decide +kernel
theorem wdX12_toneAt_127 : decode cX12_toneAt 127 = .ok (.ireturn, 1) := by decide +kernel
theorem wdX12_toneAt_128 : decode cX12_toneAt 128 = .ok (.iconst (-1), 1) := by decide +kernel
theorem wdX12_toneAt_129 : decode cX12_toneAt 129 = .ok (.ireturn, 1) := by decide +kernel
theorem wdX12_toneAt_21 : decode cX12_toneAt 21 = .ok (.iload_n 3, 1) := by decide +kernel
theorem wdX12_toneAt_22 : decode cX12_toneAt 22 = .ok (.iconst 4, 1) := by decide +kernel
theorem wdX12_toneAt_23 : decode cX12_toneAt 23 = .ok (.if_icmp .ne 8, 3) := by decide +kernel
theorem wdX12_toneAt_31 : decode cX12_toneAt 31 = .ok (.iconst (-1), 1) := by decide +kernel
theorem wdX12_toneAt_32 : decode cX12_toneAt 32 = .ok (.ireturn, 1) := by decide +kernel
theorem wdX12_toneAt_26 : decode cX12_toneAt 26 = .ok (.bipush (-100), 2) := by decide +kernel
theorem wdX12_toneAt_28 : decode cX12_toneAt 28 = .ok (.goto 4, 3) := by decide +kernel
theorem wdX12_toneAt_8 : decode cX12_toneAt 8 = .ok (.iconst (-1), 1) := by decide +kernel
theorem wdX12_toneAt_9 : decode cX12_toneAt 9 = .ok (.ireturn, 1) := by decide +kernel
set_option maxRecDepth 4000 in
theorem k_toneAt {l : Launch} {D : va_G} {B : Nat} {cy : Nat → ClassId} {M : Mem} {Ps : Nat → Nat → Int} {mr k q hv ed : Nat} {o : Wo} {Hs : Nat → Fw} (hS : MS M Ps mr (q, hv, ed, o) Hs k) {n9 t9 w9 : Int} (hn9 : rg n9) (ht9 : rg t9) (hw9 : rg w9) : Ci l D B cy yX12_toneAt cX12_toneAt 6 (some .int) 10 233 [.ref (B + 146), .int (zI n9), .int (zI t9), .int (zI w9)] M (fun r M1 => r = zI (ofA Ps mr (q, hv, ed, o) n9 (toneA t9 w9))) := by
  refine s_any (by decide) (Nat.le_of_ble_eq_true rfl) ?_
  intro p e s m below meth c ls F hr hlocks w hl
  have F : CallFix p m c cX12_toneAt 6 s _ TB RX12 := F
  have hx := F.1
  have hb := F.2.1
  have hl : lv_has ls 6 [(0, .ref (B + 146)), (1, .int (zI n9)), (2, .int (zI t9)), (3, .int (zI w9))] := hl
  have hm8 := hS.1.1
  have hk12 := hS.2.2.2.2.1
  have hC : TW M q hv ed o := hS.T
  have hW : isR M 147 o.1 q hv ed o.2.1 o.2.2 := hC.1
  have hwf := hC.wf
  have hKL := hwf.2.2.2.2
  have hn12 := hwf.1
  have hq12 := hwf.2.1
  have hhv := hwf.2.2.1
  have hed := hwf.2.2.2.1
  refine lv_aload_n hx hb wdX12_toneAt_0 rfl (lv_at hl 0 rfl) ?_
  refine lv_iload_n hx hb wdX12_toneAt_1 rfl (lv_at hl 1 rfl) ?_
  refine k_Vi F w (As := [.int (zI n9)]) (rest := []) (a := 146) (kd_lt (a := 146) (show kd 146 = (12, 0, 0) from rfl) (by decide)) (sh_12 rfl _ _) rfl (m_lays hS (n9 := n9) (by omega)) wgv_X12_261 whv_X12_lays ⟨(Nat.le_of_ble_eq_true rfl), (Nat.le_of_ble_eq_true rfl)⟩ hl.1 rfl (Nat.le_of_ble_eq_true rfl) ⟨Nat.zero_le _, Nat.zero_le _⟩ wdX12_toneAt_2 (fun r Ma1 H locs hp w => ?_)
  rcases hp with ⟨nn, rfl, hnn, rfl, z9, hRs⟩ | ⟨hnc, rfl⟩
  · obtain ⟨o1, ho1⟩ : ∃ o1, o1 = sg9 Ps (q, hv, ed, o) nn := ⟨_, rfl⟩
    have hR : RW Ma1 q hv ed o1 z9 := by rw [ho1]; exact hRs
    have hW1 := hR.1
    have hwf1 := hR.wf
    have hKL1 := hwf1.2.2.2.2
    have hn1 := hwf1.1
    have hc1 := hR.2.2.2.2
    refine z_if_ne (tgt := 10) hx hb (by omega) wdX12_toneAt_5 (by decide) (fun c2 => ?_) (fun c2 => False.elim (by omega))
    refine lv_aload_n hx hb wdX12_toneAt_10 rfl (lv_at hl 0 rfl) ?_
    refine f_12_2 F w (a := 146) rfl wtb_102 wdX12_toneAt_11 ?_
    refine lv_iload_n hx hb wdX12_toneAt_14 rfl (lv_at hl 2 rfl) ?_
    refine k_Si F w (As := [.ref (B + 148), .int (zI t9)]) (rest := []) (s_X12_isTone (a := 148) rfl hW1 hwf1 (t := t9) (by omega)) wgs_X12_105 whs_X12_isTone ⟨(Nat.le_of_ble_eq_true rfl), (Nat.le_of_ble_eq_true rfl)⟩ hl.1 rfl (Nat.le_of_ble_eq_true rfl) ⟨Nat.zero_le _, Nat.zero_le _⟩ wdX12_toneAt_15 (fun r Ma3 H locs hp w => ?_)
    rcases hp with ⟨⟨tt, rfl, htt, rfl⟩ | ⟨ntt, rfl⟩, hMe⟩
    · rw [hMe] at w
      refine z_if_ne (tgt := 33) hx hb (by omega) wdX12_toneAt_18 (by decide) (fun c4 => ?_) (fun c4 => False.elim (by omega))
      refine lv_aload_n hx hb wdX12_toneAt_33 rfl (lv_at hl 0 rfl) ?_
      refine f_12_2 F w (a := 146) rfl wtb_102 wdX12_toneAt_34 ?_
      refine lv_bipush (v := zI 13) hx hb wdX12_toneAt_37 (by decide) ?_
      refine lv_iload_n hx hb wdX12_toneAt_39 rfl (lv_at hl 2 rfl) ?_
      refine z_iadd (z := (((13 + tt) : Nat) : Int)) hx hb wdX12_toneAt_40 (by omega) ?_
      refine g_iald F w (a := 148) rfl (j := (13 + tt)) (ix_n (by omega)) (by omega) wdX12_toneAt_41 ?_
      have hL4 := (hKL1 tt (by omega)).2
      refine r_val (v := (zI (((o1.2.2 tt) : Nat) : Int))) (hW1.2.2.2.2.2 tt (by omega)) ?_
      refine lv_istore (lv' := [(4, .int (zI (((o1.2.2 tt) : Nat) : Int))), (0, .ref (B + 146)), (1, .int (zI (nn : Int))), (2, .int (zI (tt : Int))), (3, .int (zI w9))]) hx hb wdX12_toneAt_42 hl (by decide) rfl (fun ls hl => ?_)
      refine lv_aload_n hx hb wdX12_toneAt_44 rfl (lv_at hl 1 rfl) ?_
      refine f_12_2 F w (a := 146) rfl wtb_102 wdX12_toneAt_45 ?_
      refine lv_iconst (v := zI 1) hx hb wdX12_toneAt_48 rfl ?_
      refine lv_iload_n hx hb wdX12_toneAt_49 rfl (lv_at hl 3 rfl) ?_
      refine z_iadd (z := (((1 + tt) : Nat) : Int)) hx hb wdX12_toneAt_50 (by omega) ?_
      refine g_iald F w (a := 148) rfl (j := (1 + tt)) (ix_n (by omega)) (by omega) wdX12_toneAt_51 ?_
      have hK4 := (hKL1 tt (by omega)).1
      refine r_val (v := (zI (((o1.2.1 tt) : Nat) : Int))) (hW1.2.2.2.2.1 tt (by omega)) ?_
      refine lv_istore (lv' := [(5, .int (zI (((o1.2.1 tt) : Nat) : Int))), (4, .int (zI (((o1.2.2 tt) : Nat) : Int))), (0, .ref (B + 146)), (1, .int (zI (nn : Int))), (2, .int (zI (tt : Int))), (3, .int (zI w9))]) hx hb wdX12_toneAt_52 hl (by decide) rfl (fun ls hl => ?_)
      refine lv_iload_n hx hb wdX12_toneAt_54 rfl (lv_at hl 5 rfl) ?_
      rcases (show (w9 : Int) = 0 ∨ (w9 : Int) = 1 ∨ (w9 : Int) = 2 ∨ (w9 : Int) = 3 ∨ (w9 : Int) = 4 ∨ (w9 ≠ 0 ∧ w9 ≠ 1 ∧ w9 ≠ 2 ∧ w9 ≠ 3 ∧ w9 ≠ 4) by omega) with c5 | c5 | c5 | c5 | c5 | c5
      · refine r_val (v := zI 0) (congrArg zI c5) ?_
        refine lv_tableIn (tgt := 88) hx hb wdX12_toneAt_55 (by decide) (by decide) (off := 33) rfl (by decide) ?_
        refine lv_iload hx hb wdX12_toneAt_88 (lv_at hl 0 rfl) ?_
        exact e_i F w hr hlocks (congrArg zI ((ofA_y hnn).trans (by rw [← ho1]; exact toneA_0 htt c5)).symm) wdX12_toneAt_90
      · refine r_val (v := zI 1) (congrArg zI c5) ?_
        refine lv_tableIn (tgt := 91) hx hb wdX12_toneAt_55 (by decide) (by decide) (off := 36) rfl (by decide) ?_
        refine lv_iload hx hb wdX12_toneAt_91 (lv_at hl 1 rfl) ?_
        refine x_Si F w (As := [.int (zI (((o1.2.2 tt) : Nat) : Int))]) (rest := []) (s_X12_firstOf (m9 := (o1.2.2 tt)) (by omega)) wgs_X12_63 whs_X12_firstOf ⟨(Nat.le_of_ble_eq_true rfl), (Nat.le_of_ble_eq_true rfl)⟩ hl.1 rfl (Nat.le_of_ble_eq_true rfl) ⟨Nat.zero_le _, Nat.zero_le _⟩ wdX12_toneAt_93 (fun H locs w => ?_)
        have hw5 := lowI_rg (o1.2.2 tt) (by omega)
        refine x_Si F w (As := [.int (zI (lowI (o1.2.2 tt)))]) (rest := []) (k_orNeither (x9 := (lowI (o1.2.2 tt))) (by omega)) wgs_X12_285 whs_X12_orNeither ⟨(Nat.le_of_ble_eq_true rfl), (Nat.le_of_ble_eq_true rfl)⟩ hl.1 rfl (Nat.le_of_ble_eq_true rfl) ⟨Nat.zero_le _, Nat.zero_le _⟩ wdX12_toneAt_96 (fun H locs w => ?_)
        have hon6 := orN_b (lowI (o1.2.2 tt)) (by omega) (by omega)
        exact e_i F w hr hlocks (congrArg zI ((ofA_y hnn).trans (by rw [← ho1]; exact toneA_1 htt c5)).symm) wdX12_toneAt_99
      · refine r_val (v := zI 2) (congrArg zI c5) ?_
        refine lv_tableIn (tgt := 100) hx hb wdX12_toneAt_55 (by decide) (by decide) (off := 45) rfl (by decide) ?_
        refine lv_iload hx hb wdX12_toneAt_100 (lv_at hl 1 rfl) ?_
        refine x_Si F w (As := [.int (zI (((o1.2.2 tt) : Nat) : Int))]) (rest := []) (s_X12_lastOf (m9 := (o1.2.2 tt)) (by omega)) wgs_X12_59 whs_X12_lastOf ⟨(Nat.le_of_ble_eq_true rfl), (Nat.le_of_ble_eq_true rfl)⟩ hl.1 rfl (Nat.le_of_ble_eq_true rfl) ⟨Nat.zero_le _, Nat.zero_le _⟩ wdX12_toneAt_102 (fun H locs w => ?_)
        have hw7 := higI_rg (o1.2.2 tt) (by omega)
        refine x_Si F w (As := [.int (zI (higI (o1.2.2 tt)))]) (rest := []) (k_orNeither (x9 := (higI (o1.2.2 tt))) (by omega)) wgs_X12_285 whs_X12_orNeither ⟨(Nat.le_of_ble_eq_true rfl), (Nat.le_of_ble_eq_true rfl)⟩ hl.1 rfl (Nat.le_of_ble_eq_true rfl) ⟨Nat.zero_le _, Nat.zero_le _⟩ wdX12_toneAt_105 (fun H locs w => ?_)
        have hon8 := orN_b (higI (o1.2.2 tt)) (by omega) (by omega)
        exact e_i F w hr hlocks (congrArg zI ((ofA_y hnn).trans (by rw [← ho1]; exact toneA_2 htt c5)).symm) wdX12_toneAt_108
      · refine r_val (v := zI 3) (congrArg zI c5) ?_
        refine lv_tableIn (tgt := 109) hx hb wdX12_toneAt_55 (by decide) (by decide) (off := 54) rfl (by decide) ?_
        refine lv_iload hx hb wdX12_toneAt_109 (lv_at hl 1 rfl) ?_
        refine x_Si F w (As := [.int (zI (((o1.2.2 tt) : Nat) : Int))]) (rest := []) (s_X12_bitsOf (m9 := (o1.2.2 tt)) (by omega)) wgs_X12_76 whs_X12_bitsOf ⟨(Nat.le_of_ble_eq_true rfl), (Nat.le_of_ble_eq_true rfl)⟩ hl.1 rfl (Nat.le_of_ble_eq_true rfl) ⟨Nat.zero_le _, Nat.zero_le _⟩ wdX12_toneAt_111 (fun H locs w => ?_)
        have hp9 := (pop_le (o1.2.2 tt) (by omega)).1
        exact e_i F w hr hlocks (congrArg zI ((ofA_y hnn).trans (by rw [← ho1]; exact toneA_3 htt c5)).symm) wdX12_toneAt_114
      · refine r_val (v := zI 4) (congrArg zI c5) ?_
        refine lv_tableIn (tgt := 115) hx hb wdX12_toneAt_55 (by decide) (by decide) (off := 60) rfl (by decide) ?_
        refine lv_iconst (v := zI 3) hx hb wdX12_toneAt_115 rfl ?_
        refine lv_iconst (v := zI 3) hx hb wdX12_toneAt_116 rfl ?_
        refine lv_iload hx hb wdX12_toneAt_117 (lv_at hl 0 rfl) ?_
        refine z_imul (z := (((3 * (o1.2.1 tt)) : Nat) : Int)) hx hb wdX12_toneAt_119 (by omega) ?_
        refine z_iadd (z := (((3 + (3 * (o1.2.1 tt))) : Nat) : Int)) hx hb wdX12_toneAt_120 (by omega) ?_
        refine lv_aload_n hx hb wdX12_toneAt_121 rfl (lv_at hl 2 rfl) ?_
        refine lv_iload_n hx hb wdX12_toneAt_122 rfl (lv_at hl 4 rfl) ?_
        refine r_val (v := zI (((tt + 1 : Nat) : Int) - 1)) (congrArg zI (by omega)) ?_
        refine x_Vi F w (As := [.int (zI (((tt + 1 : Nat) : Int) - 1))]) (rest := [.int (zI (((3 + (3 * (o1.2.1 tt))) : Nat) : Int))]) (a := 146) (kd_lt (a := 146) (show kd 146 = (12, 0, 0) from rfl) (by decide)) (sh_12 rfl _ _) rfl (k_fallsTo hR (m9 := (tt + 1)) (by omega)) wgv_X12_273 whv_X12_fallsTo ⟨(Nat.le_of_ble_eq_true rfl), (Nat.le_of_ble_eq_true rfl)⟩ hl.1 rfl (Nat.le_of_ble_eq_true rfl) ⟨Nat.zero_le _, Nat.zero_le _⟩ wdX12_toneAt_123 (fun H locs w => ?_)
        have hfm := fw_b (K := o1.2.1) (tt + 1)
        refine z_isub (z := ((((3 + (3 * (o1.2.1 tt))) : Nat) : Int) - (((fwS o1.2.1 (tt + 1)).1 : Nat) : Int))) hx hb wdX12_toneAt_126 (by omega) ?_
        exact e_i F w hr hlocks (congrArg zI ((ofA_y hnn).trans (by rw [← ho1]; exact (toneA_4 htt c5).trans (by omega))).symm) wdX12_toneAt_127
      · refine lv_tableOut (tgt := 128) hx hb wdX12_toneAt_55 (by rw [zI_toInt (by omega)]; omega) (by decide) ?_
        refine lv_iconst (v := zI (-1)) hx hb wdX12_toneAt_128 rfl ?_
        exact e_i F w hr hlocks (congrArg zI ((ofA_y hnn).trans (by rw [← ho1]; exact toneA_d htt c5)).symm) wdX12_toneAt_129
    · rw [hMe] at w
      refine z_if_ne (tgt := 33) hx hb (by omega) wdX12_toneAt_18 (by decide) (fun c12 => False.elim (by omega)) (fun c12 => ?_)
      refine lv_iload_n hx hb wdX12_toneAt_21 rfl (lv_at hl 3 rfl) ?_
      refine lv_iconst (v := zI 4) hx hb wdX12_toneAt_22 rfl ?_
      refine z_icmp_ne (tgt := 31) hx hb (by omega) (by omega) wdX12_toneAt_23 (by decide) (fun c13 => ?_) (fun c13 => ?_)
      · refine lv_iconst (v := zI (-1)) hx hb wdX12_toneAt_31 rfl ?_
        exact e_i F w hr hlocks (congrArg zI ((ofA_y hnn).trans (by rw [← ho1]; exact toneA_nn ntt (by omega))).symm) wdX12_toneAt_32
      · refine lv_bipush (v := zI (-100)) hx hb wdX12_toneAt_26 (by decide) ?_
        refine lv_goto (tgt := 32) hx hb wdX12_toneAt_28 (by decide) ?_
        exact e_i F w hr hlocks (congrArg zI ((ofA_y hnn).trans (by rw [← ho1]; exact toneA_n4 ntt (by omega))).symm) wdX12_toneAt_32
  · refine z_if_ne (tgt := 10) hx hb (by omega) wdX12_toneAt_5 (by decide) (fun c14 => False.elim (by omega)) (fun c14 => ?_)
    refine lv_iconst (v := zI (-1)) hx hb wdX12_toneAt_8 rfl ?_
    exact e_i F w hr hlocks (congrArg zI (ofA_n hnc).symm) wdX12_toneAt_9
theorem wdX12_syllableAt_0 : decode cX12_syllableAt 0 = .ok (.aload_n 0, 1) := by decide +kernel
theorem wdX12_syllableAt_1 : decode cX12_syllableAt 1 = .ok (.iload_n 1, 1) := by decide +kernel
theorem wdX12_syllableAt_2 : decode cX12_syllableAt 2 = .ok (.invokevirtual 261, 3) := by decide +kernel
theorem wdX12_syllableAt_5 : decode cX12_syllableAt 5 = .ok (.ifCond .eq 14, 3) := by decide +kernel
theorem wdX12_syllableAt_8 : decode cX12_syllableAt 8 = .ok (.aload_n 0, 1) := by decide +kernel
theorem wdX12_syllableAt_9 : decode cX12_syllableAt 9 = .ok (.getfield 17, 3) := by decide +kernel
theorem wdX12_syllableAt_12 : decode cX12_syllableAt 12 = .ok (.iload_n 2, 1) := by decide +kernel
theorem wdX12_syllableAt_13 : decode cX12_syllableAt 13 = .ok (.invokestatic 94, 3) := by decide +kernel
theorem wdX12_syllableAt_16 : decode cX12_syllableAt 16 = .ok (.ifCond .ne 5, 3) := by decide +kernel
theorem wdX12_syllableAt_21 : decode cX12_syllableAt 21 = .ok (.aload_n 0, 1) := by decide +kernel
theorem wdX12_syllableAt_22 : decode cX12_syllableAt 22 = .ok (.getfield 17, 3) := by decide +kernel
theorem wdX12_syllableAt_25 : decode cX12_syllableAt 25 = .ok (.iload_n 2, 1) := by decide +kernel
theorem wdX12_syllableAt_26 : decode cX12_syllableAt 26 = .ok (.invokestatic 69, 3) := by decide +kernel
theorem wdX12_syllableAt_29 : decode cX12_syllableAt 29 = .ok (.istore 4, 2) := by decide +kernel
theorem wdX12_syllableAt_31 : decode cX12_syllableAt 31 = .ok (.iload_n 3, 1) := by decide +kernel
theorem wdX12_syllableAt_32 : decode cX12_syllableAt 32 = .ok (.tableswitch 110 0 5 #[40, 60, 80, 86, 95, 104], 40) := by decide +kernel
theorem wdX12_syllableAt_72 : decode cX12_syllableAt 72 = .ok (.aload_n 0, 1) := by decide +kernel
theorem wdX12_syllableAt_73 : decode cX12_syllableAt 73 = .ok (.getfield 17, 3) := by decide +kernel
theorem wdX12_syllableAt_76 : decode cX12_syllableAt 76 = .ok (.bipush 26, 2) := by decide +kernel
theorem wdX12_syllableAt_78 : decode cX12_syllableAt 78 = .ok (.iaload, 1) := by decide +kernel
theorem wdX12_syllableAt_79 : decode cX12_syllableAt 79 = .ok (.iload_n 2, 1) := by decide +kernel
theorem wdX12_syllableAt_80 : decode cX12_syllableAt 80 = .ok (.invokestatic 51, 3) := by decide +kernel
theorem wdX12_syllableAt_83 : decode cX12_syllableAt 83 = .ok (.ifCond .eq 7, 3) := by decide +kernel
theorem wdX12_syllableAt_86 : decode cX12_syllableAt 86 = .ok (.iconst 1, 1) := by decide +kernel
theorem wdX12_syllableAt_87 : decode cX12_syllableAt 87 = .ok (.goto 4, 3) := by decide +kernel
theorem wdX12_syllableAt_91 : decode cX12_syllableAt 91 = .ok (.ireturn, 1) := by decide +kernel
theorem wdX12_syllableAt_90 : decode cX12_syllableAt 90 = .ok (.iconst 0, 1) := by decide +kernel
theorem wdX12_syllableAt_92 : decode cX12_syllableAt 92 = .ok (.aload_n 0, 1) := by decide +kernel
theorem wdX12_syllableAt_93 : decode cX12_syllableAt 93 = .ok (.getfield 17, 3) := by decide +kernel
theorem wdX12_syllableAt_96 : decode cX12_syllableAt 96 = .ok (.bipush 27, 2) := by decide +kernel
theorem wdX12_syllableAt_98 : decode cX12_syllableAt 98 = .ok (.iaload, 1) := by decide +kernel
theorem wdX12_syllableAt_99 : decode cX12_syllableAt 99 = .ok (.iload_n 2, 1) := by decide +kernel
theorem wdX12_syllableAt_100 : decode cX12_syllableAt 100 = .ok (.invokestatic 51, 3) := by decide +kernel
theorem wdX12_syllableAt_103 : decode cX12_syllableAt 103 = .ok (.ifCond .eq 7, 3) := by decide +kernel
theorem wdX12_syllableAt_106 : decode cX12_syllableAt 106 = .ok (.iconst 1, 1) := by decide +kernel
theorem wdX12_syllableAt_107 : decode cX12_syllableAt 107 = .ok (.goto 4, 3) := by decide +kernel
theorem wdX12_syllableAt_111 : decode cX12_syllableAt 111 = .ok (.ireturn, 1) := by decide +kernel
theorem wdX12_syllableAt_110 : decode cX12_syllableAt 110 = .ok (.iconst 0, 1) := by decide +kernel
theorem wdX12_syllableAt_112 : decode cX12_syllableAt 112 = .ok (.iload 4, 2) := by decide +kernel
theorem wdX12_syllableAt_114 : decode cX12_syllableAt 114 = .ok (.invokestatic 76, 3) := by decide +kernel
theorem wdX12_syllableAt_117 : decode cX12_syllableAt 117 = .ok (.ireturn, 1) := by decide +kernel
theorem wdX12_syllableAt_118 : decode cX12_syllableAt 118 = .ok (.iload 4, 2) := by decide +kernel
theorem wdX12_syllableAt_120 : decode cX12_syllableAt 120 = .ok (.invokestatic 63, 3) := by decide +kernel
theorem wdX12_syllableAt_123 : decode cX12_syllableAt 123 = .ok (.invokestatic 285, 3) := by decide +kernel
theorem wdX12_syllableAt_126 : decode cX12_syllableAt 126 = .ok (.ireturn, 1) := by decide +kernel
theorem wdX12_syllableAt_127 : decode cX12_syllableAt 127 = .ok (.iload 4, 2) := by decide +kernel
theorem wdX12_syllableAt_129 : decode cX12_syllableAt 129 = .ok (.invokestatic 59, 3) := by decide +kernel
theorem wdX12_syllableAt_132 : decode cX12_syllableAt 132 = .ok (.invokestatic 285, 3) := by decide +kernel
theorem wdX12_syllableAt_135 : decode cX12_syllableAt 135 = .ok (.ireturn, 1) := by decide +kernel
theorem wdX12_syllableAt_136 : decode cX12_syllableAt 136 = .ok (.aload_n 0, 1) := by decide +kernel
theorem wdX12_syllableAt_137 : decode cX12_syllableAt 137 = .ok (.iload_n 2, 1) := by decide +kernel
theorem wdX12_syllableAt_138 : decode cX12_syllableAt 138 = .ok (.invokevirtual 288, 3) := by decide +kernel
theorem wtk_X12_reading : Cond.code yX12_reading cX12_reading 5 (some .int) ∈ TB := tbm (tc6 (List.mem_of_getElem? (i := 200) rfl)) rfl
theorem wgc_X12_reading : GoodIn TB (cw yX12_reading cX12_reading 5 (some .int)) := goodIn_c2 wtk_X12_reading
theorem wtb_363 : Cond.methodLink "ToneLinesModel" 288 yX12_reading ∈ TB := tbm (tc6 (List.mem_of_getElem? (i := 197) rfl)) rfl
theorem wtb_364 : Cond.instanceMethod yX12_reading ∈ TB := tbm (tc6 (List.mem_of_getElem? (i := 199) rfl)) rfl
theorem wtb_365 : Cond.selects "ToneLinesModel" yX12_reading yX12_reading ∈ TB := tbp (List.mem_of_getElem? (i := 81) rfl) rfl
theorem wgv_X12_288 : GoodIn TB (wsV RX12 288 RX12 yX12_reading (cw yX12_reading cX12_reading 5 (some .int))) := goodIn_4 wtb_363 wtb_364 wtb_365 wtb_105 wgc_X12_reading
theorem whv_X12_reading : yX12_reading.cls = RX12 ∧ yX12_reading.cls ≠ "java/lang/invoke/MethodHandle" ∧ yX12_reading.cls ≠ "java/lang/invoke/VarHandle" ∧ (parseMethodDescriptor yX12_reading.desc).map (fun d => d.parameters.length) = some 1 := by decide +kernel
theorem wdX12_syllableAt_141 : decode cX12_syllableAt 141 = .ok (.ireturn, 1) := by decide +kernel
theorem wdX12_syllableAt_142 : decode cX12_syllableAt 142 = .ok (.iconst (-1), 1) := by decide +kernel
theorem wdX12_syllableAt_143 : decode cX12_syllableAt 143 = .ok (.ireturn, 1) := by decide +kernel
theorem wdX12_syllableAt_19 : decode cX12_syllableAt 19 = .ok (.iconst (-1), 1) := by decide +kernel
theorem wdX12_syllableAt_20 : decode cX12_syllableAt 20 = .ok (.ireturn, 1) := by decide +kernel
set_option maxRecDepth 4000 in
theorem k_syllableAt {l : Launch} {D : va_G} {B : Nat} {cy : Nat → ClassId} {M : Mem} {Ps : Nat → Nat → Int} {mr k q hv ed : Nat} {o : Wo} {Hs : Nat → Fw} (hS : MS M Ps mr (q, hv, ed, o) Hs k) {n9 u9 w9 : Int} (hn9 : rg n9) (hu9 : rg u9) (hw9 : rg w9) : Ci l D B cy yX12_syllableAt cX12_syllableAt 5 (some .int) 10 233 [.ref (B + 146), .int (zI n9), .int (zI u9), .int (zI w9)] M (fun r M1 => r = zI (ofA Ps mr (q, hv, ed, o) n9 (sylA u9 w9))) := by
  refine s_any (by decide) (Nat.le_of_ble_eq_true rfl) ?_
  intro p e s m below meth c ls F hr hlocks w hl
  have F : CallFix p m c cX12_syllableAt 5 s _ TB RX12 := F
  have hx := F.1
  have hb := F.2.1
  have hl : lv_has ls 5 [(0, .ref (B + 146)), (1, .int (zI n9)), (2, .int (zI u9)), (3, .int (zI w9))] := hl
  have hm8 := hS.1.1
  have hk12 := hS.2.2.2.2.1
  have hC : TW M q hv ed o := hS.T
  have hW : isR M 147 o.1 q hv ed o.2.1 o.2.2 := hC.1
  have hwf := hC.wf
  have hKL := hwf.2.2.2.2
  have hn12 := hwf.1
  have hq12 := hwf.2.1
  have hhv := hwf.2.2.1
  have hed := hwf.2.2.2.1
  refine lv_aload_n hx hb wdX12_syllableAt_0 rfl (lv_at hl 0 rfl) ?_
  refine lv_iload_n hx hb wdX12_syllableAt_1 rfl (lv_at hl 1 rfl) ?_
  refine k_Vi F w (As := [.int (zI n9)]) (rest := []) (a := 146) (kd_lt (a := 146) (show kd 146 = (12, 0, 0) from rfl) (by decide)) (sh_12 rfl _ _) rfl (m_lays hS (n9 := n9) (by omega)) wgv_X12_261 whv_X12_lays ⟨(Nat.le_of_ble_eq_true rfl), (Nat.le_of_ble_eq_true rfl)⟩ hl.1 rfl (Nat.le_of_ble_eq_true rfl) ⟨Nat.zero_le _, Nat.zero_le _⟩ wdX12_syllableAt_2 (fun r Ma1 H locs hp w => ?_)
  rcases hp with ⟨nn, rfl, hnn, rfl, z9, hRs⟩ | ⟨hnc, rfl⟩
  · obtain ⟨o1, ho1⟩ : ∃ o1, o1 = sg9 Ps (q, hv, ed, o) nn := ⟨_, rfl⟩
    have hR : RW Ma1 q hv ed o1 z9 := by rw [ho1]; exact hRs
    have hW1 := hR.1
    have hwf1 := hR.wf
    have hKL1 := hwf1.2.2.2.2
    have hn1 := hwf1.1
    have hc1 := hR.2.2.2.2
    refine z_if_eq (tgt := 19) hx hb (by omega) wdX12_syllableAt_5 (by decide) (fun c2 => False.elim (by omega)) (fun c2 => ?_)
    refine lv_aload_n hx hb wdX12_syllableAt_8 rfl (lv_at hl 0 rfl) ?_
    refine f_12_2 F w (a := 146) rfl wtb_102 wdX12_syllableAt_9 ?_
    refine lv_iload_n hx hb wdX12_syllableAt_12 rfl (lv_at hl 2 rfl) ?_
    refine k_Si F w (As := [.ref (B + 148), .int (zI u9)]) (rest := []) (s_X12_isSyllable (a := 148) rfl hW1 hwf1 (t := u9) (by omega)) wgs_X12_94 whs_X12_isSyllable ⟨(Nat.le_of_ble_eq_true rfl), (Nat.le_of_ble_eq_true rfl)⟩ hl.1 rfl (Nat.le_of_ble_eq_true rfl) ⟨Nat.zero_le _, Nat.zero_le _⟩ wdX12_syllableAt_13 (fun r Ma3 H locs hp w => ?_)
    rcases hp with ⟨⟨uu, rfl, huu, rfl⟩ | ⟨nuu, rfl⟩, hMe⟩
    · rw [hMe] at w
      refine z_if_ne (tgt := 21) hx hb (by omega) wdX12_syllableAt_16 (by decide) (fun c4 => ?_) (fun c4 => False.elim (by omega))
      refine lv_aload_n hx hb wdX12_syllableAt_21 rfl (lv_at hl 0 rfl) ?_
      refine f_12_2 F w (a := 146) rfl wtb_102 wdX12_syllableAt_22 ?_
      refine lv_iload_n hx hb wdX12_syllableAt_25 rfl (lv_at hl 2 rfl) ?_
      refine x_Si F w (As := [.ref (B + 148), .int (zI (uu : Int))]) (rest := []) (s_X12_tonesOf (a := 148) rfl hW1 hwf1 (j := uu) (by omega)) wgs_X12_69 whs_X12_tonesOf ⟨(Nat.le_of_ble_eq_true rfl), (Nat.le_of_ble_eq_true rfl)⟩ hl.1 rfl (Nat.le_of_ble_eq_true rfl) ⟨Nat.zero_le _, Nat.zero_le _⟩ wdX12_syllableAt_26 (fun H locs w => ?_)
      have hm4 := tmk_lt (L := o1.2.2) (j := uu) (n := o1.1) (by omega)
      refine lv_istore (lv' := [(4, .int (zI (((tmk o1.2.2 uu o1.1) : Nat) : Int))), (0, .ref (B + 146)), (1, .int (zI (nn : Int))), (2, .int (zI (uu : Int))), (3, .int (zI w9))]) hx hb wdX12_syllableAt_29 hl (by decide) rfl (fun ls hl => ?_)
      refine lv_iload_n hx hb wdX12_syllableAt_31 rfl (lv_at hl 4 rfl) ?_
      rcases (show (w9 : Int) = 0 ∨ (w9 : Int) = 1 ∨ (w9 : Int) = 2 ∨ (w9 : Int) = 3 ∨ (w9 : Int) = 4 ∨ (w9 : Int) = 5 ∨ (w9 ≠ 0 ∧ w9 ≠ 1 ∧ w9 ≠ 2 ∧ w9 ≠ 3 ∧ w9 ≠ 4 ∧ w9 ≠ 5) by omega) with c6 | c6 | c6 | c6 | c6 | c6 | c6
      · refine r_val (v := zI 0) (congrArg zI c6) ?_
        refine lv_tableIn (tgt := 72) hx hb wdX12_syllableAt_32 (by decide) (by decide) (off := 40) rfl (by decide) ?_
        refine lv_aload_n hx hb wdX12_syllableAt_72 rfl (lv_at hl 1 rfl) ?_
        refine f_12_2 F w (a := 146) rfl wtb_102 wdX12_syllableAt_73 ?_
        refine lv_bipush (v := zI 26) hx hb wdX12_syllableAt_76 (by decide) ?_
        refine g_iald F w (a := 148) rfl (j := 26) ⟨by decide, by decide⟩ (by omega) wdX12_syllableAt_78 ?_
        refine r_val (v := (zI (hv : Int))) (hW1.2.2.1) ?_
        refine lv_iload_n hx hb wdX12_syllableAt_79 rfl (lv_at hl 3 rfl) ?_
        refine k_Si F w (As := [.int (zI (hv : Int)), .int (zI (uu : Int))]) (rest := []) (s_X12_isIn (m9 := hv) (k := uu) (by omega) (by omega)) wgs_X12_51 whs_X12_isIn ⟨(Nat.le_of_ble_eq_true rfl), (Nat.le_of_ble_eq_true rfl)⟩ hl.1 rfl (Nat.le_of_ble_eq_true rfl) ⟨Nat.zero_le _, Nat.zero_le _⟩ wdX12_syllableAt_80 (fun r Ma8 H locs hp w => ?_)
        rcases hp with ⟨⟨hb7, rfl⟩ | ⟨hb7, rfl⟩, hMe⟩
        · rw [hMe] at w
          refine z_if_eq (tgt := 90) hx hb (by omega) wdX12_syllableAt_83 (by decide) (fun c9 => False.elim (by omega)) (fun c9 => ?_)
          refine lv_iconst (v := zI 1) hx hb wdX12_syllableAt_86 rfl ?_
          refine lv_goto (tgt := 91) hx hb wdX12_syllableAt_87 (by decide) ?_
          exact e_i F w hr hlocks (congrArg zI ((ofA_y hnn).trans (by rw [← ho1]; exact (sylA_0 huu c6).trans (congrArg _ (tb_h hb7 rfl)))).symm) wdX12_syllableAt_91
        · rw [hMe] at w
          refine z_if_eq (tgt := 90) hx hb (by omega) wdX12_syllableAt_83 (by decide) (fun c10 => ?_) (fun c10 => False.elim (by omega))
          refine lv_iconst (v := zI 0) hx hb wdX12_syllableAt_90 rfl ?_
          exact e_i F w hr hlocks (congrArg zI ((ofA_y hnn).trans (by rw [← ho1]; exact (sylA_0 huu c6).trans (congrArg _ (tb_n hb7 rfl)))).symm) wdX12_syllableAt_91
      · refine r_val (v := zI 1) (congrArg zI c6) ?_
        refine lv_tableIn (tgt := 92) hx hb wdX12_syllableAt_32 (by decide) (by decide) (off := 60) rfl (by decide) ?_
        refine lv_aload_n hx hb wdX12_syllableAt_92 rfl (lv_at hl 1 rfl) ?_
        refine f_12_2 F w (a := 146) rfl wtb_102 wdX12_syllableAt_93 ?_
        refine lv_bipush (v := zI 27) hx hb wdX12_syllableAt_96 (by decide) ?_
        refine g_iald F w (a := 148) rfl (j := 27) ⟨by decide, by decide⟩ (by omega) wdX12_syllableAt_98 ?_
        refine r_val (v := (zI (ed : Int))) (hW1.2.2.2.1) ?_
        refine lv_iload_n hx hb wdX12_syllableAt_99 rfl (lv_at hl 3 rfl) ?_
        refine k_Si F w (As := [.int (zI (ed : Int)), .int (zI (uu : Int))]) (rest := []) (s_X12_isIn (m9 := ed) (k := uu) (by omega) (by omega)) wgs_X12_51 whs_X12_isIn ⟨(Nat.le_of_ble_eq_true rfl), (Nat.le_of_ble_eq_true rfl)⟩ hl.1 rfl (Nat.le_of_ble_eq_true rfl) ⟨Nat.zero_le _, Nat.zero_le _⟩ wdX12_syllableAt_100 (fun r Ma12 H locs hp w => ?_)
        rcases hp with ⟨⟨hb11, rfl⟩ | ⟨hb11, rfl⟩, hMe⟩
        · rw [hMe] at w
          refine z_if_eq (tgt := 110) hx hb (by omega) wdX12_syllableAt_103 (by decide) (fun c13 => False.elim (by omega)) (fun c13 => ?_)
          refine lv_iconst (v := zI 1) hx hb wdX12_syllableAt_106 rfl ?_
          refine lv_goto (tgt := 111) hx hb wdX12_syllableAt_107 (by decide) ?_
          exact e_i F w hr hlocks (congrArg zI ((ofA_y hnn).trans (by rw [← ho1]; exact (sylA_1 huu c6).trans (congrArg _ (tb_h hb11 rfl)))).symm) wdX12_syllableAt_111
        · rw [hMe] at w
          refine z_if_eq (tgt := 110) hx hb (by omega) wdX12_syllableAt_103 (by decide) (fun c14 => ?_) (fun c14 => False.elim (by omega))
          refine lv_iconst (v := zI 0) hx hb wdX12_syllableAt_110 rfl ?_
          exact e_i F w hr hlocks (congrArg zI ((ofA_y hnn).trans (by rw [← ho1]; exact (sylA_1 huu c6).trans (congrArg _ (tb_n hb11 rfl)))).symm) wdX12_syllableAt_111
      · refine r_val (v := zI 2) (congrArg zI c6) ?_
        refine lv_tableIn (tgt := 112) hx hb wdX12_syllableAt_32 (by decide) (by decide) (off := 80) rfl (by decide) ?_
        refine lv_iload hx hb wdX12_syllableAt_112 (lv_at hl 0 rfl) ?_
        refine x_Si F w (As := [.int (zI (((tmk o1.2.2 uu o1.1) : Nat) : Int))]) (rest := []) (s_X12_bitsOf (m9 := (tmk o1.2.2 uu o1.1)) (by omega)) wgs_X12_76 whs_X12_bitsOf ⟨(Nat.le_of_ble_eq_true rfl), (Nat.le_of_ble_eq_true rfl)⟩ hl.1 rfl (Nat.le_of_ble_eq_true rfl) ⟨Nat.zero_le _, Nat.zero_le _⟩ wdX12_syllableAt_114 (fun H locs w => ?_)
        have hp14 := (pop_le (tmk o1.2.2 uu o1.1) (by omega)).1
        exact e_i F w hr hlocks (congrArg zI ((ofA_y hnn).trans (by rw [← ho1]; exact sylA_2 huu c6)).symm) wdX12_syllableAt_117
      · refine r_val (v := zI 3) (congrArg zI c6) ?_
        refine lv_tableIn (tgt := 118) hx hb wdX12_syllableAt_32 (by decide) (by decide) (off := 86) rfl (by decide) ?_
        refine lv_iload hx hb wdX12_syllableAt_118 (lv_at hl 0 rfl) ?_
        refine x_Si F w (As := [.int (zI (((tmk o1.2.2 uu o1.1) : Nat) : Int))]) (rest := []) (s_X12_firstOf (m9 := (tmk o1.2.2 uu o1.1)) (by omega)) wgs_X12_63 whs_X12_firstOf ⟨(Nat.le_of_ble_eq_true rfl), (Nat.le_of_ble_eq_true rfl)⟩ hl.1 rfl (Nat.le_of_ble_eq_true rfl) ⟨Nat.zero_le _, Nat.zero_le _⟩ wdX12_syllableAt_120 (fun H locs w => ?_)
        have hw15 := lowI_rg (tmk o1.2.2 uu o1.1) (by omega)
        refine x_Si F w (As := [.int (zI (lowI (tmk o1.2.2 uu o1.1)))]) (rest := []) (k_orNeither (x9 := (lowI (tmk o1.2.2 uu o1.1))) (by omega)) wgs_X12_285 whs_X12_orNeither ⟨(Nat.le_of_ble_eq_true rfl), (Nat.le_of_ble_eq_true rfl)⟩ hl.1 rfl (Nat.le_of_ble_eq_true rfl) ⟨Nat.zero_le _, Nat.zero_le _⟩ wdX12_syllableAt_123 (fun H locs w => ?_)
        have hon16 := orN_b (lowI (tmk o1.2.2 uu o1.1)) (by omega) (by omega)
        exact e_i F w hr hlocks (congrArg zI ((ofA_y hnn).trans (by rw [← ho1]; exact sylA_3 huu c6)).symm) wdX12_syllableAt_126
      · refine r_val (v := zI 4) (congrArg zI c6) ?_
        refine lv_tableIn (tgt := 127) hx hb wdX12_syllableAt_32 (by decide) (by decide) (off := 95) rfl (by decide) ?_
        refine lv_iload hx hb wdX12_syllableAt_127 (lv_at hl 0 rfl) ?_
        refine x_Si F w (As := [.int (zI (((tmk o1.2.2 uu o1.1) : Nat) : Int))]) (rest := []) (s_X12_lastOf (m9 := (tmk o1.2.2 uu o1.1)) (by omega)) wgs_X12_59 whs_X12_lastOf ⟨(Nat.le_of_ble_eq_true rfl), (Nat.le_of_ble_eq_true rfl)⟩ hl.1 rfl (Nat.le_of_ble_eq_true rfl) ⟨Nat.zero_le _, Nat.zero_le _⟩ wdX12_syllableAt_129 (fun H locs w => ?_)
        have hw17 := higI_rg (tmk o1.2.2 uu o1.1) (by omega)
        refine x_Si F w (As := [.int (zI (higI (tmk o1.2.2 uu o1.1)))]) (rest := []) (k_orNeither (x9 := (higI (tmk o1.2.2 uu o1.1))) (by omega)) wgs_X12_285 whs_X12_orNeither ⟨(Nat.le_of_ble_eq_true rfl), (Nat.le_of_ble_eq_true rfl)⟩ hl.1 rfl (Nat.le_of_ble_eq_true rfl) ⟨Nat.zero_le _, Nat.zero_le _⟩ wdX12_syllableAt_132 (fun H locs w => ?_)
        have hon18 := orN_b (higI (tmk o1.2.2 uu o1.1)) (by omega) (by omega)
        exact e_i F w hr hlocks (congrArg zI ((ofA_y hnn).trans (by rw [← ho1]; exact sylA_4 huu c6)).symm) wdX12_syllableAt_135
      · refine r_val (v := zI 5) (congrArg zI c6) ?_
        refine lv_tableIn (tgt := 136) hx hb wdX12_syllableAt_32 (by decide) (by decide) (off := 104) rfl (by decide) ?_
        refine lv_aload_n hx hb wdX12_syllableAt_136 rfl (lv_at hl 1 rfl) ?_
        refine lv_iload_n hx hb wdX12_syllableAt_137 rfl (lv_at hl 3 rfl) ?_
        refine x_Vi F w (As := [.int (zI (uu : Int))]) (rest := []) (a := 146) (kd_lt (a := 146) (show kd 146 = (12, 0, 0) from rfl) (by decide)) (sh_12 rfl _ _) rfl (k_reading hR (j9 := uu) (by omega)) wgv_X12_288 whv_X12_reading ⟨(Nat.le_of_ble_eq_true rfl), (Nat.le_of_ble_eq_true rfl)⟩ hl.1 rfl (Nat.le_of_ble_eq_true rfl) ⟨Nat.zero_le _, Nat.zero_le _⟩ wdX12_syllableAt_138 (fun H locs w => ?_)
        have hrw := rdW_b (s := uu) hR.2.1
        exact e_i F w hr hlocks (congrArg zI ((ofA_y hnn).trans (by rw [← ho1]; exact sylA_5 huu c6)).symm) wdX12_syllableAt_141
      · refine lv_tableOut (tgt := 142) hx hb wdX12_syllableAt_32 (by rw [zI_toInt (by omega)]; omega) (by decide) ?_
        refine lv_iconst (v := zI (-1)) hx hb wdX12_syllableAt_142 rfl ?_
        exact e_i F w hr hlocks (congrArg zI ((ofA_y hnn).trans (by rw [← ho1]; exact sylA_d huu c6)).symm) wdX12_syllableAt_143
    · rw [hMe] at w
      refine z_if_ne (tgt := 21) hx hb (by omega) wdX12_syllableAt_16 (by decide) (fun c21 => False.elim (by omega)) (fun c21 => ?_)
      refine lv_iconst (v := zI (-1)) hx hb wdX12_syllableAt_19 rfl ?_
      exact e_i F w hr hlocks (congrArg zI ((ofA_y hnn).trans (by rw [← ho1]; exact sylA_n nuu)).symm) wdX12_syllableAt_20
  · refine z_if_eq (tgt := 19) hx hb (by omega) wdX12_syllableAt_5 (by decide) (fun c22 => ?_) (fun c22 => False.elim (by omega))
    refine lv_iconst (v := zI (-1)) hx hb wdX12_syllableAt_19 rfl ?_
    exact e_i F w hr hlocks (congrArg zI (ofA_n hnc).symm) wdX12_syllableAt_20
theorem wdX12_linesOf_0 : decode cX12_linesOf 0 = .ok (.aload_n 0, 1) := by decide +kernel
theorem wdX12_linesOf_1 : decode cX12_linesOf 1 = .ok (.iload_n 1, 1) := by decide +kernel
theorem wdX12_linesOf_2 : decode cX12_linesOf 2 = .ok (.invokevirtual 261, 3) := by decide +kernel
theorem wdX12_linesOf_5 : decode cX12_linesOf 5 = .ok (.ifCond .eq 26, 3) := by decide +kernel
theorem wdX12_linesOf_8 : decode cX12_linesOf 8 = .ok (.aload_n 0, 1) := by decide +kernel
theorem wdX12_linesOf_9 : decode cX12_linesOf 9 = .ok (.getfield 17, 3) := by decide +kernel
theorem wdX12_linesOf_12 : decode cX12_linesOf 12 = .ok (.iload_n 2, 1) := by decide +kernel
theorem wdX12_linesOf_13 : decode cX12_linesOf 13 = .ok (.invokestatic 105, 3) := by decide +kernel
theorem wdX12_linesOf_16 : decode cX12_linesOf 16 = .ok (.ifCond .eq 15, 3) := by decide +kernel
theorem wdX12_linesOf_19 : decode cX12_linesOf 19 = .ok (.aload_n 0, 1) := by decide +kernel
theorem wdX12_linesOf_20 : decode cX12_linesOf 20 = .ok (.getfield 17, 3) := by decide +kernel
theorem wdX12_linesOf_23 : decode cX12_linesOf 23 = .ok (.bipush 13, 2) := by decide +kernel
theorem wdX12_linesOf_25 : decode cX12_linesOf 25 = .ok (.iload_n 2, 1) := by decide +kernel
theorem wdX12_linesOf_26 : decode cX12_linesOf 26 = .ok (.iadd, 1) := by decide +kernel
theorem wdX12_linesOf_27 : decode cX12_linesOf 27 = .ok (.iaload, 1) := by decide +kernel
theorem wdX12_linesOf_28 : decode cX12_linesOf 28 = .ok (.goto 4, 3) := by decide +kernel
theorem wdX12_linesOf_32 : decode cX12_linesOf 32 = .ok (.ireturn, 1) := by decide +kernel
theorem wdX12_linesOf_31 : decode cX12_linesOf 31 = .ok (.iconst (-1), 1) := by decide +kernel
set_option maxRecDepth 4000 in
theorem k_linesOf {l : Launch} {D : va_G} {B : Nat} {cy : Nat → ClassId} {M : Mem} {Ps : Nat → Nat → Int} {mr k q hv ed : Nat} {o : Wo} {Hs : Nat → Fw} (hS : MS M Ps mr (q, hv, ed, o) Hs k) {n9 t9 : Int} (hn9 : rg n9) (ht9 : rg t9) : Ci l D B cy yX12_linesOf cX12_linesOf 3 (some .int) 10 233 [.ref (B + 146), .int (zI n9), .int (zI t9)] M (fun r M1 => r = zI (ofA Ps mr (q, hv, ed, o) n9 (linA t9))) := by
  refine s_any (by decide) (Nat.le_of_ble_eq_true rfl) ?_
  intro p e s m below meth c ls F hr hlocks w hl
  have F : CallFix p m c cX12_linesOf 3 s _ TB RX12 := F
  have hx := F.1
  have hb := F.2.1
  have hl : lv_has ls 3 [(0, .ref (B + 146)), (1, .int (zI n9)), (2, .int (zI t9))] := hl
  have hm8 := hS.1.1
  have hk12 := hS.2.2.2.2.1
  have hC : TW M q hv ed o := hS.T
  have hW : isR M 147 o.1 q hv ed o.2.1 o.2.2 := hC.1
  have hwf := hC.wf
  have hKL := hwf.2.2.2.2
  have hn12 := hwf.1
  have hq12 := hwf.2.1
  have hhv := hwf.2.2.1
  have hed := hwf.2.2.2.1
  refine lv_aload_n hx hb wdX12_linesOf_0 rfl (lv_at hl 0 rfl) ?_
  refine lv_iload_n hx hb wdX12_linesOf_1 rfl (lv_at hl 1 rfl) ?_
  refine k_Vi F w (As := [.int (zI n9)]) (rest := []) (a := 146) (kd_lt (a := 146) (show kd 146 = (12, 0, 0) from rfl) (by decide)) (sh_12 rfl _ _) rfl (m_lays hS (n9 := n9) (by omega)) wgv_X12_261 whv_X12_lays ⟨(Nat.le_of_ble_eq_true rfl), (Nat.le_of_ble_eq_true rfl)⟩ hl.1 rfl (Nat.le_of_ble_eq_true rfl) ⟨Nat.zero_le _, Nat.zero_le _⟩ wdX12_linesOf_2 (fun r Ma1 H locs hp w => ?_)
  rcases hp with ⟨nn, rfl, hnn, rfl, z9, hRs⟩ | ⟨hnc, rfl⟩
  · obtain ⟨o1, ho1⟩ : ∃ o1, o1 = sg9 Ps (q, hv, ed, o) nn := ⟨_, rfl⟩
    have hR : RW Ma1 q hv ed o1 z9 := by rw [ho1]; exact hRs
    have hW1 := hR.1
    have hwf1 := hR.wf
    have hKL1 := hwf1.2.2.2.2
    have hn1 := hwf1.1
    have hc1 := hR.2.2.2.2
    refine z_if_eq (tgt := 31) hx hb (by omega) wdX12_linesOf_5 (by decide) (fun c2 => False.elim (by omega)) (fun c2 => ?_)
    refine lv_aload_n hx hb wdX12_linesOf_8 rfl (lv_at hl 0 rfl) ?_
    refine f_12_2 F w (a := 146) rfl wtb_102 wdX12_linesOf_9 ?_
    refine lv_iload_n hx hb wdX12_linesOf_12 rfl (lv_at hl 2 rfl) ?_
    refine k_Si F w (As := [.ref (B + 148), .int (zI t9)]) (rest := []) (s_X12_isTone (a := 148) rfl hW1 hwf1 (t := t9) (by omega)) wgs_X12_105 whs_X12_isTone ⟨(Nat.le_of_ble_eq_true rfl), (Nat.le_of_ble_eq_true rfl)⟩ hl.1 rfl (Nat.le_of_ble_eq_true rfl) ⟨Nat.zero_le _, Nat.zero_le _⟩ wdX12_linesOf_13 (fun r Ma3 H locs hp w => ?_)
    rcases hp with ⟨⟨tt, rfl, htt, rfl⟩ | ⟨ntt, rfl⟩, hMe⟩
    · rw [hMe] at w
      refine z_if_eq (tgt := 31) hx hb (by omega) wdX12_linesOf_16 (by decide) (fun c4 => False.elim (by omega)) (fun c4 => ?_)
      refine lv_aload_n hx hb wdX12_linesOf_19 rfl (lv_at hl 0 rfl) ?_
      refine f_12_2 F w (a := 146) rfl wtb_102 wdX12_linesOf_20 ?_
      refine lv_bipush (v := zI 13) hx hb wdX12_linesOf_23 (by decide) ?_
      refine lv_iload_n hx hb wdX12_linesOf_25 rfl (lv_at hl 2 rfl) ?_
      refine z_iadd (z := (((13 + tt) : Nat) : Int)) hx hb wdX12_linesOf_26 (by omega) ?_
      refine g_iald F w (a := 148) rfl (j := (13 + tt)) (ix_n (by omega)) (by omega) wdX12_linesOf_27 ?_
      have hL4 := (hKL1 tt (by omega)).2
      refine r_val (v := (zI (((o1.2.2 tt) : Nat) : Int))) (hW1.2.2.2.2.2 tt (by omega)) ?_
      refine lv_goto (tgt := 32) hx hb wdX12_linesOf_28 (by decide) ?_
      exact e_i F w hr hlocks (congrArg zI ((ofA_y hnn).trans (by rw [← ho1]; exact linA_y htt)).symm) wdX12_linesOf_32
    · rw [hMe] at w
      refine z_if_eq (tgt := 31) hx hb (by omega) wdX12_linesOf_16 (by decide) (fun c5 => ?_) (fun c5 => False.elim (by omega))
      refine lv_iconst (v := zI (-1)) hx hb wdX12_linesOf_31 rfl ?_
      exact e_i F w hr hlocks (congrArg zI ((ofA_y hnn).trans (by rw [← ho1]; exact linA_n ntt)).symm) wdX12_linesOf_32
  · refine z_if_eq (tgt := 31) hx hb (by omega) wdX12_linesOf_5 (by decide) (fun c6 => ?_) (fun c6 => False.elim (by omega))
    refine lv_iconst (v := zI (-1)) hx hb wdX12_linesOf_31 rfl ?_
    exact e_i F w hr hlocks (congrArg zI (ofA_n hnc).symm) wdX12_linesOf_32
theorem wdX12_open_0 : decode cX12_open 0 = .ok (.aload_n 0, 1) := by decide +kernel
theorem wdX12_open_1 : decode cX12_open 1 = .ok (.iload_n 1, 1) := by decide +kernel
theorem wdX12_open_2 : decode cX12_open 2 = .ok (.invokevirtual 261, 3) := by decide +kernel
theorem wdX12_open_5 : decode cX12_open 5 = .ok (.ifCond .eq 25, 3) := by decide +kernel
theorem wdX12_open_8 : decode cX12_open 8 = .ok (.aload_n 0, 1) := by decide +kernel
theorem wdX12_open_9 : decode cX12_open 9 = .ok (.getfield 17, 3) := by decide +kernel
theorem wdX12_open_12 : decode cX12_open 12 = .ok (.iload_n 2, 1) := by decide +kernel
theorem wdX12_open_13 : decode cX12_open 13 = .ok (.invokestatic 105, 3) := by decide +kernel
theorem wdX12_open_16 : decode cX12_open 16 = .ok (.ifCond .eq 14, 3) := by decide +kernel
theorem wdX12_open_19 : decode cX12_open 19 = .ok (.aload_n 0, 1) := by decide +kernel
theorem wdX12_open_20 : decode cX12_open 20 = .ok (.getfield 17, 3) := by decide +kernel
theorem wdX12_open_23 : decode cX12_open 23 = .ok (.iload_n 3, 1) := by decide +kernel
theorem wdX12_open_24 : decode cX12_open 24 = .ok (.invokestatic 94, 3) := by decide +kernel
theorem wdX12_open_27 : decode cX12_open 27 = .ok (.ifCond .ne 5, 3) := by decide +kernel
theorem wdX12_open_32 : decode cX12_open 32 = .ok (.aload_n 0, 1) := by decide +kernel
theorem wdX12_open_33 : decode cX12_open 33 = .ok (.getfield 17, 3) := by decide +kernel
theorem wdX12_open_36 : decode cX12_open 36 = .ok (.iload_n 2, 1) := by decide +kernel
theorem wdX12_open_37 : decode cX12_open 37 = .ok (.iload_n 3, 1) := by decide +kernel
theorem wdX12_open_38 : decode cX12_open 38 = .ok (.invokestatic 86, 3) := by decide +kernel
theorem wdX12_open_41 : decode cX12_open 41 = .ok (.ifCond .eq 7, 3) := by decide +kernel
theorem wdX12_open_44 : decode cX12_open 44 = .ok (.iconst 1, 1) := by decide +kernel
theorem wdX12_open_45 : decode cX12_open 45 = .ok (.goto 4, 3) := by decide +kernel
theorem wdX12_open_49 : decode cX12_open 49 = .ok (.ireturn, 1) := by decide +kernel
theorem wdX12_open_48 : decode cX12_open 48 = .ok (.iconst 0, 1) := by decide +kernel
theorem wdX12_open_30 : decode cX12_open 30 = .ok (.iconst (-1), 1) := by decide +kernel
theorem wdX12_open_31 : decode cX12_open 31 = .ok (.ireturn, 1) := by decide +kernel
set_option maxRecDepth 4000 in
theorem k_open {l : Launch} {D : va_G} {B : Nat} {cy : Nat → ClassId} {M : Mem} {Ps : Nat → Nat → Int} {mr k q hv ed : Nat} {o : Wo} {Hs : Nat → Fw} (hS : MS M Ps mr (q, hv, ed, o) Hs k) {n9 t9 u9 : Int} (hn9 : rg n9) (ht9 : rg t9) (hu9 : rg u9) : Ci l D B cy yX12_open cX12_open 4 (some .int) 10 233 [.ref (B + 146), .int (zI n9), .int (zI t9), .int (zI u9)] M (fun r M1 => r = zI (ofA Ps mr (q, hv, ed, o) n9 (opnA t9 u9))) := by
  refine s_any (by decide) (Nat.le_of_ble_eq_true rfl) ?_
  intro p e s m below meth c ls F hr hlocks w hl
  have F : CallFix p m c cX12_open 4 s _ TB RX12 := F
  have hx := F.1
  have hb := F.2.1
  have hl : lv_has ls 4 [(0, .ref (B + 146)), (1, .int (zI n9)), (2, .int (zI t9)), (3, .int (zI u9))] := hl
  have hm8 := hS.1.1
  have hk12 := hS.2.2.2.2.1
  have hC : TW M q hv ed o := hS.T
  have hW : isR M 147 o.1 q hv ed o.2.1 o.2.2 := hC.1
  have hwf := hC.wf
  have hKL := hwf.2.2.2.2
  have hn12 := hwf.1
  have hq12 := hwf.2.1
  have hhv := hwf.2.2.1
  have hed := hwf.2.2.2.1
  refine lv_aload_n hx hb wdX12_open_0 rfl (lv_at hl 0 rfl) ?_
  refine lv_iload_n hx hb wdX12_open_1 rfl (lv_at hl 1 rfl) ?_
  refine k_Vi F w (As := [.int (zI n9)]) (rest := []) (a := 146) (kd_lt (a := 146) (show kd 146 = (12, 0, 0) from rfl) (by decide)) (sh_12 rfl _ _) rfl (m_lays hS (n9 := n9) (by omega)) wgv_X12_261 whv_X12_lays ⟨(Nat.le_of_ble_eq_true rfl), (Nat.le_of_ble_eq_true rfl)⟩ hl.1 rfl (Nat.le_of_ble_eq_true rfl) ⟨Nat.zero_le _, Nat.zero_le _⟩ wdX12_open_2 (fun r Ma1 H locs hp w => ?_)
  rcases hp with ⟨nn, rfl, hnn, rfl, z9, hRs⟩ | ⟨hnc, rfl⟩
  · obtain ⟨o1, ho1⟩ : ∃ o1, o1 = sg9 Ps (q, hv, ed, o) nn := ⟨_, rfl⟩
    have hR : RW Ma1 q hv ed o1 z9 := by rw [ho1]; exact hRs
    have hW1 := hR.1
    have hwf1 := hR.wf
    have hKL1 := hwf1.2.2.2.2
    have hn1 := hwf1.1
    have hc1 := hR.2.2.2.2
    refine z_if_eq (tgt := 30) hx hb (by omega) wdX12_open_5 (by decide) (fun c2 => False.elim (by omega)) (fun c2 => ?_)
    refine lv_aload_n hx hb wdX12_open_8 rfl (lv_at hl 0 rfl) ?_
    refine f_12_2 F w (a := 146) rfl wtb_102 wdX12_open_9 ?_
    refine lv_iload_n hx hb wdX12_open_12 rfl (lv_at hl 2 rfl) ?_
    refine k_Si F w (As := [.ref (B + 148), .int (zI t9)]) (rest := []) (s_X12_isTone (a := 148) rfl hW1 hwf1 (t := t9) (by omega)) wgs_X12_105 whs_X12_isTone ⟨(Nat.le_of_ble_eq_true rfl), (Nat.le_of_ble_eq_true rfl)⟩ hl.1 rfl (Nat.le_of_ble_eq_true rfl) ⟨Nat.zero_le _, Nat.zero_le _⟩ wdX12_open_13 (fun r Ma3 H locs hp w => ?_)
    rcases hp with ⟨⟨tt, rfl, htt, rfl⟩ | ⟨ntt, rfl⟩, hMe⟩
    · rw [hMe] at w
      refine z_if_eq (tgt := 30) hx hb (by omega) wdX12_open_16 (by decide) (fun c4 => False.elim (by omega)) (fun c4 => ?_)
      refine lv_aload_n hx hb wdX12_open_19 rfl (lv_at hl 0 rfl) ?_
      refine f_12_2 F w (a := 146) rfl wtb_102 wdX12_open_20 ?_
      refine lv_iload_n hx hb wdX12_open_23 rfl (lv_at hl 3 rfl) ?_
      refine k_Si F w (As := [.ref (B + 148), .int (zI u9)]) (rest := []) (s_X12_isSyllable (a := 148) rfl hW1 hwf1 (t := u9) (by omega)) wgs_X12_94 whs_X12_isSyllable ⟨(Nat.le_of_ble_eq_true rfl), (Nat.le_of_ble_eq_true rfl)⟩ hl.1 rfl (Nat.le_of_ble_eq_true rfl) ⟨Nat.zero_le _, Nat.zero_le _⟩ wdX12_open_24 (fun r Ma5 H locs hp w => ?_)
      rcases hp with ⟨⟨uu, rfl, huu, rfl⟩ | ⟨nuu, rfl⟩, hMe⟩
      · rw [hMe] at w
        refine z_if_ne (tgt := 32) hx hb (by omega) wdX12_open_27 (by decide) (fun c6 => ?_) (fun c6 => False.elim (by omega))
        refine lv_aload_n hx hb wdX12_open_32 rfl (lv_at hl 0 rfl) ?_
        refine f_12_2 F w (a := 146) rfl wtb_102 wdX12_open_33 ?_
        refine lv_iload_n hx hb wdX12_open_36 rfl (lv_at hl 2 rfl) ?_
        refine lv_iload_n hx hb wdX12_open_37 rfl (lv_at hl 3 rfl) ?_
        refine k_Si F w (As := [.ref (B + 148), .int (zI (tt : Int)), .int (zI (uu : Int))]) (rest := []) (s_X12_isOpen (a := 148) rfl hW1 hwf1 (t := tt) (j := uu) (by omega) (by omega)) wgs_X12_86 whs_X12_isOpen ⟨(Nat.le_of_ble_eq_true rfl), (Nat.le_of_ble_eq_true rfl)⟩ hl.1 rfl (Nat.le_of_ble_eq_true rfl) ⟨Nat.zero_le _, Nat.zero_le _⟩ wdX12_open_38 (fun r Ma7 H locs hp w => ?_)
        rcases hp with ⟨⟨ho8, rfl⟩ | ⟨ho8, rfl⟩, hMe⟩
        · rw [hMe] at w
          refine z_if_eq (tgt := 48) hx hb (by omega) wdX12_open_41 (by decide) (fun c8 => False.elim (by omega)) (fun c8 => ?_)
          refine lv_iconst (v := zI 1) hx hb wdX12_open_44 rfl ?_
          refine lv_goto (tgt := 49) hx hb wdX12_open_45 (by decide) ?_
          exact e_i F w hr hlocks (congrArg zI ((ofA_y hnn).trans (by rw [← ho1]; exact opnA_1 htt huu ho8)).symm) wdX12_open_49
        · rw [hMe] at w
          refine z_if_eq (tgt := 48) hx hb (by omega) wdX12_open_41 (by decide) (fun c9 => ?_) (fun c9 => False.elim (by omega))
          refine lv_iconst (v := zI 0) hx hb wdX12_open_48 rfl ?_
          exact e_i F w hr hlocks (congrArg zI ((ofA_y hnn).trans (by rw [← ho1]; exact opnA_0 htt huu ho8)).symm) wdX12_open_49
      · rw [hMe] at w
        refine z_if_ne (tgt := 32) hx hb (by omega) wdX12_open_27 (by decide) (fun c10 => False.elim (by omega)) (fun c10 => ?_)
        refine lv_iconst (v := zI (-1)) hx hb wdX12_open_30 rfl ?_
        exact e_i F w hr hlocks (congrArg zI ((ofA_y hnn).trans (by rw [← ho1]; exact opnA_n (fun h9 => nuu h9.2.2))).symm) wdX12_open_31
    · rw [hMe] at w
      refine z_if_eq (tgt := 30) hx hb (by omega) wdX12_open_16 (by decide) (fun c11 => ?_) (fun c11 => False.elim (by omega))
      refine lv_iconst (v := zI (-1)) hx hb wdX12_open_30 rfl ?_
      exact e_i F w hr hlocks (congrArg zI ((ofA_y hnn).trans (by rw [← ho1]; exact opnA_n (fun h9 => ntt ⟨h9.1, h9.2.1⟩))).symm) wdX12_open_31
  · refine z_if_eq (tgt := 30) hx hb (by omega) wdX12_open_5 (by decide) (fun c12 => ?_) (fun c12 => False.elim (by omega))
    refine lv_iconst (v := zI (-1)) hx hb wdX12_open_30 rfl ?_
    exact e_i F w hr hlocks (congrArg zI (ofA_n hnc).symm) wdX12_open_31
