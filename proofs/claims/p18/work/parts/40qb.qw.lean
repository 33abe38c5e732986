theorem wdX9_fallsUpTo_10 : decode cX9_fallsUpTo 10 = .ok (.iload 5, 2) := dX9_fallsUpTo_10
theorem wdX9_fallsUpTo_12 : decode cX9_fallsUpTo 12 = .ok (.iload_n 1, 1) := dX9_fallsUpTo_12
theorem wdX9_fallsUpTo_13 : decode cX9_fallsUpTo 13 = .ok (.if_icmp .gt 62, 3) := dX9_fallsUpTo_13
theorem wdX9_fallsUpTo_16 : decode cX9_fallsUpTo 16 = .ok (.iload 5, 2) := dX9_fallsUpTo_16
theorem wdX9_fallsUpTo_18 : decode cX9_fallsUpTo 18 = .ok (.aload_n 0, 1) := dX9_fallsUpTo_18
theorem wdX9_fallsUpTo_19 : decode cX9_fallsUpTo 19 = .ok (.getfield 9, 3) := dX9_fallsUpTo_19
theorem wdX9_fallsUpTo_22 : decode cX9_fallsUpTo 22 = .ok (.if_icmp .ge 53, 3) := dX9_fallsUpTo_22
theorem wdX9_fallsUpTo_25 : decode cX9_fallsUpTo 25 = .ok (.aload_n 0, 1) := dX9_fallsUpTo_25
theorem wdX9_fallsUpTo_26 : decode cX9_fallsUpTo 26 = .ok (.getfield 24, 3) := dX9_fallsUpTo_26
theorem wtb_301 : Cond.fieldLink "ToneLines$Word" 24 "ToneLines$Word" "kinds" "[I" ∈ TB := tb_7
theorem wdX9_fallsUpTo_29 : decode cX9_fallsUpTo 29 = .ok (.iload 5, 2) := dX9_fallsUpTo_29
theorem wdX9_fallsUpTo_31 : decode cX9_fallsUpTo 31 = .ok (.iaload, 1) := dX9_fallsUpTo_31
theorem wdX9_fallsUpTo_32 : decode cX9_fallsUpTo 32 = .ok (.ifCond .ne 9, 3) := dX9_fallsUpTo_32
theorem wdX9_fallsUpTo_41 : decode cX9_fallsUpTo 41 = .ok (.aload_n 0, 1) := dX9_fallsUpTo_41
theorem wdX9_fallsUpTo_42 : decode cX9_fallsUpTo 42 = .ok (.getfield 24, 3) := dX9_fallsUpTo_42
theorem wdX9_fallsUpTo_45 : decode cX9_fallsUpTo 45 = .ok (.iload 5, 2) := dX9_fallsUpTo_45
theorem wdX9_fallsUpTo_47 : decode cX9_fallsUpTo 47 = .ok (.iaload, 1) := dX9_fallsUpTo_47
theorem wdX9_fallsUpTo_48 : decode cX9_fallsUpTo 48 = .ok (.iconst 2, 1) := dX9_fallsUpTo_48
theorem wdX9_fallsUpTo_49 : decode cX9_fallsUpTo 49 = .ok (.if_icmp .ne 20, 3) := dX9_fallsUpTo_49
theorem wdX9_fallsUpTo_69 : decode cX9_fallsUpTo 69 = .ok (.iinc 5 1, 3) := dX9_fallsUpTo_69
theorem wdX9_fallsUpTo_72 : decode cX9_fallsUpTo 72 = .ok (.goto (-62), 3) := dX9_fallsUpTo_72
theorem wdX9_fallsUpTo_52 : decode cX9_fallsUpTo 52 = .ok (.iload_n 3, 1) := dX9_fallsUpTo_52
theorem wdX9_fallsUpTo_53 : decode cX9_fallsUpTo 53 = .ok (.ifCond .eq 11, 3) := dX9_fallsUpTo_53
theorem wdX9_fallsUpTo_64 : decode cX9_fallsUpTo 64 = .ok (.iconst 1, 1) := dX9_fallsUpTo_64
theorem wdX9_fallsUpTo_65 : decode cX9_fallsUpTo 65 = .ok (.istore_n 3, 1) := dX9_fallsUpTo_65
theorem wdX9_fallsUpTo_66 : decode cX9_fallsUpTo 66 = .ok (.iconst 0, 1) := dX9_fallsUpTo_66
theorem wdX9_fallsUpTo_67 : decode cX9_fallsUpTo 67 = .ok (.istore 4, 2) := dX9_fallsUpTo_67
theorem wdX9_fallsUpTo_56 : decode cX9_fallsUpTo 56 = .ok (.iload 4, 2) := dX9_fallsUpTo_56
theorem wdX9_fallsUpTo_58 : decode cX9_fallsUpTo 58 = .ok (.ifCond .eq 6, 3) := dX9_fallsUpTo_58
theorem wdX9_fallsUpTo_61 : decode cX9_fallsUpTo 61 = .ok (.iinc 2 1, 3) := dX9_fallsUpTo_61
theorem wdX9_fallsUpTo_35 : decode cX9_fallsUpTo 35 = .ok (.iconst 1, 1) := dX9_fallsUpTo_35
theorem wdX9_fallsUpTo_36 : decode cX9_fallsUpTo 36 = .ok (.istore 4, 2) := dX9_fallsUpTo_36
theorem wdX9_fallsUpTo_38 : decode cX9_fallsUpTo 38 = .ok (.goto 31, 3) := dX9_fallsUpTo_38
set_option maxRecDepth 4000 in
theorem lp_X9_fallsUpTo {p : Program} {l : Launch} {e : Env} {s : State} {m : MethodId} {args : Array Value} {below : List Frame} {meth : Method} {c : Code} {D : va_G} {B : Nat} {cy : Nat → ClassId} {H0 : Heap} {Q : State → Prop} {M : Mem} {R : Room} {a q hv ed m9 : Nat} {o : Wo} (F : CallFix p m c cX9_fallsUpTo 6 s args TB RX9) (hR1 : 0 ≤ R.frames) (hR2 : 0 ≤ R.locals) (hk : kd a = (9, 0, 0)) (hC : CW M a q hv ed o) (hm9 : m9 ≤ o.1) (kk : ∀ (u : Nat) (H : Heap) (locs : List Loc) (ls : Array Slot), (u = m9) → Wd D B cy s H0 M H locs → lv_has ls 6 [(2, .int (zI (((fwS o.2.1 u).1 : Nat) : Int)))] → W p l e R s m args below meth c H locs 0 0 Q (F0 m 75 ls [])) : ∀ (f : Nat) (u : Nat), (u ≤ m9) → (m9 ≤ u + f) → ∀ (H : Heap) (locs : List Loc) (ls : Array Slot), Wd D B cy s H0 M H locs → lv_has ls 6 [(5, .int (zI (u : Int))), (4, .int (zI (((fwS o.2.1 u).2.2 : Nat) : Int))), (3, .int (zI (((fwS o.2.1 u).2.1 : Nat) : Int))), (2, .int (zI (((fwS o.2.1 u).1 : Nat) : Int))), (0, .ref (B + a)), (1, .int (zI ((m9 : Int) - 1)))] → W p l e R s m args below meth c H locs 0 0 Q (F0 m 10 ls []) := by
  have hx := F.1
  have hb := F.2.1
  have hW := hC.1
  have hwf := hC.wf
  have hKL := hwf.2.2.2.2
  have hn12 := hwf.1
  have hq12 := hwf.2.1
  have hhv := hwf.2.2.1
  have hed := hwf.2.2.2.1
  intro f
  induction f with
  | zero =>
    intro u i0 hf H locs ls w hl
    have hfb := fw_b (K := o.2.1) u
    refine lv_iload hx hb wdX9_fallsUpTo_10 (lv_at hl 0 rfl) ?_
    refine lv_iload_n hx hb wdX9_fallsUpTo_12 rfl (lv_at hl 5 rfl) ?_
    refine z_icmp_gt (tgt := 75) hx hb (by omega) (by omega) wdX9_fallsUpTo_13 (by decide) (fun c1 => ?_) (fun c1 => False.elim (by omega))
    exact kk u _ _ ls (by omega) w (lv_sub hl [3] rfl)
  | succ f ih =>
    intro u i0 hf H locs ls w hl
    have hfb := fw_b (K := o.2.1) u
    refine lv_iload hx hb wdX9_fallsUpTo_10 (lv_at hl 0 rfl) ?_
    refine lv_iload_n hx hb wdX9_fallsUpTo_12 rfl (lv_at hl 5 rfl) ?_
    refine z_icmp_gt (tgt := 75) hx hb (by omega) (by omega) wdX9_fallsUpTo_13 (by decide) (fun c1 => ?_) (fun c1 => ?_)
    · exact kk u _ _ ls (by omega) w (lv_sub hl [3] rfl)
    · refine lv_iload hx hb wdX9_fallsUpTo_16 (lv_at hl 0 rfl) ?_
      refine lv_aload_n hx hb wdX9_fallsUpTo_18 rfl (lv_at hl 4 rfl) ?_
      refine f_9_0 F w (a := a) hk wtb_226 wdX9_fallsUpTo_19 ?_
      refine r_val (v := (zI ((o.1 : Nat) : Int))) (hW.1) ?_
      refine z_icmp_ge (tgt := 75) hx hb (by omega) (by omega) wdX9_fallsUpTo_22 (by decide) (fun c2 => ?_) (fun c2 => ?_)
      · exact kk u _ _ ls (by omega) w (lv_sub hl [3] rfl)
      · refine lv_aload_n hx hb wdX9_fallsUpTo_25 rfl (lv_at hl 4 rfl) ?_
        refine f_9_4 F w (a := a) hk wtb_301 wdX9_fallsUpTo_26 ?_
        refine lv_iload hx hb wdX9_fallsUpTo_29 (lv_at hl 0 rfl) ?_
        refine g_iald F w (a := (a + 1)) (kd_w1 hk) (j := u) (ix_n (by omega)) (by omega) wdX9_fallsUpTo_31 ?_
        have hK2 := (hKL u (by omega)).1
        refine r_val (v := (zI (((o.2.1 u) : Nat) : Int))) (hW.2.2.2.2.1 u (by omega)) ?_
        refine z_if_ne (tgt := 41) hx hb (by omega) wdX9_fallsUpTo_32 (by decide) (fun c3 => ?_) (fun c3 => ?_)
        · refine lv_aload_n hx hb wdX9_fallsUpTo_41 rfl (lv_at hl 4 rfl) ?_
          refine f_9_4 F w (a := a) hk wtb_301 wdX9_fallsUpTo_42 ?_
          refine lv_iload hx hb wdX9_fallsUpTo_45 (lv_at hl 0 rfl) ?_
          refine g_iald F w (a := (a + 1)) (kd_w1 hk) (j := u) (ix_n (by omega)) (by omega) wdX9_fallsUpTo_47 ?_
          have hK3 := (hKL u (by omega)).1
          refine r_val (v := (zI (((o.2.1 u) : Nat) : Int))) (hW.2.2.2.2.1 u (by omega)) ?_
          refine lv_iconst (v := zI 2) hx hb wdX9_fallsUpTo_48 rfl ?_
          refine z_icmp_ne (tgt := 69) hx hb (by omega) (by omega) wdX9_fallsUpTo_49 (by decide) (fun c4 => ?_) (fun c4 => ?_)
          · refine z_iinc (v := (((u + 1) : Nat) : Int)) (lv' := [(5, .int (zI (((u + 1) : Nat) : Int))), (4, .int (zI (((fwS o.2.1 u).2.2 : Nat) : Int))), (3, .int (zI (((fwS o.2.1 u).2.1 : Nat) : Int))), (2, .int (zI (((fwS o.2.1 u).1 : Nat) : Int))), (0, .ref (B + a)), (1, .int (zI ((m9 : Int) - 1)))]) hx hb wdX9_fallsUpTo_69 hl (k := 0) rfl (by omega) (by decide) rfl (fun ls hl => ?_)
            refine lv_goto (tgt := 10) hx hb wdX9_fallsUpTo_72 (by decide) ?_
            replace hl : lv_has ls 6 [(5, .int (zI (((u + 1) : Nat) : Int))), (4, .int (zI (((fwS o.2.1 (u + 1)).2.2 : Nat) : Int))), (3, .int (zI (((fwS o.2.1 (u + 1)).2.1 : Nat) : Int))), (2, .int (zI (((fwS o.2.1 (u + 1)).1 : Nat) : Int))), (0, .ref (B + a)), (1, .int (zI ((m9 : Int) - 1)))] := by rw [fw_1 (K := o.2.1) (u := u) (by omega) (by omega)]; exact hl
            exact ih (u + 1) (by omega) (by omega) _ _ ls w (lv_sub hl [0, 1, 2, 3, 4, 5] rfl)
          · refine lv_iload_n hx hb wdX9_fallsUpTo_52 rfl (lv_at hl 2 rfl) ?_
            refine z_if_eq (tgt := 64) hx hb (by omega) wdX9_fallsUpTo_53 (by decide) (fun c5 => ?_) (fun c5 => ?_)
            · refine lv_iconst (v := zI 1) hx hb wdX9_fallsUpTo_64 rfl ?_
              refine lv_istore_n (lv' := [(3, .int (zI 1)), (5, .int (zI (u : Int))), (4, .int (zI (((fwS o.2.1 u).2.2 : Nat) : Int))), (2, .int (zI (((fwS o.2.1 u).1 : Nat) : Int))), (0, .ref (B + a)), (1, .int (zI ((m9 : Int) - 1)))]) hx hb wdX9_fallsUpTo_65 rfl hl (by decide) rfl (fun ls hl => ?_)
              refine lv_iconst (v := zI 0) hx hb wdX9_fallsUpTo_66 rfl ?_
              refine lv_istore (lv' := [(4, .int (zI 0)), (3, .int (zI 1)), (5, .int (zI (u : Int))), (2, .int (zI (((fwS o.2.1 u).1 : Nat) : Int))), (0, .ref (B + a)), (1, .int (zI ((m9 : Int) - 1)))]) hx hb wdX9_fallsUpTo_67 hl (by decide) rfl (fun ls hl => ?_)
              refine z_iinc (v := (((u + 1) : Nat) : Int)) (lv' := [(5, .int (zI (((u + 1) : Nat) : Int))), (4, .int (zI 0)), (3, .int (zI 1)), (2, .int (zI (((fwS o.2.1 u).1 : Nat) : Int))), (0, .ref (B + a)), (1, .int (zI ((m9 : Int) - 1)))]) hx hb wdX9_fallsUpTo_69 hl (k := 2) rfl (by omega) (by decide) rfl (fun ls hl => ?_)
              refine lv_goto (tgt := 10) hx hb wdX9_fallsUpTo_72 (by decide) ?_
              replace hl : lv_has ls 6 [(5, .int (zI (((u + 1) : Nat) : Int))), (4, .int (zI (((fwS o.2.1 (u + 1)).2.2 : Nat) : Int))), (3, .int (zI (((fwS o.2.1 (u + 1)).2.1 : Nat) : Int))), (2, .int (zI (((fwS o.2.1 (u + 1)).1 : Nat) : Int))), (0, .ref (B + a)), (1, .int (zI ((m9 : Int) - 1)))] := by rw [fw_n (K := o.2.1) (u := u) (by omega) (by omega)]; exact hl
              exact ih (u + 1) (by omega) (by omega) _ _ ls w (lv_sub hl [0, 1, 2, 3, 4, 5] rfl)
            · refine lv_iload hx hb wdX9_fallsUpTo_56 (lv_at hl 1 rfl) ?_
              refine z_if_eq (tgt := 64) hx hb (by omega) wdX9_fallsUpTo_58 (by decide) (fun c6 => ?_) (fun c6 => ?_)
              · refine lv_iconst (v := zI 1) hx hb wdX9_fallsUpTo_64 rfl ?_
                refine lv_istore_n (lv' := [(3, .int (zI 1)), (5, .int (zI (u : Int))), (4, .int (zI (((fwS o.2.1 u).2.2 : Nat) : Int))), (2, .int (zI (((fwS o.2.1 u).1 : Nat) : Int))), (0, .ref (B + a)), (1, .int (zI ((m9 : Int) - 1)))]) hx hb wdX9_fallsUpTo_65 rfl hl (by decide) rfl (fun ls hl => ?_)
                refine lv_iconst (v := zI 0) hx hb wdX9_fallsUpTo_66 rfl ?_
                refine lv_istore (lv' := [(4, .int (zI 0)), (3, .int (zI 1)), (5, .int (zI (u : Int))), (2, .int (zI (((fwS o.2.1 u).1 : Nat) : Int))), (0, .ref (B + a)), (1, .int (zI ((m9 : Int) - 1)))]) hx hb wdX9_fallsUpTo_67 hl (by decide) rfl (fun ls hl => ?_)
                refine z_iinc (v := (((u + 1) : Nat) : Int)) (lv' := [(5, .int (zI (((u + 1) : Nat) : Int))), (4, .int (zI 0)), (3, .int (zI 1)), (2, .int (zI (((fwS o.2.1 u).1 : Nat) : Int))), (0, .ref (B + a)), (1, .int (zI ((m9 : Int) - 1)))]) hx hb wdX9_fallsUpTo_69 hl (k := 2) rfl (by omega) (by decide) rfl (fun ls hl => ?_)
                refine lv_goto (tgt := 10) hx hb wdX9_fallsUpTo_72 (by decide) ?_
                replace hl : lv_has ls 6 [(5, .int (zI (((u + 1) : Nat) : Int))), (4, .int (zI (((fwS o.2.1 (u + 1)).2.2 : Nat) : Int))), (3, .int (zI (((fwS o.2.1 (u + 1)).2.1 : Nat) : Int))), (2, .int (zI (((fwS o.2.1 (u + 1)).1 : Nat) : Int))), (0, .ref (B + a)), (1, .int (zI ((m9 : Int) - 1)))] := by rw [fw_n (K := o.2.1) (u := u) (by omega) (by omega)]; exact hl
                exact ih (u + 1) (by omega) (by omega) _ _ ls w (lv_sub hl [0, 1, 2, 3, 4, 5] rfl)
              · refine z_iinc (v := ((((fwS o.2.1 u).1 + 1) : Nat) : Int)) (lv' := [(2, .int (zI ((((fwS o.2.1 u).1 + 1) : Nat) : Int))), (5, .int (zI (u : Int))), (4, .int (zI (((fwS o.2.1 u).2.2 : Nat) : Int))), (3, .int (zI (((fwS o.2.1 u).2.1 : Nat) : Int))), (0, .ref (B + a)), (1, .int (zI ((m9 : Int) - 1)))]) hx hb wdX9_fallsUpTo_61 hl (k := 3) rfl (by omega) (by decide) rfl (fun ls hl => ?_)
                refine lv_iconst (v := zI 1) hx hb wdX9_fallsUpTo_64 rfl ?_
                refine lv_istore_n (lv' := [(3, .int (zI 1)), (2, .int (zI ((((fwS o.2.1 u).1 + 1) : Nat) : Int))), (5, .int (zI (u : Int))), (4, .int (zI (((fwS o.2.1 u).2.2 : Nat) : Int))), (0, .ref (B + a)), (1, .int (zI ((m9 : Int) - 1)))]) hx hb wdX9_fallsUpTo_65 rfl hl (by decide) rfl (fun ls hl => ?_)
                refine lv_iconst (v := zI 0) hx hb wdX9_fallsUpTo_66 rfl ?_
                refine lv_istore (lv' := [(4, .int (zI 0)), (3, .int (zI 1)), (2, .int (zI ((((fwS o.2.1 u).1 + 1) : Nat) : Int))), (5, .int (zI (u : Int))), (0, .ref (B + a)), (1, .int (zI ((m9 : Int) - 1)))]) hx hb wdX9_fallsUpTo_67 hl (by decide) rfl (fun ls hl => ?_)
                refine z_iinc (v := (((u + 1) : Nat) : Int)) (lv' := [(5, .int (zI (((u + 1) : Nat) : Int))), (4, .int (zI 0)), (3, .int (zI 1)), (2, .int (zI ((((fwS o.2.1 u).1 + 1) : Nat) : Int))), (0, .ref (B + a)), (1, .int (zI ((m9 : Int) - 1)))]) hx hb wdX9_fallsUpTo_69 hl (k := 3) rfl (by omega) (by decide) rfl (fun ls hl => ?_)
                refine lv_goto (tgt := 10) hx hb wdX9_fallsUpTo_72 (by decide) ?_
                replace hl : lv_has ls 6 [(5, .int (zI (((u + 1) : Nat) : Int))), (4, .int (zI (((fwS o.2.1 (u + 1)).2.2 : Nat) : Int))), (3, .int (zI (((fwS o.2.1 (u + 1)).2.1 : Nat) : Int))), (2, .int (zI (((fwS o.2.1 (u + 1)).1 : Nat) : Int))), (0, .ref (B + a)), (1, .int (zI ((m9 : Int) - 1)))] := by rw [fw_y (K := o.2.1) (u := u) (by omega) (by omega) (by omega)]; exact hl
                exact ih (u + 1) (by omega) (by omega) _ _ ls w (lv_sub hl [0, 1, 2, 3, 4, 5] rfl)
        · refine lv_iconst (v := zI 1) hx hb wdX9_fallsUpTo_35 rfl ?_
          refine lv_istore (lv' := [(4, .int (zI 1)), (5, .int (zI (u : Int))), (3, .int (zI (((fwS o.2.1 u).2.1 : Nat) : Int))), (2, .int (zI (((fwS o.2.1 u).1 : Nat) : Int))), (0, .ref (B + a)), (1, .int (zI ((m9 : Int) - 1)))]) hx hb wdX9_fallsUpTo_36 hl (by decide) rfl (fun ls hl => ?_)
          refine lv_goto (tgt := 69) hx hb wdX9_fallsUpTo_38 (by decide) ?_
          refine z_iinc (v := (((u + 1) : Nat) : Int)) (lv' := [(5, .int (zI (((u + 1) : Nat) : Int))), (4, .int (zI 1)), (3, .int (zI (((fwS o.2.1 u).2.1 : Nat) : Int))), (2, .int (zI (((fwS o.2.1 u).1 : Nat) : Int))), (0, .ref (B + a)), (1, .int (zI ((m9 : Int) - 1)))]) hx hb wdX9_fallsUpTo_69 hl (k := 1) rfl (by omega) (by decide) rfl (fun ls hl => ?_)
          refine lv_goto (tgt := 10) hx hb wdX9_fallsUpTo_72 (by decide) ?_
          replace hl : lv_has ls 6 [(5, .int (zI (((u + 1) : Nat) : Int))), (4, .int (zI (((fwS o.2.1 (u + 1)).2.2 : Nat) : Int))), (3, .int (zI (((fwS o.2.1 (u + 1)).2.1 : Nat) : Int))), (2, .int (zI (((fwS o.2.1 (u + 1)).1 : Nat) : Int))), (0, .ref (B + a)), (1, .int (zI ((m9 : Int) - 1)))] := by rw [fw_0 (K := o.2.1) (u := u) (by omega)]; exact hl
          exact ih (u + 1) (by omega) (by omega) _ _ ls w (lv_sub hl [0, 1, 2, 3, 4, 5] rfl)
theorem wdX9_fallsUpTo_0 : decode cX9_fallsUpTo 0 = .ok (.iconst 0, 1) := dX9_fallsUpTo_0
theorem wdX9_fallsUpTo_1 : decode cX9_fallsUpTo 1 = .ok (.istore_n 2, 1) := dX9_fallsUpTo_1
theorem wdX9_fallsUpTo_2 : decode cX9_fallsUpTo 2 = .ok (.iconst 0, 1) := dX9_fallsUpTo_2
theorem wdX9_fallsUpTo_3 : decode cX9_fallsUpTo 3 = .ok (.istore_n 3, 1) := dX9_fallsUpTo_3
theorem wdX9_fallsUpTo_4 : decode cX9_fallsUpTo 4 = .ok (.iconst 0, 1) := dX9_fallsUpTo_4
theorem wdX9_fallsUpTo_5 : decode cX9_fallsUpTo 5 = .ok (.istore 4, 2) := dX9_fallsUpTo_5
theorem wdX9_fallsUpTo_7 : decode cX9_fallsUpTo 7 = .ok (.iconst 0, 1) := dX9_fallsUpTo_7
theorem wdX9_fallsUpTo_8 : decode cX9_fallsUpTo 8 = .ok (.istore 5, 2) := dX9_fallsUpTo_8
theorem wdX9_fallsUpTo_75 : decode cX9_fallsUpTo 75 = .ok (.iload_n 2, 1) := dX9_fallsUpTo_75
theorem wdX9_fallsUpTo_76 : decode cX9_fallsUpTo 76 = .ok (.ireturn, 1) := dX9_fallsUpTo_76
set_option maxRecDepth 4000 in
theorem h_fallsUpTo {l : Launch} {D : va_G} {B : Nat} {cy : Nat → ClassId} {M : Mem} {a q hv ed : Nat} {o : Wo} (hk : kd a = (9, 0, 0)) (hC : CW M a q hv ed o) {m9 : Nat} (hm9 : m9 ≤ o.1) : Ci l D B cy yX9_fallsUpTo cX9_fallsUpTo 6 (some .int) 0 0 [.ref (B + a), .int (zI ((m9 : Int) - 1))] M (fun r M1 => r = zI (((fwS o.2.1 m9).1 : Nat) : Int) ∧ M1 = M) := by
  refine s_any (by decide) (Nat.le_of_ble_eq_true rfl) ?_
  intro p e s m below meth c ls F hr hlocks w hl
  have F : CallFix p m c cX9_fallsUpTo 6 s _ TB RX9 := F
  have hx := F.1
  have hb := F.2.1
  have hl : lv_has ls 6 [(0, .ref (B + a)), (1, .int (zI ((m9 : Int) - 1)))] := hl
  have hW := hC.1
  have hwf := hC.wf
  have hKL := hwf.2.2.2.2
  have hn12 := hwf.1
  have hq12 := hwf.2.1
  have hhv := hwf.2.2.1
  have hed := hwf.2.2.2.1
  have hfm := fw_b (K := o.2.1) m9
  refine lv_iconst (v := zI 0) hx hb wdX9_fallsUpTo_0 rfl ?_
  refine lv_istore_n (lv' := [(2, .int (zI 0)), (0, .ref (B + a)), (1, .int (zI ((m9 : Int) - 1)))]) hx hb wdX9_fallsUpTo_1 rfl hl (by decide) rfl (fun ls hl => ?_)
  refine lv_iconst (v := zI 0) hx hb wdX9_fallsUpTo_2 rfl ?_
  refine lv_istore_n (lv' := [(3, .int (zI 0)), (2, .int (zI 0)), (0, .ref (B + a)), (1, .int (zI ((m9 : Int) - 1)))]) hx hb wdX9_fallsUpTo_3 rfl hl (by decide) rfl (fun ls hl => ?_)
  refine lv_iconst (v := zI 0) hx hb wdX9_fallsUpTo_4 rfl ?_
  refine lv_istore (lv' := [(4, .int (zI 0)), (3, .int (zI 0)), (2, .int (zI 0)), (0, .ref (B + a)), (1, .int (zI ((m9 : Int) - 1)))]) hx hb wdX9_fallsUpTo_5 hl (by decide) rfl (fun ls hl => ?_)
  refine lv_iconst (v := zI 0) hx hb wdX9_fallsUpTo_7 rfl ?_
  refine lv_istore (lv' := [(5, .int (zI 0)), (4, .int (zI 0)), (3, .int (zI 0)), (2, .int (zI 0)), (0, .ref (B + a)), (1, .int (zI ((m9 : Int) - 1)))]) hx hb wdX9_fallsUpTo_8 hl (by decide) rfl (fun ls hl => ?_)
  refine lp_X9_fallsUpTo  F (Nat.le_of_ble_eq_true rfl) (Nat.le_of_ble_eq_true rfl) hk hC hm9 (fun u H locs ls x0 w hl => ?_) m9 0 (by omega) (by omega) _ _ ls w (lv_sub hl [0, 1, 2, 3, 4, 5] rfl)
  rw [x0] at hl
  refine lv_iload_n hx hb wdX9_fallsUpTo_75 rfl (lv_at hl 0 rfl) ?_
  exact e_i F w hr hlocks ⟨rfl, rfl⟩ wdX9_fallsUpTo_76
