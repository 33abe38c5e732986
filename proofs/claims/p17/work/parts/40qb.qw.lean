theorem wdX9_fallsUpTo_10 : decode cX9_fallsUpTo 10 = .ok (.iload 5, 2) := by decide +kernel
theorem wdX9_fallsUpTo_12 : decode cX9_fallsUpTo 12 = .ok (.iload_n 1, 1) := by decide +kernel
theorem wdX9_fallsUpTo_13 : decode cX9_fallsUpTo 13 = .ok (.if_icmp .gt 62, 3) := by decide +kernel
theorem wdX9_fallsUpTo_16 : decode cX9_fallsUpTo 16 = .ok (.iload 5, 2) := by decide +kernel
theorem wdX9_fallsUpTo_18 : decode cX9_fallsUpTo 18 = .ok (.aload_n 0, 1) := by decide +kernel
theorem wdX9_fallsUpTo_19 : decode cX9_fallsUpTo 19 = .ok (.getfield 9, 3) := by decide +kernel
theorem wdX9_fallsUpTo_22 : decode cX9_fallsUpTo 22 = .ok (.if_icmp .ge 53, 3) := by decide +kernel
theorem wdX9_fallsUpTo_25 : decode cX9_fallsUpTo 25 = .ok (.aload_n 0, 1) := by decide +kernel
theorem wdX9_fallsUpTo_26 : decode cX9_fallsUpTo 26 = .ok (.getfield 24, 3) := by decide +kernel
theorem wtb_301 : Cond.fieldLink "ToneLines$Word" 24 "ToneLines$Word" "kinds" "[I" ∈ TB := tbm (tc1 (List.mem_of_getElem? (i := 142) rfl)) rfl
theorem wdX9_fallsUpTo_29 : decode cX9_fallsUpTo 29 = .ok (.iload 5, 2) := by decide +kernel
theorem wdX9_fallsUpTo_31 : decode cX9_fallsUpTo 31 = .ok (.iaload, 1) := by decide +kernel
theorem wdX9_fallsUpTo_32 : decode cX9_fallsUpTo 32 = .ok (.ifCond .ne 9, 3) := by decide +kernel
theorem wdX9_fallsUpTo_41 : decode cX9_fallsUpTo 41 = .ok (.aload_n 0, 1) := by decide +kernel
theorem wdX9_fallsUpTo_42 : decode cX9_fallsUpTo 42 = .ok (.getfield 24, 3) := by decide +kernel
theorem wdX9_fallsUpTo_45 : decode cX9_fallsUpTo 45 = .ok (.iload 5, 2) := by decide +kernel
theorem wdX9_fallsUpTo_47 : decode cX9_fallsUpTo 47 = .ok (.iaload, 1) := by decide +kernel
theorem wdX9_fallsUpTo_48 : decode cX9_fallsUpTo 48 = .ok (.iconst 2, 1) := by decide +kernel
theorem wdX9_fallsUpTo_49 : decode cX9_fallsUpTo 49 = .ok (.if_icmp .ne 20, 3) := by decide +kernel
theorem wdX9_fallsUpTo_69 : decode cX9_fallsUpTo 69 = .ok (.iinc 5 1, 3) := by decide +kernel
theorem wdX9_fallsUpTo_72 : decode cX9_fallsUpTo 72 = .ok (.goto (-62), 3) := by decide +kernel
theorem wdX9_fallsUpTo_52 : decode cX9_fallsUpTo 52 = .ok (.iload_n 3, 1) := by decide +kernel
theorem wdX9_fallsUpTo_53 : decode cX9_fallsUpTo 53 = .ok (.ifCond .eq 11, 3) := by decide +kernel
theorem wdX9_fallsUpTo_64 : decode cX9_fallsUpTo 64 = .ok (.iconst 1, 1) := by decide +kernel
theorem wdX9_fallsUpTo_65 : decode cX9_fallsUpTo 65 = .ok (.istore_n 3, 1) := by decide +kernel
theorem wdX9_fallsUpTo_66 : decode cX9_fallsUpTo 66 = .ok (.iconst 0, 1) := by decide +kernel
theorem wdX9_fallsUpTo_67 : decode cX9_fallsUpTo 67 = .ok (.istore 4, 2) := by decide +kernel
theorem wdX9_fallsUpTo_56 : decode cX9_fallsUpTo 56 = .ok (.iload 4, 2) := by decide +kernel
theorem wdX9_fallsUpTo_58 : decode cX9_fallsUpTo 58 = .ok (.ifCond .eq 6, 3) := by decide +kernel
theorem wdX9_fallsUpTo_61 : decode cX9_fallsUpTo 61 = .ok (.iinc 2 1, 3) := by decide +kernel
theorem wdX9_fallsUpTo_35 : decode cX9_fallsUpTo 35 = .ok (.iconst 1, 1) := by decide +kernel
theorem wdX9_fallsUpTo_36 : decode cX9_fallsUpTo 36 = .ok (.istore 4, 2) := by decide +kernel
theorem wdX9_fallsUpTo_38 : decode cX9_fallsUpTo 38 = .ok (.goto 31, 3) := by decide +kernel
set_option maxRecDepth 4000 in
theorem lp_X9_fallsUpTo {p : Program} {l : Launch} {e : Env} {s : State} {m : MethodId} {args : Array Value} {below : List Frame} {meth : Method} {c : Code} {D : va_G} {B : Nat} {cy : Nat → ClassId} {H0 : Heap} {Q : State → Prop} {M : Mem} {R : Room} {a q hv ed m9 : Nat} {o : Wo} (F : CallFix p m c cX9_fallsUpTo 6 s args TB RX9) (hR1 : 0 ≤ R.frames) (hR2 : 0 ≤ R.locals) (hk : kd a = (9, 0, 0)) (hC : CW M a q hv ed o) (hm9 : m9 ≤ o.1) (kk : ∀ (u : Nat) (H : Heap) (locs : List Loc) (ls : Array Slot), (u = m9) → Wd D B cy s H0 M H locs → lv_has ls 6 [(2, .int (zI (((fwS o.2.1 u).1 : Nat) : Int)))] → W p l e R s m args below meth c H locs 0 0 Q (F0 m 75 ls [])) : ∀ (f : Nat) (u : Nat), (u ≤ m9) → (m9 ≤ u + f) → ∀ (H : Heap) (locs : List Loc) (ls : Array Slot), Wd D B cy s H0 M H locs → lv_has ls 6 [(5, .int (zI (u : Int))), (4, .int (zI (((fwS o.2.1 u).2.2 : Nat) : Int))), (3, .int (zI (((fwS o.2.1 u).2.1 : Nat) : Int))), (2, .int (zI (((fwS o.2.1 u).1 : Nat) : Int))), (0, .ref (B + a)), (1, .int (zI ((m9 : Int) - 1)))] → W p l e R s m args below meth c H locs 0 0 Q (F0 m 10 ls []) := by
  have hx := F.1
  have hb := F.2.1
  have hW := hC.1
  have hwf := hC.wf
  have hKL := hwf.2.2.2.2
  have hn12 := hwf.1
  have hq12 := hwf.2.1
  have hhv := hwf.2.2.1
  have hed := hwf.2.2.2.1
  intro f
  induction f with
  | zero =>
    intro u i0 hf H locs ls w hl
    have hfb := fw_b (K := o.2.1) u
    refine lv_iload hx hb wdX9_fallsUpTo_10 (lv_at hl 0 rfl) ?_
    refine lv_iload_n hx hb wdX9_fallsUpTo_12 rfl (lv_at hl 5 rfl) ?_
    refine z_icmp_gt (tgt := 75) hx hb (by omega) (by omega) wdX9_fallsUpTo_13 (by decide) (fun c1 => ?_) (fun c1 => False.elim (by omega))
    exact kk u _ _ ls (by omega) w (lv_sub hl [3] rfl)
  | succ f ih =>
    intro u i0 hf H locs ls w hl
    have hfb := fw_b (K := o.2.1) u
    refine lv_iload hx hb wdX9_fallsUpTo_10 (lv_at hl 0 rfl) ?_
    refine lv_iload_n hx hb wdX9_fallsUpTo_12 rfl (lv_at hl 5 rfl) ?_
    refine z_icmp_gt (tgt := 75) hx hb (by omega) (by omega) wdX9_fallsUpTo_13 (by decide) (fun c1 => ?_) (fun c1 => ?_)
    · exact kk u _ _ ls (by omega) w (lv_sub hl [3] rfl)
    · refine lv_iload hx hb wdX9_fallsUpTo_16 (lv_at hl 0 rfl) ?_
      refine lv_aload_n hx hb wdX9_fallsUpTo_18 rfl (lv_at hl 4 rfl) ?_
      refine f_9_0 F w (a := a) hk wtb_226 wdX9_fallsUpTo_19 ?_
      refine r_val (v := (zI ((o.1 : Nat) : Int))) (hW.1) ?_
      refine z_icmp_ge (tgt := 75) hx hb (by omega) (by omega) wdX9_fallsUpTo_22 (by decide) (fun c2 => ?_) (fun c2 => ?_)
      · exact kk u _ _ ls (by omega) w (lv_sub hl [3] rfl)
      · refine lv_aload_n hx hb wdX9_fallsUpTo_25 rfl (lv_at hl 4 rfl) ?_
        refine f_9_4 F w (a := a) hk wtb_301 wdX9_fallsUpTo_26 ?_
        refine lv_iload hx hb wdX9_fallsUpTo_29 (lv_at hl 0 rfl) ?_
        refine g_iald F w (a := (a + 1)) (kd_w1 hk) (j := u) (ix_n (by omega)) (by omega) wdX9_fallsUpTo_31 ?_
        have hK2 := (hKL u (by omega)).1
        refine r_val (v := (zI (((o.2.1 u) : Nat) : Int))) (hW.2.2.2.2.1 u (by omega)) ?_
        refine z_if_ne (tgt := 41) hx hb (by omega) wdX9_fallsUpTo_32 (by decide) (fun c3 => ?_) (fun c3 => ?_)
        · refine lv_aload_n hx hb wdX9_fallsUpTo_41 rfl (lv_at hl 4 rfl) ?_
          refine f_9_4 F w (a := a) hk wtb_301 wdX9_fallsUpTo_42 ?_
          refine lv_iload hx hb wdX9_fallsUpTo_45 (lv_at hl 0 rfl) ?_
          refine g_iald F w (a := (a + 1)) (kd_w1 hk) (j := u) (ix_n (by omega)) (by omega) wdX9_fallsUpTo_47 ?_
          have hK3 := (hKL u (by omega)).1
          refine r_val (v := (zI (((o.2.1 u) : Nat) : Int))) (hW.2.2.2.2.1 u (by omega)) ?_
          refine lv_iconst (v := zI 2) hx hb wdX9_fallsUpTo_48 rfl ?_
          refine z_icmp_ne (tgt := 69) hx hb (by omega) (by omega) wdX9_fallsUpTo_49 (by decide) (fun c4 => ?_) (fun c4 => ?_)
          · refine z_iinc (v := (((u + 1) : Nat) : Int)) (lv' := [(5, .int (zI (((u + 1) : Nat) : Int))), (4, .int (zI (((fwS o.2.1 u).2.2 : Nat) : Int))), (3, .int (zI (((fwS o.2.1 u).2.1 : Nat) : Int))), (2, .int (zI (((fwS o.2.1 u).1 : Nat) : Int))), (0, .ref (B + a)), (1, .int (zI ((m9 : Int) - 1)))]) hx hb wdX9_fallsUpTo_69 hl (k := 0) rfl (by omega) (by decide) rfl (fun ls hl => ?_)
            refine lv_goto (tgt := 10) hx hb wdX9_fallsUpTo_72 (by decide) ?_
            replace hl : lv_has ls 6 [(5, .int (zI (((u + 1) : Nat) : Int))), (4, .int (zI (((fwS o.2.1 (u + 1)).2.2 : Nat) : Int))), (3, .int (zI (((fwS o.2.1 (u + 1)).2.1 : Nat) : Int))), (2, .int (zI (((fwS o.2.1 (u + 1)).1 : Nat) : Int))), (0, .ref (B + a)), (1, .int (zI ((m9 : Int) - 1)))] := by rw [fw_1 (K := o.2.1) (u := u) (by omega) (by omega)]; exact hl
            exact ih (u + 1) (by omega) (by omega) _ _ ls w (lv_sub hl [0, 1, 2, 3, 4, 5] rfl)
          · refine lv_iload_n hx hb wdX9_fallsUpTo_52 rfl (lv_at hl 2 rfl) ?_
            refine z_if_eq (tgt := 64) hx hb (by omega) wdX9_fallsUpTo_53 (by decide) (fun c5 => ?_) (fun c5 => ?_)
            · refine lv_iconst (v := zI 1) hx hb wdX9_fallsUpTo_64 rfl ?_
              refine lv_istore_n (lv' := [(3, .int (zI 1)), (5, .int (zI (u : Int))), (4, .int (zI (((fwS o.2.1 u).2.2 : Nat) : Int))), (2, .int (zI (((fwS o.2.1 u).1 : Nat) : Int))), (0, .ref (B + a)), (1, .int (zI ((m9 : Int) - 1)))]) hx hb wdX9_fallsUpTo_65 rfl hl (by decide) rfl (fun ls hl => ?_)
              refine lv_iconst (v := zI 0) hx hb wdX9_fallsUpTo_66 rfl ?_
              refine lv_istore (lv' := [(4, .int (zI 0)), (3, .int (zI 1)), (5, .int (zI (u : Int))), (2, .int (zI (((fwS o.2.1 u).1 : Nat) : Int))), (0, .ref (B + a)), (1, .int (zI ((m9 : Int) - 1)))]) hx hb wdX9_fallsUpTo_67 hl (by decide) rfl (fun ls hl => ?_)
              refine z_iinc (v := (((u + 1) : Nat) : Int)) (lv' := [(5, .int (zI (((u + 1) : Nat) : Int))), (4, .int (zI 0)), (3, .int (zI 1)), (2, .int (zI (((fwS o.2.1 u).1 : Nat) : Int))), (0, .ref (B + a)), (1, .int (zI ((m9 : Int) - 1)))]) hx hb wdX9_fallsUpTo_69 hl (k := 2) rfl (by omega) (by decide) rfl (fun ls hl => ?_)
              refine lv_goto (tgt := 10) hx hb wdX9_fallsUpTo_72 (by decide) ?_
              replace hl : lv_has ls 6 [(5, .int (zI (((u + 1) : Nat) : Int))), (4, .int (zI (((fwS o.2.1 (u + 1)).2.2 : Nat) : Int))), (3, .int (zI (((fwS o.2.1 (u + 1)).2.1 : Nat) : Int))), (2, .int (zI (((fwS o.2.1 (u + 1)).1 : Nat) : Int))), (0, .ref (B + a)), (1, .int (zI ((m9 : Int) - 1)))] := by rw [fw_n (K := o.2.1) (u := u) (by omega) (by omega)]; exact hl
              exact ih (u + 1) (by omega) (by omega) _ _ ls w (lv_sub hl [0, 1, 2, 3, 4, 5] rfl)
            · refine lv_iload hx hb wdX9_fallsUpTo_56 (lv_at hl 1 rfl) ?_
              refine z_if_eq (tgt := 64) hx hb (by omega) wdX9_fallsUpTo_58 (by decide) (fun c6 => ?_) (fun c6 => ?_)
              · refine lv_iconst (v := zI 1) hx hb wdX9_fallsUpTo_64 rfl ?_
                refine lv_istore_n (lv' := [(3, .int (zI 1)), (5, .int (zI (u : Int))), (4, .int (zI (((fwS o.2.1 u).2.2 : Nat) : Int))), (2, .int (zI (((fwS o.2.1 u).1 : Nat) : Int))), (0, .ref (B + a)), (1, .int (zI ((m9 : Int) - 1)))]) hx hb wdX9_fallsUpTo_65 rfl hl (by decide) rfl (fun ls hl => ?_)
                refine lv_iconst (v := zI 0) hx hb wdX9_fallsUpTo_66 rfl ?_
                refine lv_istore (lv' := [(4, .int (zI 0)), (3, .int (zI 1)), (5, .int (zI (u : Int))), (2, .int (zI (((fwS o.2.1 u).1 : Nat) : Int))), (0, .ref (B + a)), (1, .int (zI ((m9 : Int) - 1)))]) hx hb wdX9_fallsUpTo_67 hl (by decide) rfl (fun ls hl => ?_)
                refine z_iinc (v := (((u + 1) : Nat) : Int)) (lv' := [(5, .int (zI (((u + 1) : Nat) : Int))), (4, .int (zI 0)), (3, .int (zI 1)), (2, .int (zI (((fwS o.2.1 u).1 : Nat) : Int))), (0, .ref (B + a)), (1, .int (zI ((m9 : Int) - 1)))]) hx hb wdX9_fallsUpTo_69 hl (k := 2) rfl (by omega) (by decide) rfl (fun ls hl => ?_)
                refine lv_goto (tgt := 10) hx hb wdX9_fallsUpTo_72 (by decide) ?_
                replace hl : lv_has ls 6 [(5, .int (zI (((u + 1) : Nat) : Int))), (4, .int (zI (((fwS o.2.1 (u + 1)).2.2 : Nat) : Int))), (3, .int (zI (((fwS o.2.1 (u + 1)).2.1 : Nat) : Int))), (2, .int (zI (((fwS o.2.1 (u + 1)).1 : Nat) : Int))), (0, .ref (B + a)), (1, .int (zI ((m9 : Int) - 1)))] := by rw [fw_n (K := o.2.1) (u := u) (by omega) (by omega)]; exact hl
                exact ih (u + 1) (by omega) (by omega) _ _ ls w (lv_sub hl [0, 1, 2, 3, 4, 5] rfl)
              · refine z_iinc (v := ((((fwS o.2.1 u).1 + 1) : Nat) : Int)) (lv' := [(2, .int (zI ((((fwS o.2.1 u).1 + 1) : Nat) : Int))), (5, .int (zI (u : Int))), (4, .int (zI (((fwS o.2.1 u).2.2 : Nat) : Int))), (3, .int (zI (((fwS o.2.1 u).2.1 : Nat) : Int))), (0, .ref (B + a)), (1, .int (zI ((m9 : Int) - 1)))]) hx hb wdX9_fallsUpTo_61 hl (k := 3) rfl (by omega) (by decide) rfl (fun ls hl => ?_)
                refine lv_iconst (v := zI 1) hx hb wdX9_fallsUpTo_64 rfl ?_
                refine lv_istore_n (lv' := [(3, .int (zI 1)), (2, .int (zI ((((fwS o.2.1 u).1 + 1) : Nat) : Int))), (5, .int (zI (u : Int))), (4, .int (zI (((fwS o.2.1 u).2.2 : Nat) : Int))), (0, .ref (B + a)), (1, .int (zI ((m9 : Int) - 1)))]) hx hb wdX9_fallsUpTo_65 rfl hl (by decide) rfl (fun ls hl => ?_)
                refine lv_iconst (v := zI 0) hx hb wdX9_fallsUpTo_66 rfl ?_
                refine lv_istore (lv' := [(4, .int (zI 0)), (3, .int (zI 1)), (2, .int (zI ((((fwS o.2.1 u).1 + 1) : Nat) : Int))), (5, .int (zI (u : Int))), (0, .ref (B + a)), (1, .int (zI ((m9 : Int) - 1)))]) hx hb wdX9_fallsUpTo_67 hl (by decide) rfl (fun ls hl => ?_)
                refine z_iinc (v := (((u + 1) : Nat) : Int)) (lv' := [(5, .int (zI (((u + 1) : Nat) : Int))), (4, .int (zI 0)), (3, .int (zI 1)), (2, .int (zI ((((fwS o.2.1 u).1 + 1) : Nat) : Int))), (0, .ref (B + a)), (1, .int (zI ((m9 : Int) - 1)))]) hx hb wdX9_fallsUpTo_69 hl (k := 3) rfl (by omega) (by decide) rfl (fun ls hl => ?_)
                refine lv_goto (tgt := 10) hx hb wdX9_fallsUpTo_72 (by decide) ?_
                replace hl : lv_has ls 6 [(5, .int (zI (((u + 1) : Nat) : Int))), (4, .int (zI (((fwS o.2.1 (u + 1)).2.2 : Nat) : Int))), (3, .int (zI (((fwS o.2.1 (u + 1)).2.1 : Nat) : Int))), (2, .int (zI (((fwS o.2.1 (u + 1)).1 : Nat) : Int))), (0, .ref (B + a)), (1, .int (zI ((m9 : Int) - 1)))] := by rw [fw_y (K := o.2.1) (u := u) (by omega) (by omega) (by omega)]; exact hl
                exact ih (u + 1) (by omega) (by omega) _ _ ls w (lv_sub hl [0, 1, 2, 3, 4, 5] rfl)
        · refine lv_iconst (v := zI 1) hx hb wdX9_fallsUpTo_35 rfl ?_
          refine lv_istore (lv' := [(4, .int (zI 1)), (5, .int (zI (u : Int))), (3, .int (zI (((fwS o.2.1 u).2.1 : Nat) : Int))), (2, .int (zI (((fwS o.2.1 u).1 : Nat) : Int))), (0, .ref (B + a)), (1, .int (zI ((m9 : Int) - 1)))]) hx hb wdX9_fallsUpTo_36 hl (by decide) rfl (fun ls hl => ?_)
          refine lv_goto (tgt := 69) hx hb wdX9_fallsUpTo_38 (by decide) ?_
          refine z_iinc (v := (((u + 1) : Nat) : Int)) (lv' := [(5, .int (zI (((u + 1) : Nat) : Int))), (4, .int (zI 1)), (3, .int (zI (((fwS o.2.1 u).2.1 : Nat) : Int))), (2, .int (zI (((fwS o.2.1 u).1 : Nat) : Int))), (0, .ref (B + a)), (1, .int (zI ((m9 : Int) - 1)))]) hx hb wdX9_fallsUpTo_69 hl (k := 1) rfl (by omega) (by decide) rfl (fun ls hl => ?_)
          refine lv_goto (tgt := 10) hx hb wdX9_fallsUpTo_72 (by decide) ?_
          replace hl : lv_has ls 6 [(5, .int (zI (((u + 1) : Nat) : Int))), (4, .int (zI (((fwS o.2.1 (u + 1)).2.2 : Nat) : Int))), (3, .int (zI (((fwS o.2.1 (u + 1)).2.1 : Nat) : Int))), (2, .int (zI (((fwS o.2.1 (u + 1)).1 : Nat) : Int))), (0, .ref (B + a)), (1, .int (zI ((m9 : Int) - 1)))] := by rw [fw_0 (K := o.2.1) (u := u) (by omega)]; exact hl
          exact ih (u + 1) (by omega) (by omega) _ _ ls w (lv_sub hl [0, 1, 2, 3, 4, 5] rfl)
theorem wdX9_fallsUpTo_0 : decode cX9_fallsUpTo 0 = .ok (.iconst 0, 1) := by decide +kernel
theorem wdX9_fallsUpTo_1 : decode cX9_fallsUpTo 1 = .ok (.istore_n 2, 1) := by decide +kernel
theorem wdX9_fallsUpTo_2 : decode cX9_fallsUpTo 2 = .ok (.iconst 0, 1) := by decide +kernel
theorem wdX9_fallsUpTo_3 : decode cX9_fallsUpTo 3 = .ok (.istore_n 3, 1) := by decide +kernel
theorem wdX9_fallsUpTo_4 : decode cX9_fallsUpTo 4 = .ok (.iconst 0, 1) := by decide +kernel
theorem wdX9_fallsUpTo_5 : decode cX9_fallsUpTo 5 = .ok (.istore 4, 2) := by decide +kernel
theorem wdX9_fallsUpTo_7 : decode cX9_fallsUpTo 7 = .ok (.iconst 0, 1) := by decide +kernel
theorem wdX9_fallsUpTo_8 : decode cX9_fallsUpTo 8 = .ok (.istore 5, 2) := by decide +kernel
theorem wdX9_fallsUpTo_75 : decode cX9_fallsUpTo 75 = .ok (.iload_n 2, 1) := by decide +kernel
theorem wdX9_fallsUpTo_76 : decode cX9_fallsUpTo 76 = .ok (.ireturn, 1) := by decide +kernel
set_option maxRecDepth 4000 in
theorem h_fallsUpTo {l : Launch} {D : va_G} {B : Nat} {cy : Nat → ClassId} {M : Mem} {a q hv ed : Nat} {o : Wo} (hk : kd a = (9, 0, 0)) (hC : CW M a q hv ed o) {m9 : Nat} (hm9 : m9 ≤ o.1) : Ci l D B cy yX9_fallsUpTo cX9_fallsUpTo 6 (some .int) 0 0 [.ref (B + a), .int (zI ((m9 : Int) - 1))] M (fun r M1 => r = zI (((fwS o.2.1 m9).1 : Nat) : Int) ∧ M1 = M) := by
  refine s_any (by decide) (Nat.le_of_ble_eq_true rfl) ?_
  intro p e s m below meth c ls F hr hlocks w hl
  have F : CallFix p m c cX9_fallsUpTo 6 s _ TB RX9 := F
  have hx := F.1
  have hb := F.2.1
  have hl : lv_has ls 6 [(0, .ref (B + a)), (1, .int (zI ((m9 : Int) - 1)))] := hl
  have hW := hC.1
  have hwf := hC.wf
  have hKL := hwf.2.2.2.2
  have hn12 := hwf.1
  have hq12 := hwf.2.1
  have hhv := hwf.2.2.1
  have hed := hwf.2.2.2.1
  have hfm := fw_b (K := o.2.1) m9
  refine lv_iconst (v := zI 0) hx hb wdX9_fallsUpTo_0 rfl ?_
  refine lv_istore_n (lv' := [(2, .int (zI 0)), (0, .ref (B + a)), (1, .int (zI ((m9 : Int) - 1)))]) hx hb wdX9_fallsUpTo_1 rfl hl (by decide) rfl (fun ls hl => ?_)
  refine lv_iconst (v := zI 0) hx hb wdX9_fallsUpTo_2 rfl ?_
  refine lv_istore_n (lv' := [(3, .int (zI 0)), (2, .int (zI 0)), (0, .ref (B + a)), (1, .int (zI ((m9 : Int) - 1)))]) hx hb wdX9_fallsUpTo_3 rfl hl (by decide) rfl (fun ls hl => ?_)
  refine lv_iconst (v := zI 0) hx hb wdX9_fallsUpTo_4 rfl ?_
  refine lv_istore (lv' := [(4, .int (zI 0)), (3, .int (zI 0)), (2, .int (zI 0)), (0, .ref (B + a)), (1, .int (zI ((m9 : Int) - 1)))]) hx hb wdX9_fallsUpTo_5 hl (by decide) rfl (fun ls hl => ?_)
  refine lv_iconst (v := zI 0) hx hb wdX9_fallsUpTo_7 rfl ?_
  refine lv_istore (lv' := [(5, .int (zI 0)), (4, .int (zI 0)), (3, .int (zI 0)), (2, .int (zI 0)), (0, .ref (B + a)), (1, .int (zI ((m9 : Int) - 1)))]) hx hb wdX9_fallsUpTo_8 hl (by decide) rfl (fun ls hl => ?_)
  refine lp_X9_fallsUpTo  F (Nat.le_of_ble_eq_true rfl) (Nat.le_of_ble_eq_true rfl) hk hC hm9 (fun u H locs ls x0 w hl => ?_) m9 0 (by omega) (by omega) _ _ ls w (lv_sub hl [0, 1, 2, 3, 4, 5] rfl)
  rw [x0] at hl
  refine lv_iload_n hx hb wdX9_fallsUpTo_75 rfl (lv_at hl 0 rfl) ?_
  exact e_i F w hr hlocks ⟨rfl, rfl⟩ wdX9_fallsUpTo_76
theorem wdX9_readOf_9 : decode cX9_readOf 9 = .ok (.iload_n 3, 1) := by decide +kernel
theorem wdX9_readOf_10 : decode cX9_readOf 10 = .ok (.ifCond .lt 35, 3) := by decide +kernel
theorem wdX9_readOf_13 : decode cX9_readOf 13 = .ok (.aload_n 0, 1) := by decide +kernel
theorem wdX9_readOf_14 : decode cX9_readOf 14 = .ok (.getfield 28, 3) := by decide +kernel
theorem wdX9_readOf_17 : decode cX9_readOf 17 = .ok (.iload_n 3, 1) := by decide +kernel
theorem wdX9_readOf_18 : decode cX9_readOf 18 = .ok (.iaload, 1) := by decide +kernel
theorem wdX9_readOf_19 : decode cX9_readOf 19 = .ok (.iload_n 1, 1) := by decide +kernel
theorem wdX9_readOf_20 : decode cX9_readOf 20 = .ok (.ishr, 1) := by decide +kernel
theorem wdX9_readOf_21 : decode cX9_readOf 21 = .ok (.iconst 1, 1) := by decide +kernel
theorem wdX9_readOf_22 : decode cX9_readOf 22 = .ok (.iand, 1) := by decide +kernel
theorem wdX9_readOf_23 : decode cX9_readOf 23 = .ok (.ifCond .eq 16, 3) := by decide +kernel
theorem wdX9_readOf_39 : decode cX9_readOf 39 = .ok (.iinc 3 (-1), 3) := by decide +kernel
theorem wdX9_readOf_42 : decode cX9_readOf 42 = .ok (.goto (-33), 3) := by decide +kernel
theorem wdX9_readOf_26 : decode cX9_readOf 26 = .ok (.iload_n 2, 1) := by decide +kernel
theorem wdX9_readOf_27 : decode cX9_readOf 27 = .ok (.iconst 4, 1) := by decide +kernel
theorem wdX9_readOf_28 : decode cX9_readOf 28 = .ok (.imul, 1) := by decide +kernel
theorem wdX9_readOf_29 : decode cX9_readOf 29 = .ok (.aload_n 0, 1) := by decide +kernel
theorem wdX9_readOf_30 : decode cX9_readOf 30 = .ok (.getfield 24, 3) := by decide +kernel
theorem wdX9_readOf_33 : decode cX9_readOf 33 = .ok (.iload_n 3, 1) := by decide +kernel
theorem wdX9_readOf_34 : decode cX9_readOf 34 = .ok (.iaload, 1) := by decide +kernel
theorem wdX9_readOf_35 : decode cX9_readOf 35 = .ok (.iadd, 1) := by decide +kernel
theorem wdX9_readOf_36 : decode cX9_readOf 36 = .ok (.iconst 1, 1) := by decide +kernel
theorem wdX9_readOf_37 : decode cX9_readOf 37 = .ok (.iadd, 1) := by decide +kernel
theorem wdX9_readOf_38 : decode cX9_readOf 38 = .ok (.istore_n 2, 1) := by decide +kernel
set_option maxRecDepth 4000 in
theorem lp_X9_readOf {p : Program} {l : Launch} {e : Env} {s : State} {m : MethodId} {args : Array Value} {below : List Frame} {meth : Method} {c : Code} {D : va_G} {B : Nat} {cy : Nat → ClassId} {H0 : Heap} {Q : State → Prop} {M : Mem} {R : Room} {a q hv ed j9 : Nat} {o : Wo} (F : CallFix p m c cX9_readOf 4 s args TB RX9) (hR1 : 0 ≤ R.frames) (hR2 : 0 ≤ R.locals) (hk : kd a = (9, 0, 0)) (hC : CW M a q hv ed o) (hj9 : j9 < 12) (kk : ∀ (H : Heap) (locs : List Loc) (ls : Array Slot), Wd D B cy s H0 M H locs → lv_has ls 4 [(2, .int (zI (((rdV9 o.2.1 o.2.2 j9 (o.1 - 0) 0) : Nat) : Int)))] → W p l e R s m args below meth c H locs 0 0 Q (F0 m 45 ls [])) : ∀ (k : Nat), (k ≤ o.1) → ∀ (H : Heap) (locs : List Loc) (ls : Array Slot), Wd D B cy s H0 M H locs → lv_has ls 4 [(3, .int (zI ((k : Int) - 1))), (2, .int (zI (((rdV9 o.2.1 o.2.2 j9 (o.1 - k) k) : Nat) : Int))), (0, .ref (B + a)), (1, .int (zI (j9 : Int)))] → W p l e R s m args below meth c H locs 0 0 Q (F0 m 9 ls []) := by
  have hx := F.1
  have hb := F.2.1
  have hW := hC.1
  have hwf := hC.wf
  have hKL := hwf.2.2.2.2
  have hn12 := hwf.1
  have hq12 := hwf.2.1
  have hhv := hwf.2.2.1
  have hed := hwf.2.2.2.1
  intro k
  induction k with
  | zero =>
    intro i0 H locs ls w hl
    have hl : lv_has ls 4 [(3, .int (zI (-1))), (2, .int (zI (((rdV9 o.2.1 o.2.2 j9 (o.1 - 0) 0) : Nat) : Int))), (0, .ref (B + a)), (1, .int (zI (j9 : Int)))] := hl
    have hrb : (rdV9 o.2.1 o.2.2 j9 (o.1 - 0) 0) < 16777216 := Nat.lt_of_lt_of_le (rd_b (o.1 - 0) 0 (fun j _ hj => (hC.2.1.2.2 j (by omega)).1)) (p4_12 (by omega))
    refine lv_iload_n hx hb wdX9_readOf_9 rfl (lv_at hl 0 rfl) ?_
    refine z_if_lt (tgt := 45) hx hb (by omega) wdX9_readOf_10 (by decide) (fun c1 => ?_) (fun c1 => False.elim (by omega))
    exact kk _ _ ls  w (lv_sub hl [1] rfl)
  | succ k ih =>
    intro i0 H locs ls w hl
    have hl : lv_has ls 4 [(3, .int (zI (k : Int))), (2, .int (zI (((rdV9 o.2.1 o.2.2 j9 (o.1 - (k + 1)) (k + 1)) : Nat) : Int))), (0, .ref (B + a)), (1, .int (zI (j9 : Int)))] := by rw [show ((k + 1 : Nat) : Int) - 1 = (k : Int) by omega] at hl; exact hl
    have hrb : (rdV9 o.2.1 o.2.2 j9 (o.1 - (k + 1)) (k + 1)) < 16777216 := Nat.lt_of_lt_of_le (rd_b (o.1 - (k + 1)) (k + 1) (fun j _ hj => (hC.2.1.2.2 j (by omega)).1)) (p4_12 (by omega))
    refine lv_iload_n hx hb wdX9_readOf_9 rfl (lv_at hl 0 rfl) ?_
    refine z_if_lt (tgt := 45) hx hb (by omega) wdX9_readOf_10 (by decide) (fun c1 => False.elim (by omega)) (fun c1 => ?_)
    refine lv_aload_n hx hb wdX9_readOf_13 rfl (lv_at hl 2 rfl) ?_
    refine f_9_5 F w (a := a) hk wtb_227 wdX9_readOf_14 ?_
    refine lv_iload_n hx hb wdX9_readOf_17 rfl (lv_at hl 0 rfl) ?_
    refine g_iald F w (a := (a + 2)) (kd_w2 hk) (j := k) (ix_n (by omega)) (by omega) wdX9_readOf_18 ?_
    have hL1 := (hKL k (by omega)).2
    refine r_val (v := (zI (((o.2.2 k) : Nat) : Int))) (hW.2.2.2.2.2 k (by omega)) ?_
    refine lv_iload_n hx hb wdX9_readOf_19 rfl (lv_at hl 3 rfl) ?_
    refine lv_ishr hx hb wdX9_readOf_20 ?_
    refine r_val (v := (zI ((((o.2.2 k) >>> j9) : Nat) : Int))) (zb_shr (a := (o.2.2 k)) (n := j9) (by omega) (by omega)) ?_
    have q2 := shr_le (o.2.2 k) j9
    refine lv_iconst (v := zI 1) hx hb wdX9_readOf_21 rfl ?_
    refine lv_iand hx hb wdX9_readOf_22 ?_
    refine r_val (v := (zI (((tb (o.2.2 k) j9) : Nat) : Int))) zb_tst ?_
    have q3 := tb01 (o.2.2 k) j9
    refine z_if_eq (tgt := 39) hx hb (by omega) wdX9_readOf_23 (by decide) (fun c4 => ?_) (fun c4 => ?_)
    · refine z_iinc (v := ((k : Int) - 1)) (lv' := [(3, .int (zI ((k : Int) - 1))), (2, .int (zI (((rdV9 o.2.1 o.2.2 j9 (o.1 - (k + 1)) (k + 1)) : Nat) : Int))), (0, .ref (B + a)), (1, .int (zI (j9 : Int)))]) hx hb wdX9_readOf_39 hl (k := 0) rfl (by omega) (by decide) rfl (fun ls hl => ?_)
      refine lv_goto (tgt := 9) hx hb wdX9_readOf_42 (by decide) ?_
      replace hl : lv_has ls 4 [(3, .int (zI ((k : Int) - 1))), (2, .int (zI (((rdV9 o.2.1 o.2.2 j9 (o.1 - k) k) : Nat) : Int))), (0, .ref (B + a)), (1, .int (zI (j9 : Int)))] := by rw [show o.1 - k = (o.1 - (k + 1)) + 1 by omega, rd_n (fun h9 => by have := tbo.mpr h9; omega)]; exact hl
      exact ih (by omega) _ _ ls w (lv_sub hl [0, 1, 2, 3] rfl)
    · refine lv_iload_n hx hb wdX9_readOf_26 rfl (lv_at hl 1 rfl) ?_
      refine lv_iconst (v := zI 4) hx hb wdX9_readOf_27 rfl ?_
      refine z_imul (z := ((((rdV9 o.2.1 o.2.2 j9 (o.1 - (k + 1)) (k + 1)) * 4) : Nat) : Int)) hx hb wdX9_readOf_28 (by omega) ?_
      refine lv_aload_n hx hb wdX9_readOf_29 rfl (lv_at hl 2 rfl) ?_
      refine f_9_4 F w (a := a) hk wtb_301 wdX9_readOf_30 ?_
      refine lv_iload_n hx hb wdX9_readOf_33 rfl (lv_at hl 0 rfl) ?_
      refine g_iald F w (a := (a + 1)) (kd_w1 hk) (j := k) (ix_n (by omega)) (by omega) wdX9_readOf_34 ?_
      have hK4 := (hKL k (by omega)).1
      refine r_val (v := (zI (((o.2.1 k) : Nat) : Int))) (hW.2.2.2.2.1 k (by omega)) ?_
      refine z_iadd (z := (((((rdV9 o.2.1 o.2.2 j9 (o.1 - (k + 1)) (k + 1)) * 4) + (o.2.1 k)) : Nat) : Int)) hx hb wdX9_readOf_35 (by omega) ?_
      refine lv_iconst (v := zI 1) hx hb wdX9_readOf_36 rfl ?_
      refine z_iadd (z := ((((((rdV9 o.2.1 o.2.2 j9 (o.1 - (k + 1)) (k + 1)) * 4) + (o.2.1 k)) + 1) : Nat) : Int)) hx hb wdX9_readOf_37 (by omega) ?_
      refine lv_istore_n (lv' := [(2, .int (zI ((((((rdV9 o.2.1 o.2.2 j9 (o.1 - (k + 1)) (k + 1)) * 4) + (o.2.1 k)) + 1) : Nat) : Int))), (3, .int (zI (k : Int))), (0, .ref (B + a)), (1, .int (zI (j9 : Int)))]) hx hb wdX9_readOf_38 rfl hl (by decide) rfl (fun ls hl => ?_)
      refine z_iinc (v := ((k : Int) - 1)) (lv' := [(3, .int (zI ((k : Int) - 1))), (2, .int (zI ((((((rdV9 o.2.1 o.2.2 j9 (o.1 - (k + 1)) (k + 1)) * 4) + (o.2.1 k)) + 1) : Nat) : Int))), (0, .ref (B + a)), (1, .int (zI (j9 : Int)))]) hx hb wdX9_readOf_39 hl (k := 1) rfl (by omega) (by decide) rfl (fun ls hl => ?_)
      refine lv_goto (tgt := 9) hx hb wdX9_readOf_42 (by decide) ?_
      replace hl : lv_has ls 4 [(3, .int (zI ((k : Int) - 1))), (2, .int (zI (((rdV9 o.2.1 o.2.2 j9 (o.1 - k) k) : Nat) : Int))), (0, .ref (B + a)), (1, .int (zI (j9 : Int)))] := by rw [show o.1 - k = (o.1 - (k + 1)) + 1 by omega, rd_y (tbo.mp (by omega))]; exact hl
      exact ih (by omega) _ _ ls w (lv_sub hl [0, 1, 2, 3] rfl)
theorem wdX9_readOf_0 : decode cX9_readOf 0 = .ok (.iconst 0, 1) := by decide +kernel
theorem wdX9_readOf_1 : decode cX9_readOf 1 = .ok (.istore_n 2, 1) := by decide +kernel
theorem wdX9_readOf_2 : decode cX9_readOf 2 = .ok (.aload_n 0, 1) := by decide +kernel
theorem wdX9_readOf_3 : decode cX9_readOf 3 = .ok (.getfield 9, 3) := by decide +kernel
theorem wdX9_readOf_6 : decode cX9_readOf 6 = .ok (.iconst 1, 1) := by decide +kernel
theorem wdX9_readOf_7 : decode cX9_readOf 7 = .ok (.isub, 1) := by decide +kernel
theorem wdX9_readOf_8 : decode cX9_readOf 8 = .ok (.istore_n 3, 1) := by decide +kernel
theorem wdX9_readOf_45 : decode cX9_readOf 45 = .ok (.iload_n 2, 1) := by decide +kernel
theorem wdX9_readOf_46 : decode cX9_readOf 46 = .ok (.ireturn, 1) := by decide +kernel
set_option maxRecDepth 4000 in
theorem h_readOf {l : Launch} {D : va_G} {B : Nat} {cy : Nat → ClassId} {M : Mem} {a q hv ed : Nat} {o : Wo} (hk : kd a = (9, 0, 0)) (hC : CW M a q hv ed o) {j9 : Nat} (hj9 : j9 < 12) : Ci l D B cy yX9_readOf cX9_readOf 4 (some .int) 0 0 [.ref (B + a), .int (zI (j9 : Int))] M (fun r M1 => r = zI ((rdW9 o j9 : Nat) : Int) ∧ M1 = M) := by
  refine s_any (by decide) (Nat.le_of_ble_eq_true rfl) ?_
  intro p e s m below meth c ls F hr hlocks w hl
  have F : CallFix p m c cX9_readOf 4 s _ TB RX9 := F
  have hx := F.1
  have hb := F.2.1
  have hl : lv_has ls 4 [(0, .ref (B + a)), (1, .int (zI (j9 : Int)))] := hl
  have hW := hC.1
  have hwf := hC.wf
  have hKL := hwf.2.2.2.2
  have hn12 := hwf.1
  have hq12 := hwf.2.1
  have hhv := hwf.2.2.1
  have hed := hwf.2.2.2.1
  refine lv_iconst (v := zI 0) hx hb wdX9_readOf_0 rfl ?_
  refine lv_istore_n (lv' := [(2, .int (zI 0)), (0, .ref (B + a)), (1, .int (zI (j9 : Int)))]) hx hb wdX9_readOf_1 rfl hl (by decide) rfl (fun ls hl => ?_)
  refine lv_aload_n hx hb wdX9_readOf_2 rfl (lv_at hl 1 rfl) ?_
  refine f_9_0 F w (a := a) hk wtb_226 wdX9_readOf_3 ?_
  refine r_val (v := (zI ((o.1 : Nat) : Int))) (hW.1) ?_
  refine lv_iconst (v := zI 1) hx hb wdX9_readOf_6 rfl ?_
  refine z_isub (z := (((o.1 : Nat) : Int) - 1)) hx hb wdX9_readOf_7 (by omega) ?_
  refine lv_istore_n (lv' := [(3, .int (zI (((o.1 : Nat) : Int) - 1))), (2, .int (zI 0)), (0, .ref (B + a)), (1, .int (zI (j9 : Int)))]) hx hb wdX9_readOf_8 rfl hl (by decide) rfl (fun ls hl => ?_)
  replace hl : lv_has ls 4 [(3, .int (zI (((o.1 : Nat) : Int) - 1))), (2, .int (zI (((rdV9 o.2.1 o.2.2 j9 (o.1 - o.1) o.1) : Nat) : Int))), (0, .ref (B + a)), (1, .int (zI (j9 : Int)))] := by rw [Nat.sub_self]; exact hl
  refine lp_X9_readOf F (Nat.le_of_ble_eq_true rfl) (Nat.le_of_ble_eq_true rfl) hk hC hj9 (fun H locs ls  w hl => ?_) o.1 (Nat.le_refl _) _ _ ls w (lv_sub hl [0, 1, 2, 3] rfl)
  refine lv_iload_n hx hb wdX9_readOf_45 rfl (lv_at hl 0 rfl) ?_
  exact e_i F w hr hlocks ⟨rfl, rfl⟩ wdX9_readOf_46
theorem wdX9_mostTones_4 : decode cX9_mostTones 4 = .ok (.iload_n 2, 1) := by decide +kernel
theorem wdX9_mostTones_5 : decode cX9_mostTones 5 = .ok (.aload_n 0, 1) := by decide +kernel
theorem wdX9_mostTones_6 : decode cX9_mostTones 6 = .ok (.getfield 15, 3) := by decide +kernel
theorem wdX9_mostTones_9 : decode cX9_mostTones 9 = .ok (.if_icmp .ge 22, 3) := by decide +kernel
theorem wdX9_mostTones_12 : decode cX9_mostTones 12 = .ok (.iload_n 1, 1) := by decide +kernel
theorem wdX9_mostTones_13 : decode cX9_mostTones 13 = .ok (.aload_n 0, 1) := by decide +kernel
theorem wdX9_mostTones_14 : decode cX9_mostTones 14 = .ok (.iload_n 2, 1) := by decide +kernel
theorem wdX9_mostTones_15 : decode cX9_mostTones 15 = .ok (.invokevirtual 66, 3) := by decide +kernel
theorem wtb_302 : Cond.methodLink "ToneLines$Word" 66 yX9_tonesOf ∈ TB := tbm (tc4 (List.mem_of_getElem? (i := 143) rfl)) rfl
theorem wgv_X9_66 : GoodIn TB (wsV RX9 66 RX9 yX9_tonesOf (cw yX9_tonesOf cX9_tonesOf 4 (some .int))) := goodIn_4 wtb_302 wtb_43 wtb_44 wtb_3 wgc_X9_tonesOf
theorem wdX9_mostTones_18 : decode cX9_mostTones 18 = .ok (.invokestatic 60, 3) := by decide +kernel
theorem wtb_303 : Cond.methodLink "ToneLines$Word" 60 yJ6_bitCount_0f7a4 ∈ TB := tbm (tc4 (List.mem_of_getElem? (i := 129) rfl)) rfl
theorem wgs_X9_60 : GoodIn TB (va_wsS RX9 60 yJ6_bitCount_0f7a4 (cw yJ6_bitCount_0f7a4 cJ6_bitCount_0f7a4 1 (some .int))) := goodIn_3 wtb_303 wtb_13 wtb_14 wgc_J6_bitCount_0f7a4
theorem wdX9_mostTones_21 : decode cX9_mostTones 21 = .ok (.invokestatic 69, 3) := by decide +kernel
theorem wtb_304 : Cond.methodLink "ToneLines$Word" 69 yJ9_max_7cf53 ∈ TB := tbm (tc4 (List.mem_of_getElem? (i := 144) rfl)) rfl
theorem wdX9_mostTones_24 : decode cX9_mostTones 24 = .ok (.istore_n 1, 1) := by decide +kernel
theorem wdX9_mostTones_25 : decode cX9_mostTones 25 = .ok (.iinc 2 1, 3) := by decide +kernel
theorem wdX9_mostTones_28 : decode cX9_mostTones 28 = .ok (.goto (-24), 3) := by decide +kernel
set_option maxRecDepth 4000 in
theorem lp_X9_mostTones {p : Program} {l : Launch} {e : Env} {s : State} {m : MethodId} {args : Array Value} {below : List Frame} {meth : Method} {c : Code} {D : va_G} {B : Nat} {cy : Nat → ClassId} {H0 : Heap} {Q : State → Prop} {M : Mem} {R : Room} {a q hv ed : Nat} {o : Wo} (F : CallFix p m c cX9_mostTones 3 s args TB RX9) (hR1 : 1 ≤ R.frames) (hR2 : 23 ≤ R.locals) (hk : kd a = (9, 0, 0)) (hC : CW M a q hv ed o) (kk : ∀ (t : Nat) (H : Heap) (locs : List Loc) (ls : Array Slot), (t = q) → Wd D B cy s H0 M H locs → lv_has ls 3 [(1, .int (zI (((maxP (fun s => pop (tmk o.2.2 s o.1)) t) : Nat) : Int)))] → W p l e R s m args below meth c H locs 0 0 Q (F0 m 31 ls [])) : ∀ (f : Nat) (t : Nat), (t ≤ q) → (q ≤ t + f) → ∀ (H : Heap) (locs : List Loc) (ls : Array Slot), Wd D B cy s H0 M H locs → lv_has ls 3 [(2, .int (zI (t : Int))), (1, .int (zI (((maxP (fun s => pop (tmk o.2.2 s o.1)) t) : Nat) : Int))), (0, .ref (B + a))] → W p l e R s m args below meth c H locs 0 0 Q (F0 m 4 ls []) := by
  have hx := F.1
  have hb := F.2.1
  have hW := hC.1
  have hwf := hC.wf
  have hKL := hwf.2.2.2.2
  have hn12 := hwf.1
  have hq12 := hwf.2.1
  have hhv := hwf.2.2.1
  have hed := hwf.2.2.2.1
  intro f
  induction f with
  | zero =>
    intro t i0 hf H locs ls w hl
    have hmx : maxP (fun s => pop (tmk o.2.2 s o.1)) t ≤ 12 := maxP_le (fun k _ => (pop_le _ (tmk_lt hn12)).1)
    refine lv_iload_n hx hb wdX9_mostTones_4 rfl (lv_at hl 0 rfl) ?_
    refine lv_aload_n hx hb wdX9_mostTones_5 rfl (lv_at hl 2 rfl) ?_
    refine f_9_1 F w (a := a) hk wtb_228 wdX9_mostTones_6 ?_
    refine r_val (v := (zI (q : Int))) (hW.2.1) ?_
    refine z_icmp_ge (tgt := 31) hx hb (by omega) (by omega) wdX9_mostTones_9 (by decide) (fun c1 => ?_) (fun c1 => False.elim (by omega))
    exact kk t _ _ ls (by omega) w (lv_sub hl [1] rfl)
  | succ f ih =>
    intro t i0 hf H locs ls w hl
    have hmx : maxP (fun s => pop (tmk o.2.2 s o.1)) t ≤ 12 := maxP_le (fun k _ => (pop_le _ (tmk_lt hn12)).1)
    refine lv_iload_n hx hb wdX9_mostTones_4 rfl (lv_at hl 0 rfl) ?_
    refine lv_aload_n hx hb wdX9_mostTones_5 rfl (lv_at hl 2 rfl) ?_
    refine f_9_1 F w (a := a) hk wtb_228 wdX9_mostTones_6 ?_
    refine r_val (v := (zI (q : Int))) (hW.2.1) ?_
    refine z_icmp_ge (tgt := 31) hx hb (by omega) (by omega) wdX9_mostTones_9 (by decide) (fun c1 => ?_) (fun c1 => ?_)
    · exact kk t _ _ ls (by omega) w (lv_sub hl [1] rfl)
    · refine lv_iload_n hx hb wdX9_mostTones_12 rfl (lv_at hl 1 rfl) ?_
      refine lv_aload_n hx hb wdX9_mostTones_13 rfl (lv_at hl 2 rfl) ?_
      refine lv_iload_n hx hb wdX9_mostTones_14 rfl (lv_at hl 0 rfl) ?_
      refine x_Vi F w (As := [.int (zI (t : Int))]) (rest := [.int (zI (((maxP (fun s => pop (tmk o.2.2 s o.1)) t) : Nat) : Int))]) (a := a) (kd_lt (a := a) hk (by decide)) (sh_9 hk _ _) rfl (s_X9_tonesOf hk hW hwf (j := t) (by omega)) wgv_X9_66 whv_X9_tonesOf ⟨(by omega), (by omega)⟩ hl.1 rfl (Nat.le_of_ble_eq_true rfl) ⟨Nat.zero_le _, Nat.zero_le _⟩ wdX9_mostTones_15 (fun H locs w => ?_)
      have hm1 := tmk_lt (L := o.2.2) (j := t) (n := o.1) (by omega)
      refine x_Si F w (As := [.int (zI (((tmk o.2.2 t o.1) : Nat) : Int))]) (rest := [.int (zI (((maxP (fun s => pop (tmk o.2.2 s o.1)) t) : Nat) : Int))]) (s_bitCountN (m := (tmk o.2.2 t o.1)) (by omega)) wgs_X9_60 whs_J6_bitCount_0f7a4 ⟨(by omega), (by omega)⟩ hl.1 rfl (Nat.le_of_ble_eq_true rfl) ⟨Nat.zero_le _, Nat.zero_le _⟩ wdX9_mostTones_18 (fun H locs w => ?_)
      have hp2 := (pop_le (tmk o.2.2 t o.1) (by omega)).1
      refine g_max F hl.1 wtb_304 wtb_38 wtb_39 wtq_max (by omega) (by show 0 + 13 ≤ R.locals; omega) (Nat.zero_le _) (Nat.zero_le _) (v := (zI (((maxP (fun s => pop (tmk o.2.2 s o.1)) (t + 1)) : Nat) : Int))) (maxP_z (fun s => pop (tmk o.2.2 s o.1)) t (by omega) (by show pop (tmk o.2.2 t o.1) < 2147483648; omega)) wdX9_mostTones_21 ?_
      refine lv_istore_n (lv' := [(1, .int (zI (((maxP (fun s => pop (tmk o.2.2 s o.1)) (t + 1)) : Nat) : Int))), (2, .int (zI (t : Int))), (0, .ref (B + a))]) hx hb wdX9_mostTones_24 rfl hl (by decide) rfl (fun ls hl => ?_)
      refine z_iinc (v := (((t + 1) : Nat) : Int)) (lv' := [(2, .int (zI (((t + 1) : Nat) : Int))), (1, .int (zI (((maxP (fun s => pop (tmk o.2.2 s o.1)) (t + 1)) : Nat) : Int))), (0, .ref (B + a))]) hx hb wdX9_mostTones_25 hl (k := 1) rfl (by omega) (by decide) rfl (fun ls hl => ?_)
      refine lv_goto (tgt := 4) hx hb wdX9_mostTones_28 (by decide) ?_
      exact ih (t + 1) (by omega) (by omega) _ _ ls w (lv_sub hl [0, 1, 2] rfl)
theorem wdX9_mostTones_0 : decode cX9_mostTones 0 = .ok (.iconst 0, 1) := by decide +kernel
theorem wdX9_mostTones_1 : decode cX9_mostTones 1 = .ok (.istore_n 1, 1) := by decide +kernel
theorem wdX9_mostTones_2 : decode cX9_mostTones 2 = .ok (.iconst 0, 1) := by decide +kernel
theorem wdX9_mostTones_3 : decode cX9_mostTones 3 = .ok (.istore_n 2, 1) := by decide +kernel
theorem wdX9_mostTones_31 : decode cX9_mostTones 31 = .ok (.iload_n 1, 1) := by decide +kernel
theorem wdX9_mostTones_32 : decode cX9_mostTones 32 = .ok (.ireturn, 1) := by decide +kernel
set_option maxRecDepth 4000 in
theorem h_mostTones {l : Launch} {D : va_G} {B : Nat} {cy : Nat → ClassId} {M : Mem} {a q hv ed : Nat} {o : Wo} (hk : kd a = (9, 0, 0)) (hC : CW M a q hv ed o) : Ci l D B cy yX9_mostTones cX9_mostTones 3 (some .int) 1 23 [.ref (B + a)] M (fun r M1 => r = zI ((maxP (fun s => pop (tmk o.2.2 s o.1)) q : Nat) : Int) ∧ M1 = M) := by
  refine s_any (by decide) (Nat.le_of_ble_eq_true rfl) ?_
  intro p e s m below meth c ls F hr hlocks w hl
  have F : CallFix p m c cX9_mostTones 3 s _ TB RX9 := F
  have hx := F.1
  have hb := F.2.1
  have hl : lv_has ls 3 [(0, .ref (B + a))] := hl
  have hW := hC.1
  have hwf := hC.wf
  have hKL := hwf.2.2.2.2
  have hn12 := hwf.1
  have hq12 := hwf.2.1
  have hhv := hwf.2.2.1
  have hed := hwf.2.2.2.1
  have hmq : maxP (fun s => pop (tmk o.2.2 s o.1)) q ≤ 12 := maxP_le (fun k _ => (pop_le _ (tmk_lt hn12)).1)
  refine lv_iconst (v := zI 0) hx hb wdX9_mostTones_0 rfl ?_
  refine lv_istore_n (lv' := [(1, .int (zI 0)), (0, .ref (B + a))]) hx hb wdX9_mostTones_1 rfl hl (by decide) rfl (fun ls hl => ?_)
  refine lv_iconst (v := zI 0) hx hb wdX9_mostTones_2 rfl ?_
  refine lv_istore_n (lv' := [(2, .int (zI 0)), (1, .int (zI 0)), (0, .ref (B + a))]) hx hb wdX9_mostTones_3 rfl hl (by decide) rfl (fun ls hl => ?_)
  refine lp_X9_mostTones  F (Nat.le_of_ble_eq_true rfl) (Nat.le_of_ble_eq_true rfl) hk hC (fun t H locs ls x0 w hl => ?_) q 0 (by omega) (by omega) _ _ ls w (lv_sub hl [0, 1, 2] rfl)
  rw [x0] at hl
  refine lv_iload_n hx hb wdX9_mostTones_31 rfl (lv_at hl 0 rfl) ?_
  exact e_i F w hr hlocks ⟨rfl, rfl⟩ wdX9_mostTones_32
theorem wdX9_linkedFromFirst_0 : decode cX9_linkedFromFirst 0 = .ok (.aload_n 0, 1) := by decide +kernel
theorem wdX9_linkedFromFirst_1 : decode cX9_linkedFromFirst 1 = .ok (.invokevirtual 48, 3) := by decide +kernel
theorem wtk_X9_bare : Cond.code yX9_bare cX9_bare 3 (some .int) ∈ TB := tbm (tc3 (List.mem_of_getElem? (i := 227) rfl)) rfl
theorem wgc_X9_bare : GoodIn TB (cw yX9_bare cX9_bare 3 (some .int)) := goodIn_c2 wtk_X9_bare
theorem wtb_305 : Cond.methodLink "ToneLines$Word" 48 yX9_bare ∈ TB := tbm (tc3 (List.mem_of_getElem? (i := 224) rfl)) rfl
theorem wtb_306 : Cond.instanceMethod yX9_bare ∈ TB := tbm (tc3 (List.mem_of_getElem? (i := 225) rfl)) rfl
theorem wtb_307 : Cond.selects "ToneLines$Word" yX9_bare yX9_bare ∈ TB := tbm (tc3 (List.mem_of_getElem? (i := 226) rfl)) rfl
theorem wgv_X9_48 : GoodIn TB (wsV RX9 48 RX9 yX9_bare (cw yX9_bare cX9_bare 3 (some .int))) := goodIn_4 wtb_305 wtb_306 wtb_307 wtb_3 wgc_X9_bare
theorem whv_X9_bare : yX9_bare.cls = RX9 ∧ yX9_bare.cls ≠ "java/lang/invoke/MethodHandle" ∧ yX9_bare.cls ≠ "java/lang/invoke/VarHandle" ∧ (parseMethodDescriptor yX9_bare.desc).map (fun d => d.parameters.length) = some 0 := by decide +kernel
theorem wdX9_linkedFromFirst_4 : decode cX9_linkedFromFirst 4 = .ok (.invokestatic 75, 3) := by decide +kernel
theorem wdX9_linkedFromFirst_7 : decode cX9_linkedFromFirst 7 = .ok (.istore_n 1, 1) := by decide +kernel
theorem wdX9_linkedFromFirst_8 : decode cX9_linkedFromFirst 8 = .ok (.iload_n 1, 1) := by decide +kernel
theorem wdX9_linkedFromFirst_9 : decode cX9_linkedFromFirst 9 = .ok (.iconst (-1), 1) := by decide +kernel
theorem wdX9_linkedFromFirst_10 : decode cX9_linkedFromFirst 10 = .ok (.if_icmp .ne 10, 3) := by decide +kernel
theorem wdX9_linkedFromFirst_20 : decode cX9_linkedFromFirst 20 = .ok (.iload_n 1, 1) := by decide +kernel
theorem wdX9_linkedFromFirst_21 : decode cX9_linkedFromFirst 21 = .ok (.ireturn, 1) := by decide +kernel
theorem wdX9_linkedFromFirst_13 : decode cX9_linkedFromFirst 13 = .ok (.aload_n 0, 1) := by decide +kernel
theorem wdX9_linkedFromFirst_14 : decode cX9_linkedFromFirst 14 = .ok (.getfield 15, 3) := by decide +kernel
theorem wdX9_linkedFromFirst_17 : decode cX9_linkedFromFirst 17 = .ok (.goto 4, 3) := by decide +kernel
set_option maxRecDepth 4000 in
theorem h_linkedFromFirst {l : Launch} {D : va_G} {B : Nat} {cy : Nat → ClassId} {M : Mem} {a q hv ed : Nat} {o : Wo} (hk : kd a = (9, 0, 0)) (hC : CW M a q hv ed o)  : Ci l D B cy yX9_linkedFromFirst cX9_linkedFromFirst 2 (some .int) 2 40 [.ref (B + a)] M (fun r M1 => r = zI ((fbF o.1 q o.2.2 : Nat) : Int) ∧ M1 = M) := by
  refine s_any (by decide) (Nat.le_of_ble_eq_true rfl) ?_
  intro p e s m below meth c ls F hr hlocks w hl
  have F : CallFix p m c cX9_linkedFromFirst 2 s _ TB RX9 := F
  have hx := F.1
  have hb := F.2.1
  have hl : lv_has ls 2 [(0, .ref (B + a))] := hl
  have hW := hC.1
  have hwf := hC.wf
  have hKL := hwf.2.2.2.2
  have hn12 := hwf.1
  have hq12 := hwf.2.1
  have hhv := hwf.2.2.1
  have hed := hwf.2.2.2.1
  refine lv_aload_n hx hb wdX9_linkedFromFirst_0 rfl (lv_at hl 0 rfl) ?_
  refine x_Vi F w (As := []) (rest := []) (a := a) (kd_lt (a := a) hk (by decide)) (sh_9 hk _ _) rfl (s_X9_bare hk hW hwf) wgv_X9_48 whv_X9_bare ⟨(Nat.le_of_ble_eq_true rfl), (Nat.le_of_ble_eq_true rfl)⟩ hl.1 rfl (Nat.le_of_ble_eq_true rfl) ⟨Nat.zero_le _, Nat.zero_le _⟩ wdX9_linkedFromFirst_1 (fun H locs w => ?_)
  have hbl := fb_lt (n := o.1) (L := o.2.2) hq12
  refine x_Ni F w (As := [.int (zI (((andn (2 ^ q - 1) (orL o.2.2 o.1)) : Nat) : Int))]) (rest := []) (s_X11_lowest (m9 := (andn (2 ^ q - 1) (orL o.2.2 o.1))) (by omega)) wgc_X11_lowest wtb_5 wtb_6 (by decide) whs_X11_lowest ⟨(Nat.le_of_ble_eq_true rfl), (Nat.le_of_ble_eq_true rfl)⟩ hl.1 rfl (Nat.le_of_ble_eq_true rfl) ⟨Nat.zero_le _, Nat.zero_le _⟩ wdX9_linkedFromFirst_4 (fun H locs w => ?_)
  have hw1 := lowI_rg (andn (2 ^ q - 1) (orL o.2.2 o.1)) (by omega)
  refine lv_istore_n (lv' := [(1, .int (zI (lowI (andn (2 ^ q - 1) (orL o.2.2 o.1))))), (0, .ref (B + a))]) hx hb wdX9_linkedFromFirst_7 rfl hl (by decide) rfl (fun ls hl => ?_)
  refine lv_iload_n hx hb wdX9_linkedFromFirst_8 rfl (lv_at hl 0 rfl) ?_
  refine lv_iconst (v := zI (-1)) hx hb wdX9_linkedFromFirst_9 rfl ?_
  refine z_icmp_ne (tgt := 20) hx hb (by omega) (by omega) wdX9_linkedFromFirst_10 (by decide) (fun c3 => ?_) (fun c3 => ?_)
  · refine lv_iload_n hx hb wdX9_linkedFromFirst_20 rfl (lv_at hl 0 rfl) ?_
    exact e_i F w hr hlocks ⟨congrArg zI (fb_c2 hq12 (by omega)), rfl⟩ wdX9_linkedFromFirst_21
  · refine lv_aload_n hx hb wdX9_linkedFromFirst_13 rfl (lv_at hl 1 rfl) ?_
    refine f_9_1 F w (a := a) hk wtb_228 wdX9_linkedFromFirst_14 ?_
    refine r_val (v := (zI (q : Int))) (hW.2.1) ?_
    refine lv_goto (tgt := 21) hx hb wdX9_linkedFromFirst_17 (by decide) ?_
    exact e_i F w hr hlocks ⟨congrArg zI (congrArg _ (fb_c1 hq12 (by omega)).symm), rfl⟩ wdX9_linkedFromFirst_21
