-- how a rule was done; counts
noncomputable def dnA (Ps : Nat → Nat → Int) (m : Nat) (r w : Int) (x : Fw) : Int := if 0 ≤ r ∧ r < (m : Int) ∧ 0 ≤ w ∧ w ≤ 1 then (if w = 0 then (((pf9 Ps x r.toNat).2.1 : Nat) : Int) else (((pf9 Ps x r.toNat).2.2 : Nat) : Int)) else -1
theorem dnA_n {Ps : Nat → Nat → Int} {m : Nat} {r w : Int} {x : Fw} (h : ¬ (0 ≤ r ∧ r < (m : Int) ∧ 0 ≤ w ∧ w ≤ 1)) : dnA Ps m r w x = -1 := by unfold dnA; rw [if_neg h]
theorem dnA_0 {Ps : Nat → Nat → Int} {m rn : Nat} {w : Int} {x : Fw} (h : rn < m) (hw : w = 0) : dnA Ps m (rn : Int) w x = (((pf9 Ps x rn).2.1 : Nat) : Int) := by unfold dnA; rw [if_pos (by omega), if_pos hw, Int.toNat_natCast]
theorem dnA_1 {Ps : Nat → Nat → Int} {m rn : Nat} {w : Int} {x : Fw} (h : rn < m) (hw : w = 1) : dnA Ps m (rn : Int) w x = (((pf9 Ps x rn).2.2 : Nat) : Int) := by unfold dnA; rw [if_pos (by omega), if_neg (by omega), Int.toNat_natCast]
theorem pf9_l {Ps : Nat → Nat → Int} {m i q hv ed hv2 ed2 : Nat} {o : Wo} (hG : ∀ j, j < m → okG (Ps j)) (hk : okW q o) (h1 : lkB q hv hv2) (h2 : lkB q ed ed2) (hi : i < m) : pf9 Ps (q, hv, ed, o) i = pf9 Ps (q, hv2, ed2, o) i := by
  have e := sg9_l (n := i) hG hk h1 h2 (by omega)
  have hok := (dvF_l h1 h2 hk i (fun j hj => hG j (by omega))).2
  show pfF (Ps i) q hv ed 20 (sg9 Ps (q, hv, ed, o) i) = pfF (Ps i) q hv2 ed2 20 (sg9 Ps (q, hv2, ed2, o) i)
  rw [← e.1]
  exact (pfF_l (hG i hi) h1 h2 20 _ hok).1
theorem al_done {Ps : Nat → Nat → Int} {m q hv ed hv2 ed2 : Nat} {o : Wo} {r w : Int} (hG : ∀ j, j < m → okG (Ps j)) (hk : okW q o) (h1 : lkB q hv hv2) (h2 : lkB q ed ed2) : dnA Ps m r w (q, hv, ed, o) = dnA Ps m r w (q, hv2, ed2, o) := by
  by_cases h : 0 ≤ r ∧ r < (m : Int) ∧ 0 ≤ w ∧ w ≤ 1
  · unfold dnA
    rw [if_pos h, if_pos h, pf9_l hG hk h1 h2 (show r.toNat < m by omega)]
  · rw [dnA_n h, dnA_n h]
section Cn
variable {Ps : Nat → Nat → Int} {m k tn : Nat} {w : Int} {x : Fw}
end Cn
theorem wdX11_done_0 : decode cX11_done 0 = .ok (.aload_n 0, 1) := dX11_done_0
theorem wdX11_done_1 : decode cX11_done 1 = .ok (.getfield 35, 3) := dX11_done_1
theorem wdX11_done_4 : decode cX11_done 4 = .ok (.iload_n 1, 1) := dX11_done_4
theorem wdX11_done_5 : decode cX11_done 5 = .ok (.invokevirtual 173, 3) := dX11_done_5
theorem wdX11_done_8 : decode cX11_done 8 = .ok (.ifCond .eq 12, 3) := dX11_done_8
theorem wdX11_done_11 : decode cX11_done 11 = .ok (.iload_n 2, 1) := dX11_done_11
theorem wdX11_done_12 : decode cX11_done 12 = .ok (.ifCond .lt 8, 3) := dX11_done_12
theorem wdX11_done_20 : decode cX11_done 20 = .ok (.iconst (-1), 1) := dX11_done_20
theorem wdX11_done_21 : decode cX11_done 21 = .ok (.ireturn, 1) := dX11_done_21
theorem wdX11_done_15 : decode cX11_done 15 = .ok (.iload_n 2, 1) := dX11_done_15
theorem wdX11_done_16 : decode cX11_done 16 = .ok (.iconst 1, 1) := dX11_done_16
theorem wdX11_done_17 : decode cX11_done 17 = .ok (.if_icmp .le 5, 3) := dX11_done_17
theorem wdX11_done_22 : decode cX11_done 22 = .ok (.aload_n 0, 1) := dX11_done_22
theorem wdX11_done_23 : decode cX11_done 23 = .ok (.getfield 35, 3) := dX11_done_23
theorem wdX11_done_26 : decode cX11_done 26 = .ok (.iload_n 1, 1) := dX11_done_26
theorem wdX11_done_27 : decode cX11_done 27 = .ok (.iconst 1, 1) := dX11_done_27
theorem wdX11_done_28 : decode cX11_done 28 = .ok (.iadd, 1) := dX11_done_28
theorem wdX11_done_29 : decode cX11_done 29 = .ok (.invokevirtual 196, 3) := dX11_done_29
theorem wdX11_done_32 : decode cX11_done 32 = .ok (.pop, 1) := dX11_done_32
theorem wdX11_done_33 : decode cX11_done 33 = .ok (.iload_n 2, 1) := dX11_done_33
theorem wdX11_done_34 : decode cX11_done 34 = .ok (.ifCond .ne 15, 3) := dX11_done_34
theorem wdX11_done_49 : decode cX11_done 49 = .ok (.aload_n 0, 1) := dX11_done_49
theorem wdX11_done_50 : decode cX11_done 50 = .ok (.getfield 35, 3) := dX11_done_50
theorem wdX11_done_53 : decode cX11_done 53 = .ok (.getfield 261, 3) := dX11_done_53
theorem wtb_366 : Cond.fieldLink "ToneLines" 261 "ToneLines$Derivation" "passes" "[I" ∈ TB := tb_374
theorem wdX11_done_56 : decode cX11_done 56 = .ok (.iload_n 1, 1) := dX11_done_56
theorem wdX11_done_57 : decode cX11_done 57 = .ok (.iaload, 1) := dX11_done_57
theorem wdX11_done_58 : decode cX11_done 58 = .ok (.ireturn, 1) := dX11_done_58
theorem wdX11_done_37 : decode cX11_done 37 = .ok (.aload_n 0, 1) := dX11_done_37
theorem wdX11_done_38 : decode cX11_done 38 = .ok (.getfield 35, 3) := dX11_done_38
theorem wdX11_done_41 : decode cX11_done 41 = .ok (.getfield 258, 3) := dX11_done_41
theorem wtb_367 : Cond.fieldLink "ToneLines" 258 "ToneLines$Derivation" "changes" "[I" ∈ TB := tb_375
theorem wdX11_done_44 : decode cX11_done 44 = .ok (.iload_n 1, 1) := dX11_done_44
theorem wdX11_done_45 : decode cX11_done 45 = .ok (.iaload, 1) := dX11_done_45
theorem wdX11_done_46 : decode cX11_done 46 = .ok (.goto 12, 3) := dX11_done_46
set_option maxRecDepth 4000 in
theorem h_done {l : Launch} {D : va_G} {B : Nat} {cy : Nat → ClassId} {M : Mem} {Ps : Nat → Nat → Int} {mr rd k q hv ed : Nat} {o : Wo} {Hs : Nat → Fw} (hS : CS M Ps mr (q, hv, ed, o) rd Hs k) {r9 w9 : Int} (hr9 : rg r9) (hw9 : rg w9) : Ci l D B cy yX11_done cX11_done 3 (some .int) 6 155 [.ref (B + 0), .int (zI r9), .int (zI w9)] M (fun r M1 => r = zI (dnA Ps mr r9 w9 (q, hv, ed, o))) := by
  refine s_any (by decide) (Nat.le_of_ble_eq_true rfl) ?_
  intro p e s m below meth c ls F hr hlocks w hl
  have F : CallFix p m c cX11_done 3 s _ TB RX11 := F
  have hx := F.1
  have hb := F.2.1
  have hl : lv_has ls 3 [(0, .ref (B + 0)), (1, .int (zI r9)), (2, .int (zI w9))] := hl
  have hm8 := hS.1.2.1
  have hC : CW M 44 q hv ed o := hS.t
  have hW : isW M 44 o.1 q hv ed o.2.1 o.2.2 := hC.1
  have hwf := hC.wf
  have hKL := hwf.2.2.2.2
  have hn12 := hwf.1
  have hq12 := hwf.2.1
  have hhv := hwf.2.2.1
  have hed := hwf.2.2.2.1
  refine lv_aload_n hx hb wdX11_done_0 rfl (lv_at hl 0 rfl) ?_
  refine f_11_3 F w (a := 0) rfl wtb_207 wdX11_done_1 ?_
  refine lv_iload_n hx hb wdX11_done_4 rfl (lv_at hl 1 rfl) ?_
  refine k_Vi F w (As := [.int (zI r9)]) (rest := []) (a := 22) (kd_lt (a := 22) (show kd 22 = (0, 0, 0) from rfl) (by decide)) (sh_0 rfl _ _) rfl (g_hasRule hS (n9 := r9) (by omega)) wgv_X11_173 whv_X0_hasRule ⟨(Nat.le_of_ble_eq_true rfl), (Nat.le_of_ble_eq_true rfl)⟩ hl.1 rfl (Nat.le_of_ble_eq_true rfl) ⟨Nat.zero_le _, Nat.zero_le _⟩ wdX11_done_5 (fun r Ma2 H locs hp w => ?_)
  rcases hp with ⟨⟨hb1, rfl⟩ | ⟨hb1, rfl⟩, hMe⟩
  · rw [hMe] at w
    obtain ⟨rn, rfl⟩ : ∃ n8 : Nat, r9 = (n8 : Int) := ⟨Int.toNat r9, by omega⟩
    have hrn : rn < mr := by omega
    refine z_if_eq (tgt := 20) hx hb (by omega) wdX11_done_8 (by decide) (fun c3 => False.elim (by omega)) (fun c3 => ?_)
    refine lv_iload_n hx hb wdX11_done_11 rfl (lv_at hl 2 rfl) ?_
    refine z_if_lt (tgt := 20) hx hb (by omega) wdX11_done_12 (by decide) (fun c4 => ?_) (fun c4 => ?_)
    · refine lv_iconst (v := zI (-1)) hx hb wdX11_done_20 rfl ?_
      exact e_i F w hr hlocks (congrArg zI (dnA_n (by omega)).symm) wdX11_done_21
    · refine lv_iload_n hx hb wdX11_done_15 rfl (lv_at hl 2 rfl) ?_
      refine lv_iconst (v := zI 1) hx hb wdX11_done_16 rfl ?_
      refine z_icmp_le (tgt := 22) hx hb (by omega) (by omega) wdX11_done_17 (by decide) (fun c5 => ?_) (fun c5 => ?_)
      · refine lv_aload_n hx hb wdX11_done_22 rfl (lv_at hl 0 rfl) ?_
        refine f_11_3 F w (a := 0) rfl wtb_207 wdX11_done_23 ?_
        refine lv_iload_n hx hb wdX11_done_26 rfl (lv_at hl 1 rfl) ?_
        refine lv_iconst (v := zI 1) hx hb wdX11_done_27 rfl ?_
        refine z_iadd (z := (((rn + 1) : Nat) : Int)) hx hb wdX11_done_28 (by omega) ?_
        refine k_Vr F w (As := [.int (zI (((rn + 1) : Nat) : Int))]) (rest := []) (a := 22) (kd_lt (a := 22) (show kd 22 = (0, 0, 0) from rfl) (by decide)) (sh_0 rfl _ _) rfl (g_stageOf hS (n9 := (rn + 1)) (by omega)) wgv_X11_196 whv_X0_stageOf ⟨(Nat.le_of_ble_eq_true rfl), (Nat.le_of_ble_eq_true rfl)⟩ hl.1 rfl (Nat.le_of_ble_eq_true rfl) ⟨Nat.zero_le _, Nat.zero_le _⟩ wdX11_done_29 (fun r Ma6 H locs hp w => ?_)
        rcases hp with ⟨rfl, rd1, hnr, _, hS1, _⟩
        have hcd := hS1.2.1.2.2.2 rn (by omega)
        refine lv_pop hx hb wdX11_done_32 rfl ?_
        refine lv_iload_n hx hb wdX11_done_33 rfl (lv_at hl 2 rfl) ?_
        refine z_if_ne (tgt := 49) hx hb (by omega) wdX11_done_34 (by decide) (fun c7 => ?_) (fun c7 => ?_)
        · refine lv_aload_n hx hb wdX11_done_49 rfl (lv_at hl 0 rfl) ?_
          refine f_11_3 F w (a := 0) rfl wtb_207 wdX11_done_50 ?_
          refine f_0_6 F w (a := 22) rfl wtb_366 wdX11_done_53 ?_
          refine lv_iload_n hx hb wdX11_done_56 rfl (lv_at hl 1 rfl) ?_
          refine g_iald F w (a := 27) rfl (j := rn) (ix_n (by omega)) (by omega) wdX11_done_57 ?_
          refine r_val (v := (zI (((pf9 Ps (q, hv, ed, o) rn).2.2 : Nat) : Int))) (hcd.2.1) ?_
          exact e_i F w hr hlocks (congrArg zI (dnA_1 hrn (by omega)).symm) wdX11_done_58
        · refine lv_aload_n hx hb wdX11_done_37 rfl (lv_at hl 0 rfl) ?_
          refine f_11_3 F w (a := 0) rfl wtb_207 wdX11_done_38 ?_
          refine f_0_5 F w (a := 22) rfl wtb_367 wdX11_done_41 ?_
          refine lv_iload_n hx hb wdX11_done_44 rfl (lv_at hl 1 rfl) ?_
          refine g_iald F w (a := 26) rfl (j := rn) (ix_n (by omega)) (by omega) wdX11_done_45 ?_
          refine r_val (v := (zI (((pf9 Ps (q, hv, ed, o) rn).2.1 : Nat) : Int))) (hcd.1) ?_
          refine lv_goto (tgt := 58) hx hb wdX11_done_46 (by decide) ?_
          exact e_i F w hr hlocks (congrArg zI (dnA_0 hrn (by omega)).symm) wdX11_done_58
      · refine lv_iconst (v := zI (-1)) hx hb wdX11_done_20 rfl ?_
        exact e_i F w hr hlocks (congrArg zI (dnA_n (by omega)).symm) wdX11_done_21
  · rw [hMe] at w
    refine z_if_eq (tgt := 20) hx hb (by omega) wdX11_done_8 (by decide) (fun c8 => ?_) (fun c8 => False.elim (by omega))
    refine lv_iconst (v := zI (-1)) hx hb wdX11_done_20 rfl ?_
    exact e_i F w hr hlocks (congrArg zI (dnA_n (by omega)).symm) wdX11_done_21
