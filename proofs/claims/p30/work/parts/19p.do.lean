-- the reference: a rule done, rules done in their order
def FrQ9 (M1 M : Mem) : Prop := (∀ b, b ≠ 146 → b ≠ 148 → M1.1 b = M.1 b) ∧ (∀ k, k ≠ 3 → k ≠ 6 → M1.1 146 k = M.1 146 k) ∧ M1.2 = M.2
theorem FrQ9.rf {M : Mem} : FrQ9 M M := ⟨fun _ _ _ => rfl, fun _ _ _ => rfl, rfl⟩
theorem FrQ9.tr {M M1 M2 : Mem} (h1 : FrQ9 M1 M) (h2 : FrQ9 M2 M1) : FrQ9 M2 M := ⟨fun b x y => (h2.1 b x y).trans (h1.1 b x y), fun k x y => (h2.2.1 k x y).trans (h1.2.1 k x y), h2.2.2.trans h1.2.2⟩
theorem FrQ9.of {M M1 : Mem} (h : FrC M1 M) : FrQ9 M1 M := ⟨h.1, fun k x _ => h.2.1 k x, h.2.2⟩
theorem FrQ9.of1 {M M1 : Mem} (h : Fr1 M1 M 148) : FrQ9 M1 M := FrQ9.of (FrC.of1 h)
theorem FrQ9.c3 {M M1 : Mem} {x : Int32} (h : FrQ9 M1 M) : FrQ9 (st M1 146 3 x) M := FrQ9.tr h (FrQ9.of FrC.c3)
theorem FrQ9.c6 {M M1 : Mem} {x : Int32} (h : FrQ9 M1 M) : FrQ9 (st M1 146 6 x) M := FrQ9.tr h ⟨fun b h1 h2 => by simp [st, sA, h1], fun k h1 h2 => by simp [st, sA, upd, h2], rfl⟩
theorem RW.z {M : Mem} {q hv ed : Nat} {o : Wo} {z y : Int} (h : RW M q hv ed o z) : RW (st M 146 3 (zI y)) q hv ed o y := ⟨isR.c3 h.1, h.2.1, h.2.2.1, h.2.2.2.1, st_at⟩
theorem RW.c6 {M : Mem} {q hv ed : Nat} {o : Wo} {z : Int} {x : Int32} (h : RW M q hv ed o z) : RW (st M 146 6 x) q hv ed o z := by
  have e : (st M 146 6 x).1 148 = M.1 148 := by simp [st, sA]
  refine ⟨by unfold isR; rw [e]; exact h.1, h.2.1, h.2.2.1, h.2.2.2.1, ?_⟩
  rw [st_ne (Or.inr (by decide))]; exact h.2.2.2.2
theorem isV.s146 {M : Mem} {r k : Nat} {P : Nat → Int} {x : Int32} (h : isV M r P) : isV (st M 146 k x) r P := h.fr (by simp [st, sA])
theorem pfI_l {P : Nat → Int} {q hv ed f mo cc pp dd : Nat} {o o1 o2 : Wo} (h : pfI P q hv ed o (f + 1) mo o1 cc pp) (hm : mo = 1) (e : paF P q hv ed o1 = (o2, dd)) (h1 : ¬ (0 < dd ∧ P 1 = 1) ∨ f = 0) : pfI P q hv ed o f 0 o2 (cc + dd) (pp + 1) := by
  by_cases h2 : 0 < dd ∧ P 1 = 1
  · rcases h1 with h1 | h1
    · exact absurd h2 h1
    · exact Or.inr ⟨rfl, pfI_e (pfI_y h hm e h2.1 h2.2) (Or.inr h1)⟩
  · exact pfI_n h hm e h2
/-- what a rule done says, in the reference -/
def WQ (q hv ed : Nat) (f : Wo × Nat × Nat) (M : Mem) (r : Int32) (M1 : Mem) : Prop := ∃ o1 cc pp, f = (o1, cc, pp) ∧ r = zI ((cc : Nat) : Int) ∧ (∃ z, RW M1 q hv ed o1 z) ∧ FrQ9 M1 M ∧ M1.1 146 6 = zI (pp : Int) ∧ cc ≤ 37680 ∧ pp ≤ 20
/-- rules done in their order -/
noncomputable def dvF (Ps : Nat → Nat → Int) (q hv ed : Nat) : Nat → Wo → Wo × Nat
  | 0, o => (o, 0)
  | n + 1, o => ((pfF (Ps n) q hv ed 20 (dvF Ps q hv ed n o).1).1, (dvF Ps q hv ed n o).2 + (pfF (Ps n) q hv ed 20 (dvF Ps q hv ed n o).1).2.1)
theorem dvF_s {Ps : Nat → Nat → Int} {q hv ed n cc dd pp : Nat} {o o1 o2 : Wo} (h : dvF Ps q hv ed n o = (o1, cc)) (h1 : pfF (Ps n) q hv ed 20 o1 = (o2, dd, pp)) : dvF Ps q hv ed (n + 1) o = (o2, cc + dd) := by rw [dvF, h, h1]
/-- the word as told, in the reference -/
def TW (M : Mem) (q hv ed : Nat) (o : Wo) : Prop := isR M 147 o.1 q hv ed o.2.1 o.2.2 ∧ okW q o ∧ hv < 4096 ∧ ed < 4096
theorem TW.wf {M : Mem} {q hv ed : Nat} {o : Wo} (h : TW M q hv ed o) : wf o.1 q hv ed o.2.1 o.2.2 := ⟨h.2.1.1, h.2.1.2.1, h.2.2.1, h.2.2.2, fun k hk => ⟨(h.2.1.2.2 k hk).1, h.2.1.lt hk⟩⟩
theorem TW.fr {M M1 : Mem} {q hv ed : Nat} {o : Wo} (h : TW M q hv ed o) (e : M1.1 147 = M.1 147) : TW M1 q hv ed o := ⟨by unfold isR; rw [e]; exact h.1, h.2⟩
def GV (M : Mem) (Ps : Nat → Nat → Int) (m : Nat) : Prop := m ≤ 8 ∧ ∀ j, j < m → isV M j (Ps j) ∧ okG (Ps j)
theorem GV.fr {M M1 : Mem} {Ps : Nat → Nat → Int} {m : Nat} (h : GV M Ps m) (e : M1.1 149 = M.1 149) : GV M1 Ps m := ⟨h.1, fun j hj => ⟨(h.2 j hj).1.fr e, (h.2 j hj).2⟩⟩
theorem RW.of {M M1 : Mem} {q hv ed : Nat} {o : Wo} (h : isR M1 148 o.1 q hv ed o.2.1 o.2.2) (hT : TW M q hv ed o) : ∃ z, RW M1 q hv ed o z := by
  obtain ⟨z, _, e⟩ := zI_ex (M1.1 146 3)
  exact ⟨z, h, hT.2.1, hT.2.2.1, hT.2.2.2, e⟩
theorem wdX12_works_9 : decode cX12_works 9 = .ok (.iload_n 3, 1) := dq0 kk_29 (by decide +kernel)
theorem wdX12_works_10 : decode cX12_works 10 = .ok (.ifCond .eq 70, 3) := dqT kk_153 (by decide +kernel)
theorem wdX12_works_13 : decode cX12_works 13 = .ok (.aload_n 0, 1) := dq0 kk_42 (by decide +kernel)
theorem wdX12_works_14 : decode cX12_works 14 = .ok (.iconst 0, 1) := dq0 kk_3 (by decide +kernel)
theorem wdX12_works_15 : decode cX12_works 15 = .ok (.putfield 66, 3) := dqV kk_181 (by decide +kernel)
theorem wdX12_works_18 : decode cX12_works 18 = .ok (.aload_n 0, 1) := dq0 kk_42 (by decide +kernel)
theorem wdX12_works_19 : decode cX12_works 19 = .ok (.iload_n 1, 1) := dq0 kk_27 (by decide +kernel)
theorem wdX12_works_20 : decode cX12_works 20 = .ok (.invokevirtual 159, 3) := dqV kk_182 (by decide +kernel)
theorem wtk_X12_passesOnce : Cond.code yX12_passesOnce cX12_passesOnce 7 none ∈ TB := tbm (tc6 (List.mem_of_getElem? (i := 60) rfl)) rfl
theorem wgc_X12_passesOnce : GoodIn TB (cw yX12_passesOnce cX12_passesOnce 7 none) := goodIn_c2 wtk_X12_passesOnce
theorem wtb_172 : Cond.methodLink "ToneLinesModel" 159 yX12_passesOnce ∈ TB := tbm (tc6 (List.mem_of_getElem? (i := 57) rfl)) rfl
theorem wtb_173 : Cond.instanceMethod yX12_passesOnce ∈ TB := tbm (tc6 (List.mem_of_getElem? (i := 59) rfl)) rfl
theorem wtb_174 : Cond.selects "ToneLinesModel" yX12_passesOnce yX12_passesOnce ∈ TB := tbp (List.mem_of_getElem? (i := 54) rfl) rfl
theorem wgv_X12_159 : GoodIn TB (wsV RX12 159 RX12 yX12_passesOnce (cw yX12_passesOnce cX12_passesOnce 7 none)) := goodIn_4 wtb_172 wtb_173 wtb_174 wtb_105 wgc_X12_passesOnce
theorem whv_X12_passesOnce : yX12_passesOnce.cls = RX12 ∧ yX12_passesOnce.cls ≠ "java/lang/invoke/MethodHandle" ∧ yX12_passesOnce.cls ≠ "java/lang/invoke/VarHandle" ∧ (parseMethodDescriptor yX12_passesOnce.desc).map (fun d => d.parameters.length) = some 1 := by decide +kernel
theorem wdX12_works_23 : decode cX12_works 23 = .ok (.aload_n 0, 1) := dq0 kk_42 (by decide +kernel)
theorem wdX12_works_24 : decode cX12_works 24 = .ok (.dup, 1) := dq0 kk_89 (by decide +kernel)
theorem wdX12_works_25 : decode cX12_works 25 = .ok (.getfield 156, 3) := dqV kk_180 (by decide +kernel)
theorem wtb_175 : Cond.fieldLink "ToneLinesModel" 156 "ToneLinesModel" "passMany" "I" ∈ TB := tbm (tc5 (List.mem_of_getElem? (i := 62) rfl)) rfl
theorem wdX12_works_28 : decode cX12_works 28 = .ok (.iconst 1, 1) := dq0 kk_4 (by decide +kernel)
theorem wdX12_works_29 : decode cX12_works 29 = .ok (.iadd, 1) := dq0 kk_96 (by decide +kernel)
theorem wdX12_works_30 : decode cX12_works 30 = .ok (.putfield 156, 3) := dqV kk_181 (by decide +kernel)
theorem wdX12_works_33 : decode cX12_works 33 = .ok (.iload_n 2, 1) := dq0 kk_28 (by decide +kernel)
theorem wdX12_works_34 : decode cX12_works 34 = .ok (.aload_n 0, 1) := dq0 kk_42 (by decide +kernel)
theorem wdX12_works_35 : decode cX12_works 35 = .ok (.getfield 66, 3) := dqV kk_180 (by decide +kernel)
theorem wdX12_works_38 : decode cX12_works 38 = .ok (.iadd, 1) := dq0 kk_96 (by decide +kernel)
theorem wdX12_works_39 : decode cX12_works 39 = .ok (.istore_n 2, 1) := dq0 kk_61 (by decide +kernel)
theorem wdX12_works_40 : decode cX12_works 40 = .ok (.aload_n 0, 1) := dq0 kk_42 (by decide +kernel)
theorem wdX12_works_41 : decode cX12_works 41 = .ok (.getfield 20, 3) := dqV kk_180 (by decide +kernel)
theorem wdX12_works_44 : decode cX12_works 44 = .ok (.bipush 8, 2) := dqS kk_16 (by decide +kernel)
theorem wdX12_works_46 : decode cX12_works 46 = .ok (.iload_n 1, 1) := dq0 kk_27 (by decide +kernel)
theorem wdX12_works_47 : decode cX12_works 47 = .ok (.imul, 1) := dq0 kk_104 (by decide +kernel)
theorem wdX12_works_48 : decode cX12_works 48 = .ok (.iconst 1, 1) := dq0 kk_4 (by decide +kernel)
theorem wdX12_works_49 : decode cX12_works 49 = .ok (.iadd, 1) := dq0 kk_96 (by decide +kernel)
theorem wdX12_works_50 : decode cX12_works 50 = .ok (.iaload, 1) := dq0 kk_46 (by decide +kernel)
theorem wdX12_works_51 : decode cX12_works 51 = .ok (.iconst 1, 1) := dq0 kk_4 (by decide +kernel)
theorem wdX12_works_52 : decode cX12_works 52 = .ok (.if_icmp .ne 23, 3) := dqT kk_160 (by decide +kernel)
theorem wdX12_works_75 : decode cX12_works 75 = .ok (.iconst 0, 1) := dq0 kk_3 (by decide +kernel)
theorem wdX12_works_76 : decode cX12_works 76 = .ok (.istore_n 3, 1) := dq0 kk_62 (by decide +kernel)
theorem wdX12_works_77 : decode cX12_works 77 = .ok (.goto (-68), 3) := dqT kk_167 (by decide +kernel)
theorem wdX12_works_55 : decode cX12_works 55 = .ok (.aload_n 0, 1) := dq0 kk_42 (by decide +kernel)
theorem wdX12_works_56 : decode cX12_works 56 = .ok (.getfield 66, 3) := dqV kk_180 (by decide +kernel)
theorem wdX12_works_59 : decode cX12_works 59 = .ok (.ifCond .le 16, 3) := dqT kk_158 (by decide +kernel)
theorem wdX12_works_62 : decode cX12_works 62 = .ok (.aload_n 0, 1) := dq0 kk_42 (by decide +kernel)
theorem wdX12_works_63 : decode cX12_works 63 = .ok (.getfield 156, 3) := dqV kk_180 (by decide +kernel)
theorem wdX12_works_66 : decode cX12_works 66 = .ok (.bipush 20, 2) := dqS kk_16 (by decide +kernel)
theorem wdX12_works_68 : decode cX12_works 68 = .ok (.if_icmp .ge 7, 3) := dqT kk_162 (by decide +kernel)
theorem wdX12_works_71 : decode cX12_works 71 = .ok (.iconst 1, 1) := dq0 kk_4 (by decide +kernel)
theorem wdX12_works_72 : decode cX12_works 72 = .ok (.goto 4, 3) := dqT kk_167 (by decide +kernel)
set_option maxRecDepth 4000 in
theorem lp_X12_works {p : Program} {l : Launch} {e : Env} {s : State} {m : MethodId} {args : Array Value} {below : List Frame} {meth : Method} {c : Code} {D : va_G} {B : Nat} {cy : Nat → ClassId} {H0 : Heap} {Q : State → Prop} {M : Mem} {R : Room} {q hv ed r : Nat} {o : Wo} {P : Nat → Int} (F : CallFix p m c cX12_works 4 s args TB RX12) (hR1 : 7 ≤ R.frames) (hR2 : 166 ≤ R.locals) (hr8 : r < 8) (hG : okG P) (kk : ∀ (pp : Nat) (cc : Nat) (mo : Nat) (Nm : Mem) (o1 : Wo) (z : Int) (H : Heap) (locs : List Loc) (ls : Array Slot), (RW Nm q hv ed o1 z) → (pfF P q hv ed 20 o = (o1, cc, pp)) → (FrQ9 Nm M) → (Nm.1 146 6 = zI (pp : Int)) → (cc ≤ 37680) → (pp ≤ 20) → Wd D B cy s H0 Nm H locs → lv_has ls 4 [(2, .int (zI (cc : Int)))] → W p l e R s m args below meth c H locs 0 0 Q (F0 m 80 ls [])) : ∀ (f : Nat) (pp : Nat) (cc : Nat) (mo : Nat) (Nm : Mem) (o1 : Wo) (z : Int), (pp ≤ 20) → (RW Nm q hv ed o1 z) → (pfI P q hv ed o (20 - pp) mo o1 cc pp) → (Nm.1 146 6 = zI (pp : Int)) → (isV Nm r P) → (FrQ9 Nm M) → (cc ≤ 1884 * pp) → (mo ≤ 1) → (mo = 1 → pp < 20) → (20 ≤ pp + f) → ∀ (H : Heap) (locs : List Loc) (ls : Array Slot), Wd D B cy s H0 Nm H locs → lv_has ls 4 [(3, .int (zI (mo : Int))), (2, .int (zI (cc : Int))), (0, .ref (B + 146)), (1, .int (zI (r : Int)))] → W p l e R s m args below meth c H locs 0 0 Q (F0 m 9 ls []) := by
  have hx := F.1
  have hb := F.2.1
  have hP := hG.1
  have hP1 := hP 1 (by decide)
  intro f
  induction f with
  | zero =>
    intro pp cc mo Nm o1 z i0 i1 i2 i3 i4 i5 i6 i7 i8 hf H locs ls w hl
    refine lv_iload_n hx hb wdX12_works_9 rfl (lv_at hl 0 rfl) ?_
    refine z_if_eq (tgt := 80) hx hb (by omega) wdX12_works_10 (by decide) (fun c1 => ?_) (fun c1 => False.elim (by omega))
    exact kk pp cc mo Nm o1 z _ _ ls i1 (pfI_e i2 (by omega)) i5 i3 (by omega) i0 w (lv_sub hl [1] rfl)
  | succ f ih =>
    intro pp cc mo Nm o1 z i0 i1 i2 i3 i4 i5 i6 i7 i8 hf H locs ls w hl
    refine lv_iload_n hx hb wdX12_works_9 rfl (lv_at hl 0 rfl) ?_
    refine z_if_eq (tgt := 80) hx hb (by omega) wdX12_works_10 (by decide) (fun c1 => ?_) (fun c1 => ?_)
    · exact kk pp cc mo Nm o1 z _ _ ls i1 (pfI_e i2 (by omega)) i5 i3 (by omega) i0 w (lv_sub hl [1] rfl)
    · refine lv_aload_n hx hb wdX12_works_13 rfl (lv_at hl 2 rfl) ?_
      refine lv_iconst (v := zI 0) hx hb wdX12_works_14 rfl ?_
      refine u_12_3 F w (a := 146) rfl wtb_125 wdX12_works_15 (fun H locs w => ?_)
      refine lv_aload_n hx hb wdX12_works_18 rfl (lv_at hl 2 rfl) ?_
      refine lv_iload_n hx hb wdX12_works_19 rfl (lv_at hl 3 rfl) ?_
      refine k_Vv F w (As := [.int (zI (r : Int))]) (rest := []) (a := 146) (kd_lt (a := 146) (show kd 146 = (12, 0, 0) from rfl) (by decide)) (sh_12 rfl _ _) rfl (r_once (RW.z (y := 0) i1) hr8 (isV.s146 i4) hG) wgv_X12_159 whv_X12_passesOnce ⟨(by omega), (by omega)⟩ hl.1 rfl (Nat.le_of_ble_eq_true rfl) ⟨Nat.zero_le _, Nat.zero_le _⟩ wdX12_works_20 (fun Ma2 H locs hp w => ?_)
      rcases hp with ⟨oT, dT, eT, hRT, hFT, hdT⟩
      replace hRT := hRT.e rfl (Int.zero_add _)
      refine lv_aload_n hx hb wdX12_works_23 rfl (lv_at hl 2 rfl) ?_
      refine lv_dup hx hb wdX12_works_24 rfl ?_
      refine f_12_6 F w (a := 146) rfl wtb_175 wdX12_works_25 ?_
      refine r_val (v := (zI (pp : Int))) (((hFT.2.1 6 (by decide)).trans ((st_ne (Or.inr (by decide))).trans i3))) ?_
      refine lv_iconst (v := zI 1) hx hb wdX12_works_28 rfl ?_
      refine z_iadd (z := (((pp + 1) : Nat) : Int)) hx hb wdX12_works_29 (by omega) ?_
      refine u_12_6 F w (a := 146) rfl wtb_175 wdX12_works_30 (fun H locs w => ?_)
      refine lv_iload_n hx hb wdX12_works_33 rfl (lv_at hl 1 rfl) ?_
      refine lv_aload_n hx hb wdX12_works_34 rfl (lv_at hl 2 rfl) ?_
      refine f_12_3 F w (a := 146) rfl wtb_125 wdX12_works_35 ?_
      refine r_val (v := (zI (dT : Int))) ((st_ne (Or.inr (by omega))).trans (hRT.2.2.2.2)) ?_
      refine z_iadd (z := (((cc + dT) : Nat) : Int)) hx hb wdX12_works_38 (by omega) ?_
      refine lv_istore_n (lv' := [(2, .int (zI (((cc + dT) : Nat) : Int))), (3, .int (zI (mo : Int))), (0, .ref (B + 146)), (1, .int (zI (r : Int)))]) hx hb wdX12_works_39 rfl hl (by decide) rfl (fun ls hl => ?_)
      refine lv_aload_n hx hb wdX12_works_40 rfl (lv_at hl 2 rfl) ?_
      refine f_12_4 F w (a := 146) rfl wtb_114 wdX12_works_41 ?_
      refine lv_bipush (v := zI 8) hx hb wdX12_works_44 (by decide) ?_
      refine lv_iload_n hx hb wdX12_works_46 rfl (lv_at hl 3 rfl) ?_
      refine z_imul (z := (((8 * r) : Nat) : Int)) hx hb wdX12_works_47 (by omega) ?_
      refine lv_iconst (v := zI 1) hx hb wdX12_works_48 rfl ?_
      refine z_iadd (z := ((((8 * r) + 1) : Nat) : Int)) hx hb wdX12_works_49 (by omega) ?_
      refine g_iald F w (a := 149) rfl (j := ((8 * r) + 1)) (ix_n (by omega)) (by omega) wdX12_works_50 ?_
      refine r_val (v := (zI (P 1))) ((st_ne (Or.inl (by omega))).trans (((isV.s146 i4).fr (hFT.1 149 (by decide) (by decide))) 1 (by decide))) ?_
      refine lv_iconst (v := zI 1) hx hb wdX12_works_51 rfl ?_
      refine z_icmp_ne (tgt := 75) hx hb (by omega) (by omega) wdX12_works_52 (by decide) (fun c3 => ?_) (fun c3 => ?_)
      · refine lv_iconst (v := zI 0) hx hb wdX12_works_75 rfl ?_
        refine lv_istore_n (lv' := [(3, .int (zI 0)), (2, .int (zI (((cc + dT) : Nat) : Int))), (0, .ref (B + 146)), (1, .int (zI (r : Int)))]) hx hb wdX12_works_76 rfl hl (by decide) rfl (fun ls hl => ?_)
        refine lv_goto (tgt := 9) hx hb wdX12_works_77 (by decide) ?_
        exact ih (pp + 1) (cc + dT) 0 (st Ma2 146 6 (zI (((pp + 1) : Nat) : Int))) oT (dT : Int) (by omega) (RW.c6 hRT) (by have h9 := pfI_l (f := 20 - (pp + 1)) (by rw [show 20 - (pp + 1) + 1 = 20 - pp by omega]; exact i2) (show mo = 1 by omega) eT (by omega); exact h9) st_at (isV.s146 ((isV.s146 i4).fr (hFT.1 149 (by decide) (by decide)))) (FrQ9.c6 (FrQ9.tr (FrQ9.c3 i5) (FrQ9.of hFT))) (by omega) (by omega) (by omega) (by omega) _ _ ls w (lv_sub hl [0, 1, 2, 3] rfl)
      · refine lv_aload_n hx hb wdX12_works_55 rfl (lv_at hl 2 rfl) ?_
        refine f_12_3 F w (a := 146) rfl wtb_125 wdX12_works_56 ?_
        refine r_val (v := (zI (dT : Int))) ((st_ne (Or.inr (by omega))).trans (hRT.2.2.2.2)) ?_
        refine z_if_le (tgt := 75) hx hb (by omega) wdX12_works_59 (by decide) (fun c4 => ?_) (fun c4 => ?_)
        · refine lv_iconst (v := zI 0) hx hb wdX12_works_75 rfl ?_
          refine lv_istore_n (lv' := [(3, .int (zI 0)), (2, .int (zI (((cc + dT) : Nat) : Int))), (0, .ref (B + 146)), (1, .int (zI (r : Int)))]) hx hb wdX12_works_76 rfl hl (by decide) rfl (fun ls hl => ?_)
          refine lv_goto (tgt := 9) hx hb wdX12_works_77 (by decide) ?_
          exact ih (pp + 1) (cc + dT) 0 (st Ma2 146 6 (zI (((pp + 1) : Nat) : Int))) oT (dT : Int) (by omega) (RW.c6 hRT) (by have h9 := pfI_l (f := 20 - (pp + 1)) (by rw [show 20 - (pp + 1) + 1 = 20 - pp by omega]; exact i2) (show mo = 1 by omega) eT (by omega); exact h9) st_at (isV.s146 ((isV.s146 i4).fr (hFT.1 149 (by decide) (by decide)))) (FrQ9.c6 (FrQ9.tr (FrQ9.c3 i5) (FrQ9.of hFT))) (by omega) (by omega) (by omega) (by omega) _ _ ls w (lv_sub hl [0, 1, 2, 3] rfl)
        · refine lv_aload_n hx hb wdX12_works_62 rfl (lv_at hl 2 rfl) ?_
          refine f_12_6 F w (a := 146) rfl wtb_175 wdX12_works_63 ?_
          refine r_val (v := (zI (((pp + 1) : Nat) : Int))) (st_at) ?_
          refine lv_bipush (v := zI 20) hx hb wdX12_works_66 (by decide) ?_
          refine z_icmp_ge (tgt := 75) hx hb (by omega) (by omega) wdX12_works_68 (by decide) (fun c5 => ?_) (fun c5 => ?_)
          · refine lv_iconst (v := zI 0) hx hb wdX12_works_75 rfl ?_
            refine lv_istore_n (lv' := [(3, .int (zI 0)), (2, .int (zI (((cc + dT) : Nat) : Int))), (0, .ref (B + 146)), (1, .int (zI (r : Int)))]) hx hb wdX12_works_76 rfl hl (by decide) rfl (fun ls hl => ?_)
            refine lv_goto (tgt := 9) hx hb wdX12_works_77 (by decide) ?_
            exact ih (pp + 1) (cc + dT) 0 (st Ma2 146 6 (zI (((pp + 1) : Nat) : Int))) oT (dT : Int) (by omega) (RW.c6 hRT) (by have h9 := pfI_l (f := 20 - (pp + 1)) (by rw [show 20 - (pp + 1) + 1 = 20 - pp by omega]; exact i2) (show mo = 1 by omega) eT (by omega); exact h9) st_at (isV.s146 ((isV.s146 i4).fr (hFT.1 149 (by decide) (by decide)))) (FrQ9.c6 (FrQ9.tr (FrQ9.c3 i5) (FrQ9.of hFT))) (by omega) (by omega) (by omega) (by omega) _ _ ls w (lv_sub hl [0, 1, 2, 3] rfl)
          · refine lv_iconst (v := zI 1) hx hb wdX12_works_71 rfl ?_
            refine lv_goto (tgt := 76) hx hb wdX12_works_72 (by decide) ?_
            refine lv_istore_n (lv' := [(3, .int (zI 1)), (2, .int (zI (((cc + dT) : Nat) : Int))), (0, .ref (B + 146)), (1, .int (zI (r : Int)))]) hx hb wdX12_works_76 rfl hl (by decide) rfl (fun ls hl => ?_)
            refine lv_goto (tgt := 9) hx hb wdX12_works_77 (by decide) ?_
            exact ih (pp + 1) (cc + dT) 1 (st Ma2 146 6 (zI (((pp + 1) : Nat) : Int))) oT (dT : Int) (by omega) (RW.c6 hRT) (by have h9 := pfI_y (f := 20 - (pp + 1)) (by rw [show 20 - (pp + 1) + 1 = 20 - pp by omega]; exact i2) (show mo = 1 by omega) eT (by omega) (by omega); exact h9) st_at (isV.s146 ((isV.s146 i4).fr (hFT.1 149 (by decide) (by decide)))) (FrQ9.c6 (FrQ9.tr (FrQ9.c3 i5) (FrQ9.of hFT))) (by omega) (by omega) (by omega) (by omega) _ _ ls w (lv_sub hl [0, 1, 2, 3] rfl)
theorem wdX12_works_0 : decode cX12_works 0 = .ok (.iconst 0, 1) := dq0 kk_3 (by decide +kernel)
theorem wdX12_works_1 : decode cX12_works 1 = .ok (.istore_n 2, 1) := dq0 kk_61 (by decide +kernel)
theorem wdX12_works_2 : decode cX12_works 2 = .ok (.aload_n 0, 1) := dq0 kk_42 (by decide +kernel)
theorem wdX12_works_3 : decode cX12_works 3 = .ok (.iconst 0, 1) := dq0 kk_3 (by decide +kernel)
theorem wdX12_works_4 : decode cX12_works 4 = .ok (.putfield 156, 3) := dqV kk_181 (by decide +kernel)
theorem wdX12_works_7 : decode cX12_works 7 = .ok (.iconst 1, 1) := dq0 kk_4 (by decide +kernel)
theorem wdX12_works_8 : decode cX12_works 8 = .ok (.istore_n 3, 1) := dq0 kk_62 (by decide +kernel)
theorem wdX12_works_80 : decode cX12_works 80 = .ok (.iload_n 2, 1) := dq0 kk_28 (by decide +kernel)
theorem wdX12_works_81 : decode cX12_works 81 = .ok (.ireturn, 1) := dq0 kk_172 (by decide +kernel)
set_option maxRecDepth 4000 in
theorem s_X12_works {l : Launch} {D : va_G} {B : Nat} {cy : Nat → ClassId} {M : Mem} {q hv ed : Nat} {o : Wo} {z9 : Int} (hR : RW M q hv ed o z9) {r : Nat} {P : Nat → Int} (hr8 : r < 8) (hV : isV M r P) (hG : okG P) : Ci l D B cy yX12_works cX12_works 4 (some .int) 7 166 [.ref (B + 146), .int (zI (r : Int))] M (fun r M1 => WQ q hv ed (pfF P q hv ed 20 o) M r M1) := by
  refine s_any (by decide) (Nat.le_of_ble_eq_true rfl) ?_
  intro p e s m below meth c ls F hr hlocks w hl
  have F : CallFix p m c cX12_works 4 s _ TB RX12 := F
  have hx := F.1
  have hb := F.2.1
  have hl : lv_has ls 4 [(0, .ref (B + 146)), (1, .int (zI (r : Int)))] := hl
  have hP := hG.1
  have hP1 := hP 1 (by decide)
  refine lv_iconst (v := zI 0) hx hb wdX12_works_0 rfl ?_
  refine lv_istore_n (lv' := [(2, .int (zI 0)), (0, .ref (B + 146)), (1, .int (zI (r : Int)))]) hx hb wdX12_works_1 rfl hl (by decide) rfl (fun ls hl => ?_)
  refine lv_aload_n hx hb wdX12_works_2 rfl (lv_at hl 1 rfl) ?_
  refine lv_iconst (v := zI 0) hx hb wdX12_works_3 rfl ?_
  refine u_12_6 F w (a := 146) rfl wtb_175 wdX12_works_4 (fun H locs w => ?_)
  refine lv_iconst (v := zI 1) hx hb wdX12_works_7 rfl ?_
  refine lv_istore_n (lv' := [(3, .int (zI 1)), (2, .int (zI 0)), (0, .ref (B + 146)), (1, .int (zI (r : Int)))]) hx hb wdX12_works_8 rfl hl (by decide) rfl (fun ls hl => ?_)
  refine lp_X12_works  F (Nat.le_of_ble_eq_true rfl) (Nat.le_of_ble_eq_true rfl) hr8 hG (fun pp cc mo Nm o1 z H locs ls x0 x1 x2 x3 x4 x5 w hl => ?_) 20 0 0 1 (st M 146 6 (zI 0)) o z9 (by omega) (RW.c6 hR) pfI_0 st_at (isV.s146 hV) (FrQ9.c6 FrQ9.rf) (by omega) (by omega) (by omega) (by omega) _ _ ls w (lv_sub hl [0, 1, 2, 3] rfl)
  refine lv_iload_n hx hb wdX12_works_80 rfl (lv_at hl 0 rfl) ?_
  exact e_i F w hr hlocks ⟨o1, cc, pp, x1, rfl, ⟨z, x0⟩, x2, x3, x4, x5⟩ wdX12_works_81
theorem wdX12_derives_15 : decode cX12_derives 15 = .ok (.iload_n 3, 1) := dq0 kk_29 (by decide +kernel)
theorem wdX12_derives_16 : decode cX12_derives 16 = .ok (.iload_n 1, 1) := dq0 kk_27 (by decide +kernel)
theorem wdX12_derives_17 : decode cX12_derives 17 = .ok (.if_icmp .ge 17, 3) := dqT kk_162 (by decide +kernel)
theorem wdX12_derives_20 : decode cX12_derives 20 = .ok (.iload_n 2, 1) := dq0 kk_28 (by decide +kernel)
theorem wdX12_derives_21 : decode cX12_derives 21 = .ok (.aload_n 0, 1) := dq0 kk_42 (by decide +kernel)
theorem wdX12_derives_22 : decode cX12_derives 22 = .ok (.iload_n 3, 1) := dq0 kk_29 (by decide +kernel)
theorem wdX12_derives_23 : decode cX12_derives 23 = .ok (.invokevirtual 166, 3) := dqV kk_182 (by decide +kernel)
theorem wtk_X12_works : Cond.code yX12_works cX12_works 4 (some .int) ∈ TB := tbm (tc6 (List.mem_of_getElem? (i := 56) rfl)) rfl
theorem wgc_X12_works : GoodIn TB (cw yX12_works cX12_works 4 (some .int)) := goodIn_c2 wtk_X12_works
theorem wtb_176 : Cond.methodLink "ToneLinesModel" 166 yX12_works ∈ TB := tbm (tc6 (List.mem_of_getElem? (i := 53) rfl)) rfl
theorem wtb_177 : Cond.instanceMethod yX12_works ∈ TB := tbm (tc6 (List.mem_of_getElem? (i := 55) rfl)) rfl
theorem wtb_178 : Cond.selects "ToneLinesModel" yX12_works yX12_works ∈ TB := tbp (List.mem_of_getElem? (i := 53) rfl) rfl
theorem wgv_X12_166 : GoodIn TB (wsV RX12 166 RX12 yX12_works (cw yX12_works cX12_works 4 (some .int))) := goodIn_4 wtb_176 wtb_177 wtb_178 wtb_105 wgc_X12_works
theorem whv_X12_works : yX12_works.cls = RX12 ∧ yX12_works.cls ≠ "java/lang/invoke/MethodHandle" ∧ yX12_works.cls ≠ "java/lang/invoke/VarHandle" ∧ (parseMethodDescriptor yX12_works.desc).map (fun d => d.parameters.length) = some 1 := by decide +kernel
theorem wdX12_derives_26 : decode cX12_derives 26 = .ok (.iadd, 1) := dq0 kk_96 (by decide +kernel)
theorem wdX12_derives_27 : decode cX12_derives 27 = .ok (.istore_n 2, 1) := dq0 kk_61 (by decide +kernel)
theorem wdX12_derives_28 : decode cX12_derives 28 = .ok (.iinc 3 1, 3) := dqI kk_132 (by decide +kernel)
theorem wdX12_derives_31 : decode cX12_derives 31 = .ok (.goto (-16), 3) := dqT kk_167 (by decide +kernel)
set_option maxRecDepth 4000 in
theorem lp_X12_derives {p : Program} {l : Launch} {e : Env} {s : State} {m : MethodId} {args : Array Value} {below : List Frame} {meth : Method} {c : Code} {D : va_G} {B : Nat} {cy : Nat → ClassId} {H0 : Heap} {Q : State → Prop} {M : Mem} {R : Room} {q hv ed mr n9 : Nat} {o : Wo} {Ps : Nat → Nat → Int} (F : CallFix p m c cX12_derives 4 s args TB RX12) (hR1 : 8 ≤ R.frames) (hR2 : 189 ≤ R.locals) (hn : n9 ≤ mr) (hm8 : mr ≤ 8) (kk : ∀ (j : Nat) (cc : Nat) (Nm : Mem) (o1 : Wo) (z : Int) (H : Heap) (locs : List Loc) (ls : Array Slot), (RW Nm q hv ed o1 z) → (dvF Ps q hv ed n9 o = (o1, cc)) → (FrQ9 Nm M) → (cc ≤ 301440) → Wd D B cy s H0 Nm H locs → lv_has ls 4 [(2, .int (zI (cc : Int)))] → W p l e R s m args below meth c H locs 0 0 Q (F0 m 34 ls [])) : ∀ (f : Nat) (j : Nat) (cc : Nat) (Nm : Mem) (o1 : Wo) (z : Int), (j ≤ n9) → (RW Nm q hv ed o1 z) → (dvF Ps q hv ed j o = (o1, cc)) → (cc ≤ 37680 * j) → (GV Nm Ps mr) → (FrQ9 Nm M) → (n9 ≤ j + f) → ∀ (H : Heap) (locs : List Loc) (ls : Array Slot), Wd D B cy s H0 Nm H locs → lv_has ls 4 [(3, .int (zI (j : Int))), (2, .int (zI (cc : Int))), (0, .ref (B + 146)), (1, .int (zI (n9 : Int)))] → W p l e R s m args below meth c H locs 0 0 Q (F0 m 15 ls []) := by
  have hx := F.1
  have hb := F.2.1
  intro f
  induction f with
  | zero =>
    intro j cc Nm o1 z i0 i1 i2 i3 i4 i5 hf H locs ls w hl
    refine lv_iload_n hx hb wdX12_derives_15 rfl (lv_at hl 0 rfl) ?_
    refine lv_iload_n hx hb wdX12_derives_16 rfl (lv_at hl 3 rfl) ?_
    refine z_icmp_ge (tgt := 34) hx hb (by omega) (by omega) wdX12_derives_17 (by decide) (fun c1 => ?_) (fun c1 => False.elim (by omega))
    exact kk j cc Nm o1 z _ _ ls i1 (by rw [show n9 = j by omega]; exact i2) i5 (by omega) w (lv_sub hl [1] rfl)
  | succ f ih =>
    intro j cc Nm o1 z i0 i1 i2 i3 i4 i5 hf H locs ls w hl
    refine lv_iload_n hx hb wdX12_derives_15 rfl (lv_at hl 0 rfl) ?_
    refine lv_iload_n hx hb wdX12_derives_16 rfl (lv_at hl 3 rfl) ?_
    refine z_icmp_ge (tgt := 34) hx hb (by omega) (by omega) wdX12_derives_17 (by decide) (fun c1 => ?_) (fun c1 => ?_)
    · exact kk j cc Nm o1 z _ _ ls i1 (by rw [show n9 = j by omega]; exact i2) i5 (by omega) w (lv_sub hl [1] rfl)
    · refine lv_iload_n hx hb wdX12_derives_20 rfl (lv_at hl 1 rfl) ?_
      refine lv_aload_n hx hb wdX12_derives_21 rfl (lv_at hl 2 rfl) ?_
      refine lv_iload_n hx hb wdX12_derives_22 rfl (lv_at hl 0 rfl) ?_
      refine k_Vi F w (As := [.int (zI (j : Int))]) (rest := [.int (zI (cc : Int))]) (a := 146) (kd_lt (a := 146) (show kd 146 = (12, 0, 0) from rfl) (by decide)) (sh_12 rfl _ _) rfl (s_X12_works i1 (r := j) (by omega) (i4.2 j (by omega)).1 (i4.2 j (by omega)).2) wgv_X12_166 whv_X12_works ⟨(by omega), (by omega)⟩ hl.1 rfl (Nat.le_of_ble_eq_true rfl) ⟨Nat.zero_le _, Nat.zero_le _⟩ wdX12_derives_23 (fun r Ma2 H locs hp w => ?_)
      rcases hp with ⟨oT, dT, pT, eT, rfl, ⟨zT, hRT⟩, hFT, hpT, hdT, _⟩
      refine z_iadd (z := (((cc + dT) : Nat) : Int)) hx hb wdX12_derives_26 (by omega) ?_
      refine lv_istore_n (lv' := [(2, .int (zI (((cc + dT) : Nat) : Int))), (3, .int (zI (j : Int))), (0, .ref (B + 146)), (1, .int (zI (n9 : Int)))]) hx hb wdX12_derives_27 rfl hl (by decide) rfl (fun ls hl => ?_)
      refine z_iinc (v := (((j + 1) : Nat) : Int)) (lv' := [(3, .int (zI (((j + 1) : Nat) : Int))), (2, .int (zI (((cc + dT) : Nat) : Int))), (0, .ref (B + 146)), (1, .int (zI (n9 : Int)))]) hx hb wdX12_derives_28 hl (k := 1) rfl (by omega) (by decide) rfl (fun ls hl => ?_)
      refine lv_goto (tgt := 15) hx hb wdX12_derives_31 (by decide) ?_
      exact ih (j + 1) (cc + dT) Ma2 oT zT (by omega) hRT (dvF_s i2 eT) (by omega) (i4.fr (hFT.1 149 (by decide) (by decide))) (FrQ9.tr i5 hFT) (by omega) _ _ ls w (lv_sub hl [0, 1, 2, 3] rfl)
theorem wdX12_derives_0 : decode cX12_derives 0 = .ok (.aload_n 0, 1) := dq0 kk_42 (by decide +kernel)
theorem wdX12_derives_1 : decode cX12_derives 1 = .ok (.getfield 17, 3) := dqV kk_180 (by decide +kernel)
theorem wdX12_derives_4 : decode cX12_derives 4 = .ok (.aload_n 0, 1) := dq0 kk_42 (by decide +kernel)
theorem wdX12_derives_5 : decode cX12_derives 5 = .ok (.getfield 13, 3) := dqV kk_180 (by decide +kernel)
theorem wtb_179 : Cond.fieldLink "ToneLinesModel" 13 "ToneLinesModel" "told" "[I" ∈ TB := tbm (tc5 (List.mem_of_getElem? (i := 57) rfl)) rfl
theorem wdX12_derives_8 : decode cX12_derives 8 = .ok (.invokestatic 162, 3) := dqV kk_184 (by decide +kernel)
theorem wtk_X12_copy : Cond.code yX12_copy cX12_copy 3 none ∈ TB := tbm (tc5 (List.mem_of_getElem? (i := 197) rfl)) rfl
theorem wgc_X12_copy : GoodIn TB (cw yX12_copy cX12_copy 3 none) := goodIn_c2 wtk_X12_copy
theorem wtb_180 : Cond.methodLink "ToneLinesModel" 162 yX12_copy ∈ TB := tbm (tc5 (List.mem_of_getElem? (i := 195) rfl)) rfl
theorem wtb_181 : Cond.static yX12_copy ∈ TB := tbm (tc5 (List.mem_of_getElem? (i := 196) rfl)) rfl
theorem wgs_X12_162 : GoodIn TB (va_wsS RX12 162 yX12_copy (cw yX12_copy cX12_copy 3 none)) := goodIn_3 wtb_180 wtb_181 wtb_105 wgc_X12_copy
theorem whs_X12_copy : yX12_copy.cls ≠ "java/lang/invoke/MethodHandle" ∧ yX12_copy.cls ≠ "java/lang/invoke/VarHandle" ∧ (parseMethodDescriptor yX12_copy.desc).map (fun d => d.parameters.length) = some 2 := by decide +kernel
theorem wdX12_derives_11 : decode cX12_derives 11 = .ok (.iconst 0, 1) := dq0 kk_3 (by decide +kernel)
theorem wdX12_derives_12 : decode cX12_derives 12 = .ok (.istore_n 2, 1) := dq0 kk_61 (by decide +kernel)
theorem wdX12_derives_13 : decode cX12_derives 13 = .ok (.iconst 0, 1) := dq0 kk_3 (by decide +kernel)
theorem wdX12_derives_14 : decode cX12_derives 14 = .ok (.istore_n 3, 1) := dq0 kk_62 (by decide +kernel)
theorem wdX12_derives_34 : decode cX12_derives 34 = .ok (.iload_n 2, 1) := dq0 kk_28 (by decide +kernel)
theorem wdX12_derives_35 : decode cX12_derives 35 = .ok (.ireturn, 1) := dq0 kk_172 (by decide +kernel)
set_option maxRecDepth 4000 in
theorem s_X12_derives {l : Launch} {D : va_G} {B : Nat} {cy : Nat → ClassId} {M : Mem} {q hv ed mr n9 : Nat} {o : Wo} {Ps : Nat → Nat → Int} (hT : TW M q hv ed o) (hV : GV M Ps mr) (hn : n9 ≤ mr) : Ci l D B cy yX12_derives cX12_derives 4 (some .int) 8 189 [.ref (B + 146), .int (zI (n9 : Int))] M (fun r M1 => ∃ o1 cc, dvF Ps q hv ed n9 o = (o1, cc) ∧ r = zI ((cc : Nat) : Int) ∧ (∃ z, RW M1 q hv ed o1 z) ∧ FrQ9 M1 M ∧ cc ≤ 301440) := by
  refine s_any (by decide) (Nat.le_of_ble_eq_true rfl) ?_
  intro p e s m below meth c ls F hr hlocks w hl
  have F : CallFix p m c cX12_derives 4 s _ TB RX12 := F
  have hx := F.1
  have hb := F.2.1
  have hl : lv_has ls 4 [(0, .ref (B + 146)), (1, .int (zI (n9 : Int)))] := hl
  have hm8 := hV.1
  refine lv_aload_n hx hb wdX12_derives_0 rfl (lv_at hl 0 rfl) ?_
  refine f_12_2 F w (a := 146) rfl wtb_102 wdX12_derives_1 ?_
  refine lv_aload_n hx hb wdX12_derives_4 rfl (lv_at hl 0 rfl) ?_
  refine f_12_1 F w (a := 146) rfl wtb_179 wdX12_derives_5 ?_
  refine k_Sv F w (As := [.ref (B + 148), .ref (B + 147)]) (rest := []) (s_X12_copy (a := 148) (b := 147) rfl rfl (by decide) hT.1 hT.wf) wgs_X12_162 whs_X12_copy ⟨(Nat.le_of_ble_eq_true rfl), (Nat.le_of_ble_eq_true rfl)⟩ hl.1 rfl (Nat.le_of_ble_eq_true rfl) ⟨Nat.zero_le _, Nat.zero_le _⟩ wdX12_derives_8 (fun Ma1 H locs hp w => ?_)
  rcases hp with ⟨hW2, hF2⟩
  obtain ⟨z9, hR⟩ := RW.of hW2 hT
  refine lv_iconst (v := zI 0) hx hb wdX12_derives_11 rfl ?_
  refine lv_istore_n (lv' := [(2, .int (zI 0)), (0, .ref (B + 146)), (1, .int (zI (n9 : Int)))]) hx hb wdX12_derives_12 rfl hl (by decide) rfl (fun ls hl => ?_)
  refine lv_iconst (v := zI 0) hx hb wdX12_derives_13 rfl ?_
  refine lv_istore_n (lv' := [(3, .int (zI 0)), (2, .int (zI 0)), (0, .ref (B + 146)), (1, .int (zI (n9 : Int)))]) hx hb wdX12_derives_14 rfl hl (by decide) rfl (fun ls hl => ?_)
  refine lp_X12_derives  F (Nat.le_of_ble_eq_true rfl) (Nat.le_of_ble_eq_true rfl) hn hm8 (fun j cc Nm o1 z H locs ls x0 x1 x2 x3 w hl => ?_) n9 0 0 Ma1 o z9 (by omega) hR rfl (by omega) (hV.fr (hF2.1 149 (by decide))) (FrQ9.of1 hF2) (by omega) _ _ ls w (lv_sub hl [0, 1, 2, 3] rfl)
  refine lv_iload_n hx hb wdX12_derives_34 rfl (lv_at hl 0 rfl) ?_
  exact e_i F w hr hlocks ⟨o1, cc, x1, rfl, ⟨z, x0⟩, x2, x3⟩ wdX12_derives_35
