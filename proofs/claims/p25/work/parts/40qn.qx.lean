-- rules exchanged, rules left out
noncomputable def fnF (Ps : Nat → Nat → Int) (q hv ed : Nat) : Nat → Nat → Wo → Wo
  | 0, _, o => o
  | d + 1, j, o => fnF Ps q hv ed d (j + 1) (pfF (Ps j) q hv ed 20 o).1
theorem fnF_s {Ps : Nat → Nat → Int} {q hv ed m j : Nat} {o o2 : Wo} {c : Nat × Nat} (hj : j < m) (e : pfF (Ps j) q hv ed 20 o = (o2, c)) : fnF Ps q hv ed (m - j) j o = fnF Ps q hv ed (m - (j + 1)) (j + 1) o2 := by
  rw [show m - j = (m - (j + 1)) + 1 by omega, fnF, e]
theorem fnF_z {Ps : Nat → Nat → Int} {q hv ed m j : Nat} {o : Wo} (hj : m ≤ j) : fnF Ps q hv ed (m - j) j o = o := by
  rw [show m - j = 0 by omega]; rfl
theorem fnF_l {Ps : Nat → Nat → Int} {m q hv ed hv2 ed2 : Nat} (hG : ∀ j, j < m → okG (Ps j)) (h1 : lkB q hv hv2) (h2 : lkB q ed ed2) : ∀ (d j : Nat) (o : Wo), j + d ≤ m → okW q o → fnF Ps q hv ed d j o = fnF Ps q hv2 ed2 d j o ∧ okW q (fnF Ps q hv ed d j o)
  | 0, _, _, _, hk => ⟨rfl, hk⟩
  | d + 1, j, o, hj, hk => by
    have e := pfF_l (hG j (by omega)) h1 h2 20 o hk
    rw [fnF, fnF, ← e.1]
    exact fnF_l hG h1 h2 d (j + 1) _ (by omega) e.2
theorem nc_fnF {Ps : Nat → Nat → Int} {m q hv ed : Nat} (hG : ∀ j, j < m → okG (Ps j)) : ∀ (d j : Nat) (o : Wo), j + d ≤ m → ncW o → ncW (fnF Ps q hv ed d j o)
  | 0, _, _, _, h => h
  | d + 1, j, o, hj, h => by
    rw [fnF]
    exact nc_fnF hG d (j + 1) _ (by omega) (nc_pfF (hG j (by omega)) 20 _ h)
/-- rules done in another order, or one left out -/
noncomputable def swW (Ps : Nat → Nat → Int) (q hv ed : Nat) (f : Nat → Nat) : Nat → Wo → Wo
  | 0, o => o
  | k + 1, o => (pfF (Ps (f k)) q hv ed 20 (swW Ps q hv ed f k o)).1
def exq (r k : Nat) : Nat := if k = r then r + 1 else if k = r + 1 then r else k
theorem exq_0 {r k : Nat} (h : k = r) : exq r k = r + 1 := by unfold exq; rw [if_pos h]
theorem exq_1 {r k : Nat} (h : k = r + 1) : exq r k = r := by unfold exq; rw [if_neg (by omega), if_pos h]
theorem exq_n {r k : Nat} (h : k ≠ r) (h1 : k ≠ r + 1) : exq r k = k := by unfold exq; rw [if_neg h, if_neg h1]
theorem sw_sg {Ps : Nat → Nat → Int} {x : Fw} {f : Nat → Nat} : ∀ k, (∀ j, j < k → f j = j) → swW Ps x.1 x.2.1 x.2.2.1 f k x.2.2.2 = sg9 Ps x k
  | 0, _ => rfl
  | k + 1, h => by
    rw [swW, sw_sg k (fun j hj => h j (by omega)), h k (Nat.lt_succ_self k)]
    rfl
theorem sw_fn {Ps : Nat → Nat → Int} {q hv ed : Nat} {f : Nat → Nat} {o : Wo} : ∀ (d k : Nat), (∀ j, k ≤ j → j < k + d → f j = j) → swW Ps q hv ed f (k + d) o = fnF Ps q hv ed d k (swW Ps q hv ed f k o)
  | 0, _, _ => rfl
  | d + 1, k, h => by
    rw [show k + (d + 1) = (k + 1) + d by omega, sw_fn d (k + 1) (fun j h1 h2 => h j (by omega) (by omega)), fnF, swW, h k (Nat.le_refl k) (by omega)]
/-- the word that comes with two rules exchanged -/
noncomputable def exW (Ps : Nat → Nat → Int) (m r : Nat) (x : Fw) : Wo := fnF Ps x.1 x.2.1 x.2.2.1 (m - (r + 2)) (r + 2) (pfF (Ps r) x.1 x.2.1 x.2.2.1 20 (pfF (Ps (r + 1)) x.1 x.2.1 x.2.2.1 20 (sg9 Ps x r)).1).1
theorem ex_sw {Ps : Nat → Nat → Int} {m r : Nat} {x : Fw} (h : r + 1 < m) : swW Ps x.1 x.2.1 x.2.2.1 (exq r) m x.2.2.2 = exW Ps m r x := by
  have h1 := sw_fn (Ps := Ps) (q := x.1) (hv := x.2.1) (ed := x.2.2.1) (f := exq r) (o := x.2.2.2) (m - (r + 2)) (r + 2) (fun j a b => exq_n (by omega) (by omega))
  rw [show r + 2 + (m - (r + 2)) = m by omega] at h1
  rw [h1, swW, swW, sw_sg r (fun j hj => exq_n (by omega) (by omega)), exq_0 rfl, exq_1 rfl]
  rfl
noncomputable def yn (p : Prop) : Nat := @ite Nat p (Classical.propDecidable p) 1 0
theorem yn_1 {p : Prop} (h : p) : yn p = 1 := by unfold yn; exact @if_pos _ (Classical.propDecidable p) h _ _ _
theorem yn_0 {p : Prop} (h : ¬ p) : yn p = 0 := by unfold yn; exact @if_neg _ (Classical.propDecidable p) h _ _ _
noncomputable def exA9 (Ps : Nat → Nat → Int) (m : Nat) (r : Int) (x : Fw) : Int := if 0 ≤ r ∧ r + 1 < (m : Int) then ((yn (¬ rdE x.1 (exW Ps m r.toNat x) (sg9 Ps x m)) : Nat) : Int) else -1
theorem exA_n {Ps : Nat → Nat → Int} {m : Nat} {r : Int} {x : Fw} (h : ¬ (0 ≤ r ∧ r + 1 < (m : Int))) : exA9 Ps m r x = -1 := by unfold exA9; rw [if_neg h]
theorem exA_y {Ps : Nat → Nat → Int} {m rn : Nat} {x : Fw} (h : rn + 1 < m) : exA9 Ps m (rn : Int) x = ((yn (¬ rdE x.1 (exW Ps m rn x) (sg9 Ps x m)) : Nat) : Int) := by unfold exA9; rw [if_pos (by omega), Int.toNat_natCast]
theorem exW_l {Ps : Nat → Nat → Int} {m r q hv ed hv2 ed2 : Nat} {o : Wo} (hG : ∀ j, j < m → okG (Ps j)) (hk : okW q o) (h1 : lkB q hv hv2) (h2 : lkB q ed ed2) (hr : r + 1 < m) : exW Ps m r (q, hv, ed, o) = exW Ps m r (q, hv2, ed2, o) ∧ okW q (exW Ps m r (q, hv, ed, o)) := by
  have e0 := sg9_l (n := r) hG hk h1 h2 (by omega)
  have hok := (dvF_l h1 h2 hk r (fun j hj => hG j (by omega))).2
  have e1 := pfF_l (hG (r + 1) hr) h1 h2 20 (sg9 Ps (q, hv, ed, o) r) hok
  have e2 := pfF_l (hG r (by omega)) h1 h2 20 _ e1.2
  have e3 := fnF_l hG h1 h2 (m - (r + 2)) (r + 2) _ (by omega) e2.2
  refine ⟨?_, e3.2⟩
  show fnF Ps q hv ed (m - (r + 2)) (r + 2) (pfF (Ps r) q hv ed 20 (pfF (Ps (r + 1)) q hv ed 20 (sg9 Ps (q, hv, ed, o) r)).1).1 = fnF Ps q hv2 ed2 (m - (r + 2)) (r + 2) (pfF (Ps r) q hv2 ed2 20 (pfF (Ps (r + 1)) q hv2 ed2 20 (sg9 Ps (q, hv2, ed2, o) r)).1).1
  rw [e3.1, e2.1, e1.1, e0.1]
theorem al_exch {Ps : Nat → Nat → Int} {m q hv ed hv2 ed2 : Nat} {o : Wo} {r : Int} (hG : ∀ j, j < m → okG (Ps j)) (hk : okW q o) (h1 : lkB q hv hv2) (h2 : lkB q ed ed2) : exA9 Ps m r (q, hv, ed, o) = exA9 Ps m r (q, hv2, ed2, o) := by
  by_cases h : 0 ≤ r ∧ r + 1 < (m : Int)
  · unfold exA9
    rw [if_pos h, if_pos h, (exW_l hG hk h1 h2 (show r.toNat + 1 < m by omega)).1, (sg9_l (n := m) hG hk h1 h2 (Nat.le_refl m)).1]
  · rw [exA_n h, exA_n h]
theorem CS.d4 {M M1 : Mem} {Ps : Nat → Nat → Int} {m rd k : Nat} {x : Fw} {Hs : Nat → Fw} (h : CS M Ps m x rd Hs k) (hF : Fr4 M1 M 143) : CS M1 Ps m x rd Hs k := h.fr (hF.1 22 (by decide) (by decide) (by decide) (by decide)) (fun b a1 a2 => hF.1 b (by omega) (by omega) (by omega) (by omega))
theorem CW.fs {M M1 : Mem} {q hv ed : Nat} {o : Wo} (h : CW M 143 q hv ed o) (hF : FS M1 M) : CW M1 143 q hv ed o := h.fr (hF.1 _ (by decide)) (hF.1 _ (by decide)) (hF.1 _ (by decide))
theorem isDu.fr {M M1 : Mem} {q : Nat} {o : Wo} (h : isDu M q o) (e : M1.1 157 = M.1 157) : isDu M1 q o := fun s hs => by rw [e]; exact h s hs
theorem wdX0_finish_6 : decode cX0_finish 6 = .ok (.iload_n 3, 1) := dX0_finish_6
theorem wdX0_finish_7 : decode cX0_finish 7 = .ok (.aload_n 0, 1) := dX0_finish_7
theorem wdX0_finish_8 : decode cX0_finish 8 = .ok (.getfield 24, 3) := dX0_finish_8
theorem wdX0_finish_11 : decode cX0_finish 11 = .ok (.if_icmp .ge 24, 3) := dX0_finish_11
theorem wdX0_finish_14 : decode cX0_finish 14 = .ok (.aload_n 0, 1) := dX0_finish_14
theorem wdX0_finish_15 : decode cX0_finish 15 = .ok (.getfield 12, 3) := dX0_finish_15
theorem wdX0_finish_18 : decode cX0_finish 18 = .ok (.aload_n 0, 1) := dX0_finish_18
theorem wdX0_finish_19 : decode cX0_finish 19 = .ok (.getfield 20, 3) := dX0_finish_19
theorem wdX0_finish_22 : decode cX0_finish 22 = .ok (.iload_n 3, 1) := dX0_finish_22
theorem wdX0_finish_23 : decode cX0_finish 23 = .ok (.aaload, 1) := dX0_finish_23
theorem wdX0_finish_24 : decode cX0_finish 24 = .ok (.aload_n 1, 1) := dX0_finish_24
theorem wdX0_finish_25 : decode cX0_finish 25 = .ok (.invokevirtual 67, 3) := dX0_finish_25
theorem wdX0_finish_28 : decode cX0_finish 28 = .ok (.pop, 1) := dX0_finish_28
theorem wdX0_finish_29 : decode cX0_finish 29 = .ok (.iinc 3 1, 3) := dX0_finish_29
theorem wdX0_finish_32 : decode cX0_finish 32 = .ok (.goto (-26), 3) := dX0_finish_32
set_option maxRecDepth 4000 in
theorem lp_X0_finish {p : Program} {l : Launch} {e : Env} {s : State} {m : MethodId} {args : Array Value} {below : List Frame} {meth : Method} {c : Code} {D : va_G} {B : Nat} {cy : Nat → ClassId} {H0 : Heap} {Q : State → Prop} {M : Mem} {R : Room} {Ps : Nat → Nat → Int} {mr rd k q hv ed fr9 : Nat} {o o9 : Wo} {Hs : Nat → Fw} (F : CallFix p m c cX0_finish 4 s args TB RX0) (hR1 : 5 ≤ R.frames) (hR2 : 133 ≤ R.locals) (hS : CS M Ps mr (q, hv, ed, o) rd Hs k) (hfr : fr9 ≤ 12) (kk : ∀ (j : Nat) (o1 : Wo) (Nm : Mem) (H : Heap) (locs : List Loc) (ls : Array Slot), (CW Nm 143 q hv ed (fnF Ps q hv ed (mr - fr9) fr9 o9)) → (Fr4 Nm M 143) → Wd D B cy s H0 Nm H locs → lv_has ls 4 [] → W p l e R s m args below meth c H locs 0 0 Q (F0 m 35 ls [])) : ∀ (f : Nat) (j : Nat) (o1 : Wo) (Nm : Mem), (j ≤ mr ∨ j = fr9) → (CW Nm 143 q hv ed o1) → (fnF Ps q hv ed (mr - fr9) fr9 o9 = fnF Ps q hv ed (mr - j) j o1) → (Fr4 Nm M 143) → (mr ≤ j + f) → ∀ (H : Heap) (locs : List Loc) (ls : Array Slot), Wd D B cy s H0 Nm H locs → lv_has ls 4 [(3, .int (zI (j : Int))), (0, .ref (B + 22)), (1, .ref (B + 143)), (2, .int (zI (fr9 : Int)))] → W p l e R s m args below meth c H locs 0 0 Q (F0 m 6 ls []) := by
  have hx := F.1
  have hb := F.2.1
  have hm8 := hS.1.2.1
  intro f
  induction f with
  | zero =>
    intro j o1 Nm i0 i1 i2 i3 hf H locs ls w hl
    refine lv_iload_n hx hb wdX0_finish_6 rfl (lv_at hl 0 rfl) ?_
    refine lv_aload_n hx hb wdX0_finish_7 rfl (lv_at hl 1 rfl) ?_
    refine f_0_2 F w (a := 22) rfl wtb_182 wdX0_finish_8 ?_
    refine r_val (v := (zI (mr : Int))) (((congrFun (i3.1 22 (by omega) (by omega) (by omega) (by omega)) 2).trans hS.1.1)) ?_
    refine z_icmp_ge (tgt := 35) hx hb (by omega) (by omega) wdX0_finish_11 (by decide) (fun c1 => ?_) (fun c1 => False.elim (by omega))
    exact kk j o1 Nm _ _ ls (by rw [i2, fnF_z (by omega)]; exact i1) i3 w (lv_sub hl [] rfl)
  | succ f ih =>
    intro j o1 Nm i0 i1 i2 i3 hf H locs ls w hl
    refine lv_iload_n hx hb wdX0_finish_6 rfl (lv_at hl 0 rfl) ?_
    refine lv_aload_n hx hb wdX0_finish_7 rfl (lv_at hl 1 rfl) ?_
    refine f_0_2 F w (a := 22) rfl wtb_182 wdX0_finish_8 ?_
    refine r_val (v := (zI (mr : Int))) (((congrFun (i3.1 22 (by omega) (by omega) (by omega) (by omega)) 2).trans hS.1.1)) ?_
    refine z_icmp_ge (tgt := 35) hx hb (by omega) (by omega) wdX0_finish_11 (by decide) (fun c1 => ?_) (fun c1 => ?_)
    · exact kk j o1 Nm _ _ ls (by rw [i2, fnF_z (by omega)]; exact i1) i3 w (lv_sub hl [] rfl)
    · refine lv_aload_n hx hb wdX0_finish_14 rfl (lv_at hl 1 rfl) ?_
      refine f_0_0 F w (a := 22) rfl wtb_189 wdX0_finish_15 ?_
      refine lv_aload_n hx hb wdX0_finish_18 rfl (lv_at hl 1 rfl) ?_
      refine f_0_1 F w (a := 22) rfl wtb_190 wdX0_finish_19 ?_
      refine lv_iload_n hx hb wdX0_finish_22 rfl (lv_at hl 0 rfl) ?_
      refine g_aldR F w (a := 24) rfl (j := j) (o := (28 + 2 * j)) rfl (ix_n (by omega)) (by omega) wdX0_finish_23 ?_
      refine lv_aload_n hx hb wdX0_finish_24 rfl (lv_at hl 2 rfl) ?_
      refine k_Vi F w (As := [.ref (B + (28 + 2 * j)), .ref (B + 143)]) (rest := []) (a := 23) (kd_lt (a := 23) (show kd 23 = (1, 0, 0) from rfl) (by decide)) (sh_1 rfl _ _) rfl (s_X1_perform (a := 143) rfl i1 (ru := 28 + 2 * j) (kd_lst (by omega)) ((hS.1.2.2 j (by omega)).1.fr (i3.1 _ (by omega) (by omega) (by omega) (by omega))) (hS.1.2.2 j (by omega)).2) wgv_X0_67 whv_X1_perform ⟨(by omega), (by omega)⟩ hl.1 rfl (Nat.le_of_ble_eq_true rfl) ⟨Nat.zero_le _, Nat.zero_le _⟩ wdX0_finish_25 (fun r Ma2 H locs hp w => ?_)
      rcases hp with ⟨o2, dd, pp, e2, rfl, hC3, hF3, hpp, hdd, hp20⟩
      refine lv_pop hx hb wdX0_finish_28 rfl ?_
      refine z_iinc (v := (((j + 1) : Nat) : Int)) (lv' := [(3, .int (zI (((j + 1) : Nat) : Int))), (0, .ref (B + 22)), (1, .ref (B + 143)), (2, .int (zI (fr9 : Int)))]) hx hb wdX0_finish_29 hl (k := 0) rfl (by omega) (by decide) rfl (fun ls hl => ?_)
      refine lv_goto (tgt := 6) hx hb wdX0_finish_32 (by decide) ?_
      exact ih (j + 1) o2 Ma2 (by omega) hC3 (i2.trans (fnF_s (by omega) e2)) (Fr4.tr i3 hF3) (by omega) _ _ ls w (lv_sub hl [0, 1, 2, 3] rfl)
theorem wdX0_finish_0 : decode cX0_finish 0 = .ok (.iconst 0, 1) := dX0_finish_0
theorem wdX0_finish_1 : decode cX0_finish 1 = .ok (.iload_n 2, 1) := dX0_finish_1
theorem wdX0_finish_2 : decode cX0_finish 2 = .ok (.invokestatic 73, 3) := dX0_finish_2
theorem wtb_421 : Cond.methodLink "ToneLines$Derivation" 73 yJ9_max_7cf53 ∈ TB := tb_201
theorem wdX0_finish_5 : decode cX0_finish 5 = .ok (.istore_n 3, 1) := dX0_finish_5
theorem wdX0_finish_35 : decode cX0_finish 35 = .ok (.return_, 1) := dX0_finish_35
set_option maxRecDepth 4000 in
theorem h_finish {l : Launch} {D : va_G} {B : Nat} {cy : Nat → ClassId} {M : Mem} {Ps : Nat → Nat → Int} {mr rd k q hv ed : Nat} {o : Wo} {Hs : Nat → Fw} (hS : CS M Ps mr (q, hv, ed, o) rd Hs k) {fr9 : Nat} {o9 : Wo} (hfr : fr9 ≤ 12) (hC9 : CW M 143 q hv ed o9) : Cv l D B cy yX0_finish cX0_finish 4 5 133 [.ref (B + 22), .ref (B + 143), .int (zI (fr9 : Int))] M (fun M1 => CW M1 143 q hv ed (fnF Ps q hv ed (mr - fr9) fr9 o9) ∧ Fr4 M1 M 143) := by
  refine s_any (by decide) (Nat.le_of_ble_eq_true rfl) ?_
  intro p e s m below meth c ls F hr hlocks w hl
  have F : CallFix p m c cX0_finish 4 s _ TB RX0 := F
  have hx := F.1
  have hb := F.2.1
  have hl : lv_has ls 4 [(0, .ref (B + 22)), (1, .ref (B + 143)), (2, .int (zI (fr9 : Int)))] := hl
  have hm8 := hS.1.2.1
  refine lv_iconst (v := zI 0) hx hb wdX0_finish_0 rfl ?_
  refine lv_iload_n hx hb wdX0_finish_1 rfl (lv_at hl 2 rfl) ?_
  refine g_max F hl.1 wtb_421 wtb_38 wtb_39 wtq_max (Nat.le_of_ble_eq_true rfl) (Nat.le_of_ble_eq_true rfl) (Nat.zero_le _) (Nat.zero_le _) (v := (zI (fr9 : Int))) (max_z0 (by constructor <;> omega) (by omega)) wdX0_finish_2 ?_
  refine lv_istore_n (lv' := [(3, .int (zI (fr9 : Int))), (0, .ref (B + 22)), (1, .ref (B + 143)), (2, .int (zI (fr9 : Int)))]) hx hb wdX0_finish_5 rfl hl (by decide) rfl (fun ls hl => ?_)
  refine lp_X0_finish  F (Nat.le_of_ble_eq_true rfl) (Nat.le_of_ble_eq_true rfl) hS hfr (fun j o1 Nm H locs ls x0 x1 w hl => ?_) mr fr9 o9 M (Or.inr rfl) hC9 rfl Fr4.rf (by omega) _ _ ls w (lv_sub hl [0, 1, 2, 3] rfl)
  exact e_v F w hr hlocks ⟨x0, x1⟩ wdX0_finish_35
theorem wdX11_exchanged_0 : decode cX11_exchanged 0 = .ok (.aload_n 0, 1) := dX11_exchanged_0
theorem wdX11_exchanged_1 : decode cX11_exchanged 1 = .ok (.getfield 35, 3) := dX11_exchanged_1
theorem wdX11_exchanged_4 : decode cX11_exchanged 4 = .ok (.iload_n 1, 1) := dX11_exchanged_4
theorem wdX11_exchanged_5 : decode cX11_exchanged 5 = .ok (.invokevirtual 173, 3) := dX11_exchanged_5
theorem wdX11_exchanged_8 : decode cX11_exchanged 8 = .ok (.ifCond .eq 16, 3) := dX11_exchanged_8
theorem wdX11_exchanged_11 : decode cX11_exchanged 11 = .ok (.aload_n 0, 1) := dX11_exchanged_11
theorem wdX11_exchanged_12 : decode cX11_exchanged 12 = .ok (.getfield 35, 3) := dX11_exchanged_12
theorem wdX11_exchanged_15 : decode cX11_exchanged 15 = .ok (.iload_n 1, 1) := dX11_exchanged_15
theorem wdX11_exchanged_16 : decode cX11_exchanged 16 = .ok (.iconst 1, 1) := dX11_exchanged_16
theorem wdX11_exchanged_17 : decode cX11_exchanged 17 = .ok (.iadd, 1) := dX11_exchanged_17
theorem wdX11_exchanged_18 : decode cX11_exchanged 18 = .ok (.invokevirtual 173, 3) := dX11_exchanged_18
theorem wdX11_exchanged_21 : decode cX11_exchanged 21 = .ok (.ifCond .ne 5, 3) := dX11_exchanged_21
theorem wdX11_exchanged_26 : decode cX11_exchanged 26 = .ok (.aload_n 0, 1) := dX11_exchanged_26
theorem wdX11_exchanged_27 : decode cX11_exchanged 27 = .ok (.getfield 75, 3) := dX11_exchanged_27
theorem wdX11_exchanged_30 : decode cX11_exchanged 30 = .ok (.aload_n 0, 1) := dX11_exchanged_30
theorem wdX11_exchanged_31 : decode cX11_exchanged 31 = .ok (.getfield 35, 3) := dX11_exchanged_31
theorem wdX11_exchanged_34 : decode cX11_exchanged 34 = .ok (.iload_n 1, 1) := dX11_exchanged_34
theorem wdX11_exchanged_35 : decode cX11_exchanged 35 = .ok (.invokevirtual 196, 3) := dX11_exchanged_35
theorem wdX11_exchanged_38 : decode cX11_exchanged 38 = .ok (.invokevirtual 90, 3) := dX11_exchanged_38
theorem wdX11_exchanged_41 : decode cX11_exchanged 41 = .ok (.aload_n 0, 1) := dX11_exchanged_41
theorem wdX11_exchanged_42 : decode cX11_exchanged 42 = .ok (.getfield 35, 3) := dX11_exchanged_42
theorem wdX11_exchanged_45 : decode cX11_exchanged 45 = .ok (.getfield 176, 3) := dX11_exchanged_45
theorem wdX11_exchanged_48 : decode cX11_exchanged 48 = .ok (.aload_n 0, 1) := dX11_exchanged_48
theorem wdX11_exchanged_49 : decode cX11_exchanged 49 = .ok (.getfield 35, 3) := dX11_exchanged_49
theorem wdX11_exchanged_52 : decode cX11_exchanged 52 = .ok (.getfield 180, 3) := dX11_exchanged_52
theorem wdX11_exchanged_55 : decode cX11_exchanged 55 = .ok (.iload_n 1, 1) := dX11_exchanged_55
theorem wdX11_exchanged_56 : decode cX11_exchanged 56 = .ok (.iconst 1, 1) := dX11_exchanged_56
theorem wdX11_exchanged_57 : decode cX11_exchanged 57 = .ok (.iadd, 1) := dX11_exchanged_57
theorem wdX11_exchanged_58 : decode cX11_exchanged 58 = .ok (.aaload, 1) := dX11_exchanged_58
theorem wdX11_exchanged_59 : decode cX11_exchanged 59 = .ok (.aload_n 0, 1) := dX11_exchanged_59
theorem wdX11_exchanged_60 : decode cX11_exchanged 60 = .ok (.getfield 75, 3) := dX11_exchanged_60
theorem wdX11_exchanged_63 : decode cX11_exchanged 63 = .ok (.invokevirtual 183, 3) := dX11_exchanged_63
theorem wdX11_exchanged_66 : decode cX11_exchanged 66 = .ok (.pop, 1) := dX11_exchanged_66
theorem wdX11_exchanged_67 : decode cX11_exchanged 67 = .ok (.aload_n 0, 1) := dX11_exchanged_67
theorem wdX11_exchanged_68 : decode cX11_exchanged 68 = .ok (.getfield 35, 3) := dX11_exchanged_68
theorem wdX11_exchanged_71 : decode cX11_exchanged 71 = .ok (.getfield 176, 3) := dX11_exchanged_71
theorem wdX11_exchanged_74 : decode cX11_exchanged 74 = .ok (.aload_n 0, 1) := dX11_exchanged_74
theorem wdX11_exchanged_75 : decode cX11_exchanged 75 = .ok (.getfield 35, 3) := dX11_exchanged_75
theorem wdX11_exchanged_78 : decode cX11_exchanged 78 = .ok (.getfield 180, 3) := dX11_exchanged_78
theorem wdX11_exchanged_81 : decode cX11_exchanged 81 = .ok (.iload_n 1, 1) := dX11_exchanged_81
theorem wdX11_exchanged_82 : decode cX11_exchanged 82 = .ok (.aaload, 1) := dX11_exchanged_82
theorem wdX11_exchanged_83 : decode cX11_exchanged 83 = .ok (.aload_n 0, 1) := dX11_exchanged_83
theorem wdX11_exchanged_84 : decode cX11_exchanged 84 = .ok (.getfield 75, 3) := dX11_exchanged_84
theorem wdX11_exchanged_87 : decode cX11_exchanged 87 = .ok (.invokevirtual 183, 3) := dX11_exchanged_87
theorem wdX11_exchanged_90 : decode cX11_exchanged 90 = .ok (.pop, 1) := dX11_exchanged_90
theorem wdX11_exchanged_91 : decode cX11_exchanged 91 = .ok (.aload_n 0, 1) := dX11_exchanged_91
theorem wdX11_exchanged_92 : decode cX11_exchanged 92 = .ok (.getfield 35, 3) := dX11_exchanged_92
theorem wdX11_exchanged_95 : decode cX11_exchanged 95 = .ok (.aload_n 0, 1) := dX11_exchanged_95
theorem wdX11_exchanged_96 : decode cX11_exchanged 96 = .ok (.getfield 75, 3) := dX11_exchanged_96
theorem wdX11_exchanged_99 : decode cX11_exchanged 99 = .ok (.iload_n 1, 1) := dX11_exchanged_99
theorem wdX11_exchanged_100 : decode cX11_exchanged 100 = .ok (.iconst 2, 1) := dX11_exchanged_100
theorem wdX11_exchanged_101 : decode cX11_exchanged 101 = .ok (.iadd, 1) := dX11_exchanged_101
theorem wdX11_exchanged_102 : decode cX11_exchanged 102 = .ok (.invokevirtual 264, 3) := dX11_exchanged_102
theorem wtk_X0_finish : Cond.code yX0_finish cX0_finish 4 none ∈ TB := tk_X0_finish
theorem wgc_X0_finish : GoodIn TB (cw yX0_finish cX0_finish 4 none) := goodIn_c2 wtk_X0_finish
theorem wtb_422 : Cond.methodLink "ToneLines" 264 yX0_finish ∈ TB := tb_376
theorem wtb_423 : Cond.instanceMethod yX0_finish ∈ TB := tb_377
theorem wtb_424 : Cond.selects "ToneLines$Derivation" yX0_finish yX0_finish ∈ TB := tb_378
theorem wgv_X11_264 : GoodIn TB (wsV RX11 264 RX0 yX0_finish (cw yX0_finish cX0_finish 4 none)) := goodIn_4 wtb_422 wtb_423 wtb_424 wtb_199 wgc_X0_finish
theorem whv_X0_finish : yX0_finish.cls = RX0 ∧ yX0_finish.cls ≠ "java/lang/invoke/MethodHandle" ∧ yX0_finish.cls ≠ "java/lang/invoke/VarHandle" ∧ (parseMethodDescriptor yX0_finish.desc).map (fun d => d.parameters.length) = some 2 := hv_X0_finish
theorem wdX11_exchanged_105 : decode cX11_exchanged 105 = .ok (.aload_n 0, 1) := dX11_exchanged_105
theorem wdX11_exchanged_106 : decode cX11_exchanged 106 = .ok (.getfield 75, 3) := dX11_exchanged_106
theorem wdX11_exchanged_109 : decode cX11_exchanged 109 = .ok (.aload_n 0, 1) := dX11_exchanged_109
theorem wdX11_exchanged_110 : decode cX11_exchanged 110 = .ok (.getfield 35, 3) := dX11_exchanged_110
theorem wdX11_exchanged_113 : decode cX11_exchanged 113 = .ok (.aload_n 0, 1) := dX11_exchanged_113
theorem wdX11_exchanged_114 : decode cX11_exchanged 114 = .ok (.getfield 35, 3) := dX11_exchanged_114
theorem wdX11_exchanged_117 : decode cX11_exchanged 117 = .ok (.getfield 118, 3) := dX11_exchanged_117
theorem wdX11_exchanged_120 : decode cX11_exchanged 120 = .ok (.invokevirtual 196, 3) := dX11_exchanged_120
theorem wdX11_exchanged_123 : decode cX11_exchanged 123 = .ok (.invokevirtual 267, 3) := dX11_exchanged_123
theorem wtk_X9_isReadAs : Cond.code yX9_isReadAs cX9_isReadAs 2 (some .boolean) ∈ TB := tk_X9_isReadAs
theorem wgc_X9_isReadAs : GoodIn TB (cw yX9_isReadAs cX9_isReadAs 2 (some .boolean)) := goodIn_c2 wtk_X9_isReadAs
theorem wtb_425 : Cond.methodLink "ToneLines" 267 yX9_isReadAs ∈ TB := tb_380
theorem wtb_426 : Cond.instanceMethod yX9_isReadAs ∈ TB := tb_381
theorem wtb_427 : Cond.selects "ToneLines$Word" yX9_isReadAs yX9_isReadAs ∈ TB := tb_382
theorem wgv_X11_267 : GoodIn TB (wsV RX11 267 RX9 yX9_isReadAs (cw yX9_isReadAs cX9_isReadAs 2 (some .boolean))) := goodIn_4 wtb_425 wtb_426 wtb_427 wtb_3 wgc_X9_isReadAs
theorem whv_X9_isReadAs : yX9_isReadAs.cls = RX9 ∧ yX9_isReadAs.cls ≠ "java/lang/invoke/MethodHandle" ∧ yX9_isReadAs.cls ≠ "java/lang/invoke/VarHandle" ∧ (parseMethodDescriptor yX9_isReadAs.desc).map (fun d => d.parameters.length) = some 1 := hv_X9_isReadAs
theorem wdX11_exchanged_126 : decode cX11_exchanged 126 = .ok (.ifCond .eq 7, 3) := dX11_exchanged_126
theorem wdX11_exchanged_129 : decode cX11_exchanged 129 = .ok (.iconst 0, 1) := dX11_exchanged_129
theorem wdX11_exchanged_130 : decode cX11_exchanged 130 = .ok (.goto 4, 3) := dX11_exchanged_130
theorem wdX11_exchanged_134 : decode cX11_exchanged 134 = .ok (.ireturn, 1) := dX11_exchanged_134
theorem wdX11_exchanged_133 : decode cX11_exchanged 133 = .ok (.iconst 1, 1) := dX11_exchanged_133
theorem wdX11_exchanged_24 : decode cX11_exchanged 24 = .ok (.iconst (-1), 1) := dX11_exchanged_24
theorem wdX11_exchanged_25 : decode cX11_exchanged 25 = .ok (.ireturn, 1) := dX11_exchanged_25
set_option maxRecDepth 4000 in
theorem h_exchanged {l : Launch} {D : va_G} {B : Nat} {cy : Nat → ClassId} {M : Mem} {Ps : Nat → Nat → Int} {mr rd k q hv ed : Nat} {o : Wo} {Hs : Nat → Fw} (hS : CS M Ps mr (q, hv, ed, o) rd Hs k) (hn9 : ncW o) {r9 : Int} (hr9 : rg r9) : Ci l D B cy yX11_exchanged cX11_exchanged 2 (some .int) 6 156 [.ref (B + 0), .int (zI r9)] M (fun r M1 => r = zI (exA9 Ps mr r9 (q, hv, ed, o))) := by
  refine s_any (by decide) (Nat.le_of_ble_eq_true rfl) ?_
  intro p e s m below meth c ls F hr hlocks w hl
  have F : CallFix p m c cX11_exchanged 2 s _ TB RX11 := F
  have hx := F.1
  have hb := F.2.1
  have hl : lv_has ls 2 [(0, .ref (B + 0)), (1, .int (zI r9))] := hl
  have hm8 := hS.1.2.1
  have hC : CW M 44 q hv ed o := hS.t
  have hW : isW M 44 o.1 q hv ed o.2.1 o.2.2 := hC.1
  have hwf := hC.wf
  have hKL := hwf.2.2.2.2
  have hn12 := hwf.1
  have hq12 := hwf.2.1
  have hhv := hwf.2.2.1
  have hed := hwf.2.2.2.1
  have hncx : ∀ rn, rn + 1 < mr → ncW (exW Ps mr rn (q, hv, ed, o)) := fun rn hr => nc_fnF (fun j hj => (hS.1.2.2 j hj).2) _ _ _ (by omega) (nc_pfF (hS.1.2.2 rn (by omega)).2 20 _ (nc_pfF (hS.1.2.2 (rn + 1) hr).2 20 _ (nc_dvF hn9 rn (fun j hj => (hS.1.2.2 j (by omega)).2))))
  refine lv_aload_n hx hb wdX11_exchanged_0 rfl (lv_at hl 0 rfl) ?_
  refine f_11_3 F w (a := 0) rfl wtb_207 wdX11_exchanged_1 ?_
  refine lv_iload_n hx hb wdX11_exchanged_4 rfl (lv_at hl 1 rfl) ?_
  refine k_Vi F w (As := [.int (zI r9)]) (rest := []) (a := 22) (kd_lt (a := 22) (show kd 22 = (0, 0, 0) from rfl) (by decide)) (sh_0 rfl _ _) rfl (g_hasRule hS (n9 := r9) (by omega)) wgv_X11_173 whv_X0_hasRule ⟨(Nat.le_of_ble_eq_true rfl), (Nat.le_of_ble_eq_true rfl)⟩ hl.1 rfl (Nat.le_of_ble_eq_true rfl) ⟨Nat.zero_le _, Nat.zero_le _⟩ wdX11_exchanged_5 (fun r Ma2 H locs hp w => ?_)
  rcases hp with ⟨⟨hb1, rfl⟩ | ⟨hb1, rfl⟩, hMe⟩
  · rw [hMe] at w
    obtain ⟨rn, rfl⟩ : ∃ n8 : Nat, r9 = (n8 : Int) := ⟨Int.toNat r9, by omega⟩
    have hrn : rn < mr := by omega
    refine z_if_eq (tgt := 24) hx hb (by omega) wdX11_exchanged_8 (by decide) (fun c3 => False.elim (by omega)) (fun c3 => ?_)
    refine lv_aload_n hx hb wdX11_exchanged_11 rfl (lv_at hl 0 rfl) ?_
    refine f_11_3 F w (a := 0) rfl wtb_207 wdX11_exchanged_12 ?_
    refine lv_iload_n hx hb wdX11_exchanged_15 rfl (lv_at hl 1 rfl) ?_
    refine lv_iconst (v := zI 1) hx hb wdX11_exchanged_16 rfl ?_
    refine z_iadd (z := (((rn + 1) : Nat) : Int)) hx hb wdX11_exchanged_17 (by omega) ?_
    refine k_Vi F w (As := [.int (zI (((rn + 1) : Nat) : Int))]) (rest := []) (a := 22) (kd_lt (a := 22) (show kd 22 = (0, 0, 0) from rfl) (by decide)) (sh_0 rfl _ _) rfl (g_hasRule hS (n9 := (((rn + 1) : Nat) : Int)) (by omega)) wgv_X11_173 whv_X0_hasRule ⟨(Nat.le_of_ble_eq_true rfl), (Nat.le_of_ble_eq_true rfl)⟩ hl.1 rfl (Nat.le_of_ble_eq_true rfl) ⟨Nat.zero_le _, Nat.zero_le _⟩ wdX11_exchanged_18 (fun r Ma5 H locs hp w => ?_)
    rcases hp with ⟨⟨hb4, rfl⟩ | ⟨hb4, rfl⟩, hMe⟩
    · rw [hMe] at w
      have hrn1 : rn + 1 < mr := by omega
      refine z_if_ne (tgt := 26) hx hb (by omega) wdX11_exchanged_21 (by decide) (fun c6 => ?_) (fun c6 => False.elim (by omega))
      refine lv_aload_n hx hb wdX11_exchanged_26 rfl (lv_at hl 0 rfl) ?_
      refine f_11_9 F w (a := 0) rfl wtb_261 wdX11_exchanged_27 ?_
      refine lv_aload_n hx hb wdX11_exchanged_30 rfl (lv_at hl 0 rfl) ?_
      refine f_11_3 F w (a := 0) rfl wtb_207 wdX11_exchanged_31 ?_
      refine lv_iload_n hx hb wdX11_exchanged_34 rfl (lv_at hl 1 rfl) ?_
      refine k_Vr F w (As := [.int (zI (rn : Int))]) (rest := [.ref (B + 143)]) (a := 22) (kd_lt (a := 22) (show kd 22 = (0, 0, 0) from rfl) (by decide)) (sh_0 rfl _ _) rfl (g_stageOf hS (n9 := rn) (by omega)) wgv_X11_196 whv_X0_stageOf ⟨(Nat.le_of_ble_eq_true rfl), (Nat.le_of_ble_eq_true rfl)⟩ hl.1 rfl (Nat.le_of_ble_eq_true rfl) ⟨Nat.zero_le _, Nat.zero_le _⟩ wdX11_exchanged_35 (fun r Ma7 H locs hp w => ?_)
      rcases hp with ⟨rfl, rd1, hnr, _, hS1, _⟩
      have hC1 : CW Ma7 (44 + 3 * rn) q hv ed (sg9 Ps (q, hv, ed, o) rn) := hS1.2.1.2.2.1 rn (by omega)
      refine k_Vv F w (As := [.ref (B + (44 + 3 * rn))]) (rest := []) (a := 143) (kd_lt (a := 143) (show kd 143 = (9, 0, 0) from rfl) (by decide)) (sh_9 rfl _ _) rfl (s_X9_copyFrom (a := 143) rfl (b := 44 + 3 * rn) (kd_sg (by omega)) hC1.1 (by omega) hC1.2.1.1) wgv_X11_90 whv_X9_copyFrom ⟨(Nat.le_of_ble_eq_true rfl), (Nat.le_of_ble_eq_true rfl)⟩ hl.1 rfl (Nat.le_of_ble_eq_true rfl) ⟨Nat.zero_le _, Nat.zero_le _⟩ wdX11_exchanged_38 (fun Ma8 H locs hp w => ?_)
      rcases hp with ⟨hW2, hF2⟩
      have hC2 : CW Ma8 143 q hv ed (sg9 Ps (q, hv, ed, o) rn) := ⟨hW2, hC1.2⟩
      have hS2 := hS1.d4 (Fr4.of3 hF2)
      refine lv_aload_n hx hb wdX11_exchanged_41 rfl (lv_at hl 0 rfl) ?_
      refine f_11_3 F w (a := 0) rfl wtb_207 wdX11_exchanged_42 ?_
      refine f_0_0 F w (a := 22) rfl wtb_262 wdX11_exchanged_45 ?_
      refine lv_aload_n hx hb wdX11_exchanged_48 rfl (lv_at hl 0 rfl) ?_
      refine f_11_3 F w (a := 0) rfl wtb_207 wdX11_exchanged_49 ?_
      refine f_0_1 F w (a := 22) rfl wtb_263 wdX11_exchanged_52 ?_
      refine lv_iload_n hx hb wdX11_exchanged_55 rfl (lv_at hl 1 rfl) ?_
      refine lv_iconst (v := zI 1) hx hb wdX11_exchanged_56 rfl ?_
      refine z_iadd (z := (((rn + 1) : Nat) : Int)) hx hb wdX11_exchanged_57 (by omega) ?_
      refine g_aldR F w (a := 24) rfl (j := (rn + 1)) (o := (28 + 2 * (rn + 1))) rfl (ix_n (by omega)) (by omega) wdX11_exchanged_58 ?_
      refine lv_aload_n hx hb wdX11_exchanged_59 rfl (lv_at hl 0 rfl) ?_
      refine f_11_9 F w (a := 0) rfl wtb_261 wdX11_exchanged_60 ?_
      refine k_Vi F w (As := [.ref (B + (28 + 2 * (rn + 1))), .ref (B + 143)]) (rest := []) (a := 23) (kd_lt (a := 23) (show kd 23 = (1, 0, 0) from rfl) (by decide)) (sh_1 rfl _ _) rfl (s_X1_perform (a := 143) rfl hC2 (ru := 28 + 2 * (rn + 1)) (kd_lst (by omega)) (hS2.1.2.2 (rn + 1) (by omega)).1 (hS2.1.2.2 (rn + 1) (by omega)).2) wgv_X11_183 whv_X1_perform ⟨(Nat.le_of_ble_eq_true rfl), (Nat.le_of_ble_eq_true rfl)⟩ hl.1 rfl (Nat.le_of_ble_eq_true rfl) ⟨Nat.zero_le _, Nat.zero_le _⟩ wdX11_exchanged_63 (fun r Ma9 H locs hp w => ?_)
      rcases hp with ⟨o3, dd3, pp3, e3, rfl, hC3x, hF3, _, _, _⟩
      have hC3 : CW Ma9 143 q hv ed (pfF (Ps (rn + 1)) q hv ed 20 (sg9 Ps (q, hv, ed, o) rn)).1 := by rw [e3]; exact hC3x
      have hS3 := hS2.d4 hF3
      refine lv_pop hx hb wdX11_exchanged_66 rfl ?_
      refine lv_aload_n hx hb wdX11_exchanged_67 rfl (lv_at hl 0 rfl) ?_
      refine f_11_3 F w (a := 0) rfl wtb_207 wdX11_exchanged_68 ?_
      refine f_0_0 F w (a := 22) rfl wtb_262 wdX11_exchanged_71 ?_
      refine lv_aload_n hx hb wdX11_exchanged_74 rfl (lv_at hl 0 rfl) ?_
      refine f_11_3 F w (a := 0) rfl wtb_207 wdX11_exchanged_75 ?_
      refine f_0_1 F w (a := 22) rfl wtb_263 wdX11_exchanged_78 ?_
      refine lv_iload_n hx hb wdX11_exchanged_81 rfl (lv_at hl 1 rfl) ?_
      refine g_aldR F w (a := 24) rfl (j := rn) (o := (28 + 2 * rn)) rfl (ix_n (by omega)) (by omega) wdX11_exchanged_82 ?_
      refine lv_aload_n hx hb wdX11_exchanged_83 rfl (lv_at hl 0 rfl) ?_
      refine f_11_9 F w (a := 0) rfl wtb_261 wdX11_exchanged_84 ?_
      refine k_Vi F w (As := [.ref (B + (28 + 2 * rn)), .ref (B + 143)]) (rest := []) (a := 23) (kd_lt (a := 23) (show kd 23 = (1, 0, 0) from rfl) (by decide)) (sh_1 rfl _ _) rfl (s_X1_perform (a := 143) rfl hC3 (ru := 28 + 2 * (rn)) (kd_lst (by omega)) (hS3.1.2.2 (rn) (by omega)).1 (hS3.1.2.2 (rn) (by omega)).2) wgv_X11_183 whv_X1_perform ⟨(Nat.le_of_ble_eq_true rfl), (Nat.le_of_ble_eq_true rfl)⟩ hl.1 rfl (Nat.le_of_ble_eq_true rfl) ⟨Nat.zero_le _, Nat.zero_le _⟩ wdX11_exchanged_87 (fun r Ma10 H locs hp w => ?_)
      rcases hp with ⟨o4, dd4, pp4, e4, rfl, hC4x, hF4, _, _, _⟩
      have hC4 : CW Ma10 143 q hv ed (pfF (Ps rn) q hv ed 20 (pfF (Ps (rn + 1)) q hv ed 20 (sg9 Ps (q, hv, ed, o) rn)).1).1 := by rw [e4]; exact hC4x
      have hS4 := hS3.d4 hF4
      refine lv_pop hx hb wdX11_exchanged_90 rfl ?_
      refine lv_aload_n hx hb wdX11_exchanged_91 rfl (lv_at hl 0 rfl) ?_
      refine f_11_3 F w (a := 0) rfl wtb_207 wdX11_exchanged_92 ?_
      refine lv_aload_n hx hb wdX11_exchanged_95 rfl (lv_at hl 0 rfl) ?_
      refine f_11_9 F w (a := 0) rfl wtb_261 wdX11_exchanged_96 ?_
      refine lv_iload_n hx hb wdX11_exchanged_99 rfl (lv_at hl 1 rfl) ?_
      refine lv_iconst (v := zI 2) hx hb wdX11_exchanged_100 rfl ?_
      refine z_iadd (z := (((rn + 2) : Nat) : Int)) hx hb wdX11_exchanged_101 (by omega) ?_
      refine k_Vv F w (As := [.ref (B + 143), .int (zI (((rn + 2) : Nat) : Int))]) (rest := []) (a := 22) (kd_lt (a := 22) (show kd 22 = (0, 0, 0) from rfl) (by decide)) (sh_0 rfl _ _) rfl (h_finish hS4 (fr9 := rn + 2) (by omega) hC4) wgv_X11_264 whv_X0_finish ⟨(Nat.le_of_ble_eq_true rfl), (Nat.le_of_ble_eq_true rfl)⟩ hl.1 rfl (Nat.le_of_ble_eq_true rfl) ⟨Nat.zero_le _, Nat.zero_le _⟩ wdX11_exchanged_102 (fun Ma11 H locs hp w => ?_)
      rcases hp with ⟨hC5, hF5⟩
      have hS5 := hS4.d4 hF5
      refine lv_aload_n hx hb wdX11_exchanged_105 rfl (lv_at hl 0 rfl) ?_
      refine f_11_9 F w (a := 0) rfl wtb_261 wdX11_exchanged_106 ?_
      refine lv_aload_n hx hb wdX11_exchanged_109 rfl (lv_at hl 0 rfl) ?_
      refine f_11_3 F w (a := 0) rfl wtb_207 wdX11_exchanged_110 ?_
      refine lv_aload_n hx hb wdX11_exchanged_113 rfl (lv_at hl 0 rfl) ?_
      refine f_11_3 F w (a := 0) rfl wtb_207 wdX11_exchanged_114 ?_
      refine f_0_2 F w (a := 22) rfl wtb_368 wdX11_exchanged_117 ?_
      refine r_val (v := (zI (mr : Int))) (hS5.1.1) ?_
      refine k_Vr F w (As := [.int (zI (mr : Int))]) (rest := [.ref (B + 143)]) (a := 22) (kd_lt (a := 22) (show kd 22 = (0, 0, 0) from rfl) (by decide)) (sh_0 rfl _ _) rfl (g_stageOf hS5 (n9 := mr) (by omega)) wgv_X11_196 whv_X0_stageOf ⟨(Nat.le_of_ble_eq_true rfl), (Nat.le_of_ble_eq_true rfl)⟩ hl.1 rfl (Nat.le_of_ble_eq_true rfl) ⟨Nat.zero_le _, Nat.zero_le _⟩ wdX11_exchanged_120 (fun r Ma12 H locs hp w => ?_)
      rcases hp with ⟨rfl, rd6, hn6, _, hS6, hF6⟩
      have hC6 : CW Ma12 143 q hv ed (fnF Ps q hv ed (mr - (rn + 2)) (rn + 2) (pfF (Ps rn) q hv ed 20 (pfF (Ps (rn + 1)) q hv ed 20 (sg9 Ps (q, hv, ed, o) rn)).1).1) := hC5.fs hF6
      have hCw : CW Ma12 (44 + 3 * mr) q hv ed (sg9 Ps (q, hv, ed, o) mr) := hS6.2.1.2.2.1 mr (by omega)
      refine k_Vi F w (As := [.ref (B + (44 + 3 * mr))]) (rest := []) (a := 143) (kd_lt (a := 143) (show kd 143 = (9, 0, 0) from rfl) (by decide)) (sh_9 rfl _ _) rfl (h_isReadAs (a := 143) (b := 44 + 3 * mr) rfl hC6 (kd_sg (by omega)) hCw (hncx rn hrn1) (nc_dvF hn9 mr (fun j hj => (hS.1.2.2 j hj).2))) wgv_X11_267 whv_X9_isReadAs ⟨(Nat.le_of_ble_eq_true rfl), (Nat.le_of_ble_eq_true rfl)⟩ hl.1 rfl (Nat.le_of_ble_eq_true rfl) ⟨Nat.zero_le _, Nat.zero_le _⟩ wdX11_exchanged_123 (fun r Ma13 H locs hp w => ?_)
      rcases hp with ⟨⟨hra, rfl⟩ | ⟨hra, rfl⟩, hMe⟩
      · rw [hMe] at w
        refine z_if_eq (tgt := 133) hx hb (by omega) wdX11_exchanged_126 (by decide) (fun c14 => False.elim (by omega)) (fun c14 => ?_)
        refine lv_iconst (v := zI 0) hx hb wdX11_exchanged_129 rfl ?_
        refine lv_goto (tgt := 134) hx hb wdX11_exchanged_130 (by decide) ?_
        exact e_i F w hr hlocks (congrArg zI ((exA_y hrn1).trans (congrArg _ (yn_0 (fun h9 => h9 hra)))).symm) wdX11_exchanged_134
      · rw [hMe] at w
        refine z_if_eq (tgt := 133) hx hb (by omega) wdX11_exchanged_126 (by decide) (fun c15 => ?_) (fun c15 => False.elim (by omega))
        refine lv_iconst (v := zI 1) hx hb wdX11_exchanged_133 rfl ?_
        exact e_i F w hr hlocks (congrArg zI ((exA_y hrn1).trans (congrArg _ (yn_1 hra))).symm) wdX11_exchanged_134
    · rw [hMe] at w
      refine z_if_ne (tgt := 26) hx hb (by omega) wdX11_exchanged_21 (by decide) (fun c16 => False.elim (by omega)) (fun c16 => ?_)
      refine lv_iconst (v := zI (-1)) hx hb wdX11_exchanged_24 rfl ?_
      exact e_i F w hr hlocks (congrArg zI (exA_n (by omega)).symm) wdX11_exchanged_25
  · rw [hMe] at w
    refine z_if_eq (tgt := 24) hx hb (by omega) wdX11_exchanged_8 (by decide) (fun c17 => ?_) (fun c17 => False.elim (by omega))
    refine lv_iconst (v := zI (-1)) hx hb wdX11_exchanged_24 rfl ?_
    exact e_i F w hr hlocks (congrArg zI (exA_n (by omega)).symm) wdX11_exchanged_25
