-- rules exchanged, rules left out
noncomputable def fnF (Ps : Nat → Nat → Int) (q hv ed : Nat) : Nat → Nat → Wo → Wo
  | 0, _, o => o
  | d + 1, j, o => fnF Ps q hv ed d (j + 1) (pfF (Ps j) q hv ed 20 o).1
theorem fnF_s {Ps : Nat → Nat → Int} {q hv ed m j : Nat} {o o2 : Wo} {c : Nat × Nat} (hj : j < m) (e : pfF (Ps j) q hv ed 20 o = (o2, c)) : fnF Ps q hv ed (m - j) j o = fnF Ps q hv ed (m - (j + 1)) (j + 1) o2 := by
  rw [show m - j = (m - (j + 1)) + 1 by omega, fnF, e]
theorem fnF_z {Ps : Nat → Nat → Int} {q hv ed m j : Nat} {o : Wo} (hj : m ≤ j) : fnF Ps q hv ed (m - j) j o = o := by
  rw [show m - j = 0 by omega]; rfl
theorem fnF_l {Ps : Nat → Nat → Int} {m q hv ed hv2 ed2 : Nat} (hG : ∀ j, j < m → okG (Ps j)) (h1 : lkB q hv hv2) (h2 : lkB q ed ed2) : ∀ (d j : Nat) (o : Wo), j + d ≤ m → okW q o → fnF Ps q hv ed d j o = fnF Ps q hv2 ed2 d j o ∧ okW q (fnF Ps q hv ed d j o)
  | 0, _, _, _, hk => ⟨rfl, hk⟩
  | d + 1, j, o, hj, hk => by
    have e := pfF_l (hG j (by omega)) h1 h2 20 o hk
    rw [fnF, fnF, ← e.1]
    exact fnF_l hG h1 h2 d (j + 1) _ (by omega) e.2
theorem nc_fnF {Ps : Nat → Nat → Int} {m q hv ed : Nat} (hG : ∀ j, j < m → okG (Ps j)) : ∀ (d j : Nat) (o : Wo), j + d ≤ m → ncW o → ncW (fnF Ps q hv ed d j o)
  | 0, _, _, _, h => h
  | d + 1, j, o, hj, h => by
    rw [fnF]
    exact nc_fnF hG d (j + 1) _ (by omega) (nc_pfF (hG j (by omega)) 20 _ h)
noncomputable def yn (p : Prop) : Nat := @ite Nat p (Classical.propDecidable p) 1 0
theorem yn_1 {p : Prop} (h : p) : yn p = 1 := by unfold yn; exact @if_pos _ (Classical.propDecidable p) h _ _ _
theorem yn_0 {p : Prop} (h : ¬ p) : yn p = 0 := by unfold yn; exact @if_neg _ (Classical.propDecidable p) h _ _ _
/-- the word that comes without a rule; rules that are needed -/
noncomputable def noW (Ps : Nat → Nat → Int) (m r : Nat) (x : Fw) : Wo := fnF Ps x.1 x.2.1 x.2.2.1 (m - (r + 1)) (r + 1) (sg9 Ps x r)
noncomputable def ndF (Ps : Nat → Nat → Int) (m : Nat) (x : Fw) : Nat → Nat
  | 0 => 0
  | r + 1 => if yn (rdE x.1 (noW Ps m r x) (sg9 Ps x m)) = 1 then ndF Ps m x r else ndF Ps m x r ||| 2 ^ r
theorem nd_y {Ps : Nat → Nat → Int} {m r : Nat} {x : Fw} (h : rdE x.1 (noW Ps m r x) (sg9 Ps x m)) : ndF Ps m x (r + 1) = ndF Ps m x r := by rw [ndF, if_pos (yn_1 h)]
theorem nd_n {Ps : Nat → Nat → Int} {m r : Nat} {x : Fw} (h : ¬ rdE x.1 (noW Ps m r x) (sg9 Ps x m)) : ndF Ps m x (r + 1) = ndF Ps m x r ||| 2 ^ r := by rw [ndF, if_neg (by rw [yn_0 h]; decide)]
theorem nd_le {Ps : Nat → Nat → Int} {m : Nat} {x : Fw} : ∀ {r : Nat}, r ≤ 8 → ndF Ps m x r < 4096
  | 0, _ => by show 0 < 4096; decide
  | r + 1, h => by
    have h1 := nd_le (Ps := Ps) (m := m) (x := x) (r := r) (by omega)
    by_cases h2 : rdE x.1 (noW Ps m r x) (sg9 Ps x m)
    · rw [nd_y h2]; exact h1
    · rw [nd_n h2]; exact or_lt12 h1 (by have h9 := p2_b (n := r) (by omega); omega)
theorem noW_l {Ps : Nat → Nat → Int} {m r q hv ed hv2 ed2 : Nat} {o : Wo} (hG : ∀ j, j < m → okG (Ps j)) (hk : okW q o) (h1 : lkB q hv hv2) (h2 : lkB q ed ed2) (hr : r < m) : noW Ps m r (q, hv, ed, o) = noW Ps m r (q, hv2, ed2, o) ∧ okW q (noW Ps m r (q, hv, ed, o)) := by
  have e0 := sg9_l (n := r) hG hk h1 h2 (by omega)
  have hok := (dvF_l h1 h2 hk r (fun j hj => hG j (by omega))).2
  have e3 := fnF_l hG h1 h2 (m - (r + 1)) (r + 1) (sg9 Ps (q, hv, ed, o) r) (by omega) hok
  refine ⟨?_, e3.2⟩
  show fnF Ps q hv ed (m - (r + 1)) (r + 1) (sg9 Ps (q, hv, ed, o) r) = fnF Ps q hv2 ed2 (m - (r + 1)) (r + 1) (sg9 Ps (q, hv2, ed2, o) r)
  rw [e3.1, e0.1]
theorem nd_l {Ps : Nat → Nat → Int} {m q hv ed hv2 ed2 : Nat} {o : Wo} (hG : ∀ j, j < m → okG (Ps j)) (hk : okW q o) (h1 : lkB q hv hv2) (h2 : lkB q ed ed2) : ∀ i, i ≤ m → ndF Ps m (q, hv, ed, o) i = ndF Ps m (q, hv2, ed2, o) i
  | 0, _ => rfl
  | i + 1, hi => by
    rw [ndF, ndF, nd_l hG hk h1 h2 i (by omega), (noW_l hG hk h1 h2 (show i < m by omega)).1, (sg9_l (n := m) hG hk h1 h2 (Nat.le_refl m)).1]
/-- one left out, in the reference -/
noncomputable def nsW9 (Ps : Nat → Nat → Int) (q hv ed w : Nat) : Nat → Wo → Wo
  | 0, o => o
  | k + 1, o => if k = w then nsW9 Ps q hv ed w k o else (pfF (Ps k) q hv ed 20 (nsW9 Ps q hv ed w k o)).1
theorem ns_sg {Ps : Nat → Nat → Int} {x : Fw} {w : Nat} : ∀ k, k ≤ w → nsW9 Ps x.1 x.2.1 x.2.2.1 w k x.2.2.2 = sg9 Ps x k
  | 0, _ => rfl
  | k + 1, h => by
    rw [nsW9, if_neg (by omega), ns_sg k (by omega)]
    rfl
theorem ns_fn {Ps : Nat → Nat → Int} {q hv ed w : Nat} {o : Wo} : ∀ (d k : Nat), w < k → nsW9 Ps q hv ed w (k + d) o = fnF Ps q hv ed d k (nsW9 Ps q hv ed w k o)
  | 0, _, _ => rfl
  | d + 1, k, h => by
    rw [show k + (d + 1) = (k + 1) + d by omega, ns_fn d (k + 1) (by omega), fnF, nsW9, if_neg (by omega)]
theorem no_ns {Ps : Nat → Nat → Int} {m w : Nat} {x : Fw} (h : w < m) : nsW9 Ps x.1 x.2.1 x.2.2.1 w m x.2.2.2 = noW Ps m w x := by
  have h1 := ns_fn (Ps := Ps) (q := x.1) (hv := x.2.1) (ed := x.2.2.1) (w := w) (o := x.2.2.2) (m - (w + 1)) (w + 1) (Nat.lt_succ_self w)
  rw [show w + 1 + (m - (w + 1)) = m by omega] at h1
  rw [h1, nsW9, if_pos rfl, ns_sg w (Nat.le_refl w)]
  rfl
theorem CS.d4 {M M1 : Mem} {Ps : Nat → Nat → Int} {m rd k : Nat} {x : Fw} {Hs : Nat → Fw} (h : CS M Ps m x rd Hs k) (hF : Fr4 M1 M 143) : CS M1 Ps m x rd Hs k := h.fr (hF.1 22 (by decide) (by decide) (by decide) (by decide)) (fun b a1 a2 => hF.1 b (by omega) (by omega) (by omega) (by omega))
theorem CW.fs {M M1 : Mem} {q hv ed : Nat} {o : Wo} (h : CW M 143 q hv ed o) (hF : FS M1 M) : CW M1 143 q hv ed o := h.fr (hF.1 _ (by decide)) (hF.1 _ (by decide)) (hF.1 _ (by decide))
theorem isDu.fr {M M1 : Mem} {q : Nat} {o : Wo} (h : isDu M q o) (e : M1.1 157 = M.1 157) : isDu M1 q o := fun s hs => by rw [e]; exact h s hs
theorem wdX0_finish_6 : decode cX0_finish 6 = .ok (.iload_n 3, 1) := dX0_finish_6
theorem wdX0_finish_7 : decode cX0_finish 7 = .ok (.aload_n 0, 1) := dX0_finish_7
theorem wdX0_finish_8 : decode cX0_finish 8 = .ok (.getfield 24, 3) := dX0_finish_8
theorem wdX0_finish_11 : decode cX0_finish 11 = .ok (.if_icmp .ge 24, 3) := dX0_finish_11
theorem wdX0_finish_14 : decode cX0_finish 14 = .ok (.aload_n 0, 1) := dX0_finish_14
theorem wdX0_finish_15 : decode cX0_finish 15 = .ok (.getfield 12, 3) := dX0_finish_15
theorem wdX0_finish_18 : decode cX0_finish 18 = .ok (.aload_n 0, 1) := dX0_finish_18
theorem wdX0_finish_19 : decode cX0_finish 19 = .ok (.getfield 20, 3) := dX0_finish_19
theorem wdX0_finish_22 : decode cX0_finish 22 = .ok (.iload_n 3, 1) := dX0_finish_22
theorem wdX0_finish_23 : decode cX0_finish 23 = .ok (.aaload, 1) := dX0_finish_23
theorem wdX0_finish_24 : decode cX0_finish 24 = .ok (.aload_n 1, 1) := dX0_finish_24
theorem wdX0_finish_25 : decode cX0_finish 25 = .ok (.invokevirtual 67, 3) := dX0_finish_25
theorem wdX0_finish_28 : decode cX0_finish 28 = .ok (.pop, 1) := dX0_finish_28
theorem wdX0_finish_29 : decode cX0_finish 29 = .ok (.iinc 3 1, 3) := dX0_finish_29
theorem wdX0_finish_32 : decode cX0_finish 32 = .ok (.goto (-26), 3) := dX0_finish_32
set_option maxRecDepth 4000 in
theorem lp_X0_finish {p : Program} {l : Launch} {e : Env} {s : State} {m : MethodId} {args : Array Value} {below : List Frame} {meth : Method} {c : Code} {D : va_G} {B : Nat} {cy : Nat → ClassId} {H0 : Heap} {Q : State → Prop} {M : Mem} {R : Room} {Ps : Nat → Nat → Int} {mr rd k q hv ed fr9 : Nat} {o o9 : Wo} {Hs : Nat → Fw} (F : CallFix p m c cX0_finish 4 s args TB RX0) (hR1 : 5 ≤ R.frames) (hR2 : 133 ≤ R.locals) (hS : CS M Ps mr (q, hv, ed, o) rd Hs k) (hfr : fr9 ≤ 12) (kk : ∀ (j : Nat) (o1 : Wo) (Nm : Mem) (H : Heap) (locs : List Loc) (ls : Array Slot), (CW Nm 143 q hv ed (fnF Ps q hv ed (mr - fr9) fr9 o9)) → (Fr4 Nm M 143) → Wd D B cy s H0 Nm H locs → lv_has ls 4 [] → W p l e R s m args below meth c H locs 0 0 Q (F0 m 35 ls [])) : ∀ (f : Nat) (j : Nat) (o1 : Wo) (Nm : Mem), (j ≤ mr ∨ j = fr9) → (CW Nm 143 q hv ed o1) → (fnF Ps q hv ed (mr - fr9) fr9 o9 = fnF Ps q hv ed (mr - j) j o1) → (Fr4 Nm M 143) → (mr ≤ j + f) → ∀ (H : Heap) (locs : List Loc) (ls : Array Slot), Wd D B cy s H0 Nm H locs → lv_has ls 4 [(3, .int (zI (j : Int))), (0, .ref (B + 22)), (1, .ref (B + 143)), (2, .int (zI (fr9 : Int)))] → W p l e R s m args below meth c H locs 0 0 Q (F0 m 6 ls []) := by
  have hx := F.1
  have hb := F.2.1
  have hm8 := hS.1.2.1
  intro f
  induction f with
  | zero =>
    intro j o1 Nm i0 i1 i2 i3 hf H locs ls w hl
    refine lv_iload_n hx hb wdX0_finish_6 rfl (lv_at hl 0 rfl) ?_
    refine lv_aload_n hx hb wdX0_finish_7 rfl (lv_at hl 1 rfl) ?_
    refine f_0_2 F w (a := 22) rfl wtb_182 wdX0_finish_8 ?_
    refine r_val (v := (zI (mr : Int))) (((congrFun (i3.1 22 (by omega) (by omega) (by omega) (by omega)) 2).trans hS.1.1)) ?_
    refine z_icmp_ge (tgt := 35) hx hb (by omega) (by omega) wdX0_finish_11 (by decide) (fun c1 => ?_) (fun c1 => False.elim (by omega))
    exact kk j o1 Nm _ _ ls (by rw [i2, fnF_z (by omega)]; exact i1) i3 w (lv_sub hl [] rfl)
  | succ f ih =>
    intro j o1 Nm i0 i1 i2 i3 hf H locs ls w hl
    refine lv_iload_n hx hb wdX0_finish_6 rfl (lv_at hl 0 rfl) ?_
    refine lv_aload_n hx hb wdX0_finish_7 rfl (lv_at hl 1 rfl) ?_
    refine f_0_2 F w (a := 22) rfl wtb_182 wdX0_finish_8 ?_
    refine r_val (v := (zI (mr : Int))) (((congrFun (i3.1 22 (by omega) (by omega) (by omega) (by omega)) 2).trans hS.1.1)) ?_
    refine z_icmp_ge (tgt := 35) hx hb (by omega) (by omega) wdX0_finish_11 (by decide) (fun c1 => ?_) (fun c1 => ?_)
    · exact kk j o1 Nm _ _ ls (by rw [i2, fnF_z (by omega)]; exact i1) i3 w (lv_sub hl [] rfl)
    · refine lv_aload_n hx hb wdX0_finish_14 rfl (lv_at hl 1 rfl) ?_
      refine f_0_0 F w (a := 22) rfl wtb_189 wdX0_finish_15 ?_
      refine lv_aload_n hx hb wdX0_finish_18 rfl (lv_at hl 1 rfl) ?_
      refine f_0_1 F w (a := 22) rfl wtb_190 wdX0_finish_19 ?_
      refine lv_iload_n hx hb wdX0_finish_22 rfl (lv_at hl 0 rfl) ?_
      refine g_aldR F w (a := 24) rfl (j := j) (o := (28 + 2 * j)) rfl (ix_n (by omega)) (by omega) wdX0_finish_23 ?_
      refine lv_aload_n hx hb wdX0_finish_24 rfl (lv_at hl 2 rfl) ?_
      refine k_Vi F w (As := [.ref (B + (28 + 2 * j)), .ref (B + 143)]) (rest := []) (a := 23) (kd_lt (a := 23) (show kd 23 = (1, 0, 0) from rfl) (by decide)) (sh_1 rfl _ _) rfl (s_X1_perform (a := 143) rfl i1 (ru := 28 + 2 * j) (kd_lst (by omega)) ((hS.1.2.2 j (by omega)).1.fr (i3.1 _ (by omega) (by omega) (by omega) (by omega))) (hS.1.2.2 j (by omega)).2) wgv_X0_67 whv_X1_perform ⟨(by omega), (by omega)⟩ hl.1 rfl (Nat.le_of_ble_eq_true rfl) ⟨Nat.zero_le _, Nat.zero_le _⟩ wdX0_finish_25 (fun r Ma2 H locs hp w => ?_)
      rcases hp with ⟨o2, dd, pp, e2, rfl, hC3, hF3, hpp, hdd, hp20⟩
      refine lv_pop hx hb wdX0_finish_28 rfl ?_
      refine z_iinc (v := (((j + 1) : Nat) : Int)) (lv' := [(3, .int (zI (((j + 1) : Nat) : Int))), (0, .ref (B + 22)), (1, .ref (B + 143)), (2, .int (zI (fr9 : Int)))]) hx hb wdX0_finish_29 hl (k := 0) rfl (by omega) (by decide) rfl (fun ls hl => ?_)
      refine lv_goto (tgt := 6) hx hb wdX0_finish_32 (by decide) ?_
      exact ih (j + 1) o2 Ma2 (by omega) hC3 (i2.trans (fnF_s (by omega) e2)) (Fr4.tr i3 hF3) (by omega) _ _ ls w (lv_sub hl [0, 1, 2, 3] rfl)
theorem wdX0_finish_0 : decode cX0_finish 0 = .ok (.iconst 0, 1) := dX0_finish_0
theorem wdX0_finish_1 : decode cX0_finish 1 = .ok (.iload_n 2, 1) := dX0_finish_1
theorem wdX0_finish_2 : decode cX0_finish 2 = .ok (.invokestatic 73, 3) := dX0_finish_2
theorem wtb_421 : Cond.methodLink "ToneLines$Derivation" 73 yJ9_max_7cf53 ∈ TB := tb_201
theorem wdX0_finish_5 : decode cX0_finish 5 = .ok (.istore_n 3, 1) := dX0_finish_5
theorem wdX0_finish_35 : decode cX0_finish 35 = .ok (.return_, 1) := dX0_finish_35
set_option maxRecDepth 4000 in
theorem h_finish {l : Launch} {D : va_G} {B : Nat} {cy : Nat → ClassId} {M : Mem} {Ps : Nat → Nat → Int} {mr rd k q hv ed : Nat} {o : Wo} {Hs : Nat → Fw} (hS : CS M Ps mr (q, hv, ed, o) rd Hs k) {fr9 : Nat} {o9 : Wo} (hfr : fr9 ≤ 12) (hC9 : CW M 143 q hv ed o9) : Cv l D B cy yX0_finish cX0_finish 4 5 133 [.ref (B + 22), .ref (B + 143), .int (zI (fr9 : Int))] M (fun M1 => CW M1 143 q hv ed (fnF Ps q hv ed (mr - fr9) fr9 o9) ∧ Fr4 M1 M 143) := by
  refine s_any (by decide) (Nat.le_of_ble_eq_true rfl) ?_
  intro p e s m below meth c ls F hr hlocks w hl
  have F : CallFix p m c cX0_finish 4 s _ TB RX0 := F
  have hx := F.1
  have hb := F.2.1
  have hl : lv_has ls 4 [(0, .ref (B + 22)), (1, .ref (B + 143)), (2, .int (zI (fr9 : Int)))] := hl
  have hm8 := hS.1.2.1
  refine lv_iconst (v := zI 0) hx hb wdX0_finish_0 rfl ?_
  refine lv_iload_n hx hb wdX0_finish_1 rfl (lv_at hl 2 rfl) ?_
  refine g_max F hl.1 wtb_421 wtb_38 wtb_39 wtq_max (Nat.le_of_ble_eq_true rfl) (Nat.le_of_ble_eq_true rfl) (Nat.zero_le _) (Nat.zero_le _) (v := (zI (fr9 : Int))) (max_z0 (by constructor <;> omega) (by omega)) wdX0_finish_2 ?_
  refine lv_istore_n (lv' := [(3, .int (zI (fr9 : Int))), (0, .ref (B + 22)), (1, .ref (B + 143)), (2, .int (zI (fr9 : Int)))]) hx hb wdX0_finish_5 rfl hl (by decide) rfl (fun ls hl => ?_)
  refine lp_X0_finish  F (Nat.le_of_ble_eq_true rfl) (Nat.le_of_ble_eq_true rfl) hS hfr (fun j o1 Nm H locs ls x0 x1 w hl => ?_) mr fr9 o9 M (Or.inr rfl) hC9 rfl Fr4.rf (by omega) _ _ ls w (lv_sub hl [0, 1, 2, 3] rfl)
  exact e_v F w hr hlocks ⟨x0, x1⟩ wdX0_finish_35
theorem wtk_X0_finish : Cond.code yX0_finish cX0_finish 4 none ∈ TB := tk_X0_finish
theorem wgc_X0_finish : GoodIn TB (cw yX0_finish cX0_finish 4 none) := goodIn_c2 wtk_X0_finish
theorem wtb_422 : Cond.methodLink "ToneLines" 264 yX0_finish ∈ TB := tb_376
theorem wtb_423 : Cond.instanceMethod yX0_finish ∈ TB := tb_377
theorem wtb_424 : Cond.selects "ToneLines$Derivation" yX0_finish yX0_finish ∈ TB := tb_378
theorem wgv_X11_264 : GoodIn TB (wsV RX11 264 RX0 yX0_finish (cw yX0_finish cX0_finish 4 none)) := goodIn_4 wtb_422 wtb_423 wtb_424 wtb_199 wgc_X0_finish
theorem whv_X0_finish : yX0_finish.cls = RX0 ∧ yX0_finish.cls ≠ "java/lang/invoke/MethodHandle" ∧ yX0_finish.cls ≠ "java/lang/invoke/VarHandle" ∧ (parseMethodDescriptor yX0_finish.desc).map (fun d => d.parameters.length) = some 2 := hv_X0_finish
theorem wtk_X9_isReadAs : Cond.code yX9_isReadAs cX9_isReadAs 2 (some .boolean) ∈ TB := tk_X9_isReadAs
theorem wgc_X9_isReadAs : GoodIn TB (cw yX9_isReadAs cX9_isReadAs 2 (some .boolean)) := goodIn_c2 wtk_X9_isReadAs
theorem wtb_425 : Cond.methodLink "ToneLines" 267 yX9_isReadAs ∈ TB := tb_380
theorem wtb_426 : Cond.instanceMethod yX9_isReadAs ∈ TB := tb_381
theorem wtb_427 : Cond.selects "ToneLines$Word" yX9_isReadAs yX9_isReadAs ∈ TB := tb_382
theorem wgv_X11_267 : GoodIn TB (wsV RX11 267 RX9 yX9_isReadAs (cw yX9_isReadAs cX9_isReadAs 2 (some .boolean))) := goodIn_4 wtb_425 wtb_426 wtb_427 wtb_3 wgc_X9_isReadAs
theorem whv_X9_isReadAs : yX9_isReadAs.cls = RX9 ∧ yX9_isReadAs.cls ≠ "java/lang/invoke/MethodHandle" ∧ yX9_isReadAs.cls ≠ "java/lang/invoke/VarHandle" ∧ (parseMethodDescriptor yX9_isReadAs.desc).map (fun d => d.parameters.length) = some 1 := hv_X9_isReadAs
theorem wdX11_needed_19 : decode cX11_needed 19 = .ok (.iload_n 3, 1) := dX11_needed_19
theorem wdX11_needed_20 : decode cX11_needed 20 = .ok (.aload_n 0, 1) := dX11_needed_20
theorem wdX11_needed_21 : decode cX11_needed 21 = .ok (.getfield 35, 3) := dX11_needed_21
theorem wdX11_needed_24 : decode cX11_needed 24 = .ok (.getfield 118, 3) := dX11_needed_24
theorem wdX11_needed_27 : decode cX11_needed 27 = .ok (.if_icmp .ge 55, 3) := dX11_needed_27
theorem wdX11_needed_30 : decode cX11_needed 30 = .ok (.aload_n 0, 1) := dX11_needed_30
theorem wdX11_needed_31 : decode cX11_needed 31 = .ok (.getfield 75, 3) := dX11_needed_31
theorem wdX11_needed_34 : decode cX11_needed 34 = .ok (.aload_n 0, 1) := dX11_needed_34
theorem wdX11_needed_35 : decode cX11_needed 35 = .ok (.getfield 35, 3) := dX11_needed_35
theorem wdX11_needed_38 : decode cX11_needed 38 = .ok (.iload_n 3, 1) := dX11_needed_38
theorem wdX11_needed_39 : decode cX11_needed 39 = .ok (.invokevirtual 196, 3) := dX11_needed_39
theorem wdX11_needed_42 : decode cX11_needed 42 = .ok (.invokevirtual 90, 3) := dX11_needed_42
theorem wdX11_needed_45 : decode cX11_needed 45 = .ok (.aload_n 0, 1) := dX11_needed_45
theorem wdX11_needed_46 : decode cX11_needed 46 = .ok (.getfield 35, 3) := dX11_needed_46
theorem wdX11_needed_49 : decode cX11_needed 49 = .ok (.aload_n 0, 1) := dX11_needed_49
theorem wdX11_needed_50 : decode cX11_needed 50 = .ok (.getfield 75, 3) := dX11_needed_50
theorem wdX11_needed_53 : decode cX11_needed 53 = .ok (.iload_n 3, 1) := dX11_needed_53
theorem wdX11_needed_54 : decode cX11_needed 54 = .ok (.iconst 1, 1) := dX11_needed_54
theorem wdX11_needed_55 : decode cX11_needed 55 = .ok (.iadd, 1) := dX11_needed_55
theorem wdX11_needed_56 : decode cX11_needed 56 = .ok (.invokevirtual 264, 3) := dX11_needed_56
theorem wdX11_needed_59 : decode cX11_needed 59 = .ok (.aload_n 0, 1) := dX11_needed_59
theorem wdX11_needed_60 : decode cX11_needed 60 = .ok (.getfield 75, 3) := dX11_needed_60
theorem wdX11_needed_63 : decode cX11_needed 63 = .ok (.aload_n 2, 1) := dX11_needed_63
theorem wdX11_needed_64 : decode cX11_needed 64 = .ok (.invokevirtual 267, 3) := dX11_needed_64
theorem wdX11_needed_67 : decode cX11_needed 67 = .ok (.ifCond .ne 9, 3) := dX11_needed_67
theorem wdX11_needed_76 : decode cX11_needed 76 = .ok (.iinc 3 1, 3) := dX11_needed_76
theorem wdX11_needed_79 : decode cX11_needed 79 = .ok (.goto (-60), 3) := dX11_needed_79
theorem wdX11_needed_70 : decode cX11_needed 70 = .ok (.iload_n 1, 1) := dX11_needed_70
theorem wdX11_needed_71 : decode cX11_needed 71 = .ok (.iconst 1, 1) := dX11_needed_71
theorem wdX11_needed_72 : decode cX11_needed 72 = .ok (.iload_n 3, 1) := dX11_needed_72
theorem wdX11_needed_73 : decode cX11_needed 73 = .ok (.ishl, 1) := dX11_needed_73
theorem wdX11_needed_74 : decode cX11_needed 74 = .ok (.ior, 1) := dX11_needed_74
theorem wdX11_needed_75 : decode cX11_needed 75 = .ok (.istore_n 1, 1) := dX11_needed_75
set_option maxRecDepth 4000 in
theorem lp_X11_needed {p : Program} {l : Launch} {e : Env} {s : State} {m : MethodId} {args : Array Value} {below : List Frame} {meth : Method} {c : Code} {D : va_G} {B : Nat} {cy : Nat → ClassId} {H0 : Heap} {Q : State → Prop} {M : Mem} {R : Room} {Ps : Nat → Nat → Int} {mr rd k q hv ed : Nat} {o : Wo} {Hs : Nat → Fw} (F : CallFix p m c cX11_needed 4 s args TB RX11) (hR1 : 6 ≤ R.frames) (hR2 : 156 ≤ R.locals) (hS : CS M Ps mr (q, hv, ed, o) rd Hs k) (hn9 : ncW o) (kk : ∀ (r : Nat) (rdx : Nat) (Nm : Mem) (H : Heap) (locs : List Loc) (ls : Array Slot), (r = mr) → Wd D B cy s H0 Nm H locs → lv_has ls 4 [(1, .int (zI (((ndF Ps mr (q, hv, ed, o) r) : Nat) : Int)))] → W p l e R s m args below meth c H locs 0 0 Q (F0 m 82 ls [])) : ∀ (f : Nat) (r : Nat) (rdx : Nat) (Nm : Mem), (r ≤ mr) → (CS Nm Ps mr (q, hv, ed, o) rdx Hs k) → (mr ≤ rdx) → (mr ≤ r + f) → ∀ (H : Heap) (locs : List Loc) (ls : Array Slot), Wd D B cy s H0 Nm H locs → lv_has ls 4 [(3, .int (zI (r : Int))), (2, .ref (B + (44 + 3 * mr))), (1, .int (zI (((ndF Ps mr (q, hv, ed, o) r) : Nat) : Int))), (0, .ref (B + 0))] → W p l e R s m args below meth c H locs 0 0 Q (F0 m 19 ls []) := by
  have hx := F.1
  have hb := F.2.1
  have hm8 := hS.1.2.1
  have hncx : ∀ r, r < mr → ncW (noW Ps mr r (q, hv, ed, o)) := fun r hr => nc_fnF (fun j hj => (hS.1.2.2 j hj).2) _ _ _ (by omega) (nc_dvF hn9 r (fun j hj => (hS.1.2.2 j (by omega)).2))
  have hncm : ncW (sg9 Ps (q, hv, ed, o) mr) := nc_dvF hn9 mr (fun j hj => (hS.1.2.2 j hj).2)
  intro f
  induction f with
  | zero =>
    intro r rdx Nm i0 i1 i2 hf H locs ls w hl
    have hnl := nd_le (Ps := Ps) (m := mr) (x := (q, hv, ed, o)) (r := r) (by omega)
    refine lv_iload_n hx hb wdX11_needed_19 rfl (lv_at hl 0 rfl) ?_
    refine lv_aload_n hx hb wdX11_needed_20 rfl (lv_at hl 3 rfl) ?_
    refine f_11_3 F w (a := 0) rfl wtb_207 wdX11_needed_21 ?_
    refine f_0_2 F w (a := 22) rfl wtb_368 wdX11_needed_24 ?_
    refine r_val (v := (zI (mr : Int))) (i1.1.1) ?_
    refine z_icmp_ge (tgt := 82) hx hb (by omega) (by omega) wdX11_needed_27 (by decide) (fun c1 => ?_) (fun c1 => False.elim (by omega))
    exact kk r rdx Nm _ _ ls (by omega) w (lv_sub hl [2] rfl)
  | succ f ih =>
    intro r rdx Nm i0 i1 i2 hf H locs ls w hl
    have hnl := nd_le (Ps := Ps) (m := mr) (x := (q, hv, ed, o)) (r := r) (by omega)
    refine lv_iload_n hx hb wdX11_needed_19 rfl (lv_at hl 0 rfl) ?_
    refine lv_aload_n hx hb wdX11_needed_20 rfl (lv_at hl 3 rfl) ?_
    refine f_11_3 F w (a := 0) rfl wtb_207 wdX11_needed_21 ?_
    refine f_0_2 F w (a := 22) rfl wtb_368 wdX11_needed_24 ?_
    refine r_val (v := (zI (mr : Int))) (i1.1.1) ?_
    refine z_icmp_ge (tgt := 82) hx hb (by omega) (by omega) wdX11_needed_27 (by decide) (fun c1 => ?_) (fun c1 => ?_)
    · exact kk r rdx Nm _ _ ls (by omega) w (lv_sub hl [2] rfl)
    · refine lv_aload_n hx hb wdX11_needed_30 rfl (lv_at hl 3 rfl) ?_
      refine f_11_9 F w (a := 0) rfl wtb_261 wdX11_needed_31 ?_
      refine lv_aload_n hx hb wdX11_needed_34 rfl (lv_at hl 3 rfl) ?_
      refine f_11_3 F w (a := 0) rfl wtb_207 wdX11_needed_35 ?_
      refine lv_iload_n hx hb wdX11_needed_38 rfl (lv_at hl 0 rfl) ?_
      refine k_Vr F w (As := [.int (zI (r : Int))]) (rest := [.ref (B + 143)]) (a := 22) (kd_lt (a := 22) (show kd 22 = (0, 0, 0) from rfl) (by decide)) (sh_0 rfl _ _) rfl (g_stageOf i1 (n9 := r) (by omega)) wgv_X11_196 whv_X0_stageOf ⟨(by omega), (by omega)⟩ hl.1 rfl (Nat.le_of_ble_eq_true rfl) ⟨Nat.zero_le _, Nat.zero_le _⟩ wdX11_needed_39 (fun r Ma2 H locs hp w => ?_)
      rcases hp with ⟨rfl, rd2, hn2, hr2, hS2, _⟩
      have hC1 : CW Ma2 (44 + 3 * r) q hv ed (sg9 Ps (q, hv, ed, o) r) := hS2.2.1.2.2.1 r (by omega)
      refine k_Vv F w (As := [.ref (B + (44 + 3 * r))]) (rest := []) (a := 143) (kd_lt (a := 143) (show kd 143 = (9, 0, 0) from rfl) (by decide)) (sh_9 rfl _ _) rfl (s_X9_copyFrom (a := 143) rfl (b := 44 + 3 * r) (kd_sg (by omega)) hC1.1 (by omega) hC1.2.1.1) wgv_X11_90 whv_X9_copyFrom ⟨(by omega), (by omega)⟩ hl.1 rfl (Nat.le_of_ble_eq_true rfl) ⟨Nat.zero_le _, Nat.zero_le _⟩ wdX11_needed_42 (fun Ma3 H locs hp w => ?_)
      rcases hp with ⟨hW3, hF3⟩
      have hC3 : CW Ma3 143 q hv ed (sg9 Ps (q, hv, ed, o) r) := ⟨hW3, hC1.2⟩
      have hS3 := hS2.d4 (Fr4.of3 hF3)
      refine lv_aload_n hx hb wdX11_needed_45 rfl (lv_at hl 3 rfl) ?_
      refine f_11_3 F w (a := 0) rfl wtb_207 wdX11_needed_46 ?_
      refine lv_aload_n hx hb wdX11_needed_49 rfl (lv_at hl 3 rfl) ?_
      refine f_11_9 F w (a := 0) rfl wtb_261 wdX11_needed_50 ?_
      refine lv_iload_n hx hb wdX11_needed_53 rfl (lv_at hl 0 rfl) ?_
      refine lv_iconst (v := zI 1) hx hb wdX11_needed_54 rfl ?_
      refine z_iadd (z := (((r + 1) : Nat) : Int)) hx hb wdX11_needed_55 (by omega) ?_
      refine k_Vv F w (As := [.ref (B + 143), .int (zI (((r + 1) : Nat) : Int))]) (rest := []) (a := 22) (kd_lt (a := 22) (show kd 22 = (0, 0, 0) from rfl) (by decide)) (sh_0 rfl _ _) rfl (h_finish hS3 (fr9 := r + 1) (by omega) hC3) wgv_X11_264 whv_X0_finish ⟨(by omega), (by omega)⟩ hl.1 rfl (Nat.le_of_ble_eq_true rfl) ⟨Nat.zero_le _, Nat.zero_le _⟩ wdX11_needed_56 (fun Ma4 H locs hp w => ?_)
      rcases hp with ⟨hC4, hF4⟩
      have hS4 := hS3.d4 hF4
      have hCw : CW Ma4 (44 + 3 * mr) q hv ed (sg9 Ps (q, hv, ed, o) mr) := hS4.2.1.2.2.1 mr (by omega)
      refine lv_aload_n hx hb wdX11_needed_59 rfl (lv_at hl 3 rfl) ?_
      refine f_11_9 F w (a := 0) rfl wtb_261 wdX11_needed_60 ?_
      refine lv_aload_n hx hb wdX11_needed_63 rfl (lv_at hl 1 rfl) ?_
      refine k_Vi F w (As := [.ref (B + (44 + 3 * mr))]) (rest := []) (a := 143) (kd_lt (a := 143) (show kd 143 = (9, 0, 0) from rfl) (by decide)) (sh_9 rfl _ _) rfl (h_isReadAs (a := 143) (b := 44 + 3 * mr) rfl hC4 (kd_sg (by omega)) hCw (hncx r (by omega)) hncm) wgv_X11_267 whv_X9_isReadAs ⟨(by omega), (by omega)⟩ hl.1 rfl (Nat.le_of_ble_eq_true rfl) ⟨Nat.zero_le _, Nat.zero_le _⟩ wdX11_needed_64 (fun r Ma5 H locs hp w => ?_)
      rcases hp with ⟨⟨hra, rfl⟩ | ⟨hra, rfl⟩, hMe⟩
      · rw [hMe] at w
        refine z_if_ne (tgt := 76) hx hb (by omega) wdX11_needed_67 (by decide) (fun c6 => ?_) (fun c6 => False.elim (by omega))
        refine z_iinc (v := (((r + 1) : Nat) : Int)) (lv' := [(3, .int (zI (((r + 1) : Nat) : Int))), (2, .ref (B + (44 + 3 * mr))), (1, .int (zI (((ndF Ps mr (q, hv, ed, o) r) : Nat) : Int))), (0, .ref (B + 0))]) hx hb wdX11_needed_76 hl (k := 0) rfl (by omega) (by decide) rfl (fun ls hl => ?_)
        refine lv_goto (tgt := 19) hx hb wdX11_needed_79 (by decide) ?_
        replace hl : lv_has ls 4 [(3, .int (zI (((r + 1) : Nat) : Int))), (2, .ref (B + (44 + 3 * mr))), (1, .int (zI (((ndF Ps mr (q, hv, ed, o) (r + 1)) : Nat) : Int))), (0, .ref (B + 0))] := by rw [nd_y (by exact hra)]; exact hl
        exact ih (r + 1) rd2 Ma4 (by omega) hS4 (by omega) (by omega) _ _ ls w (lv_sub hl [0, 1, 2, 3] rfl)
      · rw [hMe] at w
        refine z_if_ne (tgt := 76) hx hb (by omega) wdX11_needed_67 (by decide) (fun c7 => False.elim (by omega)) (fun c7 => ?_)
        refine lv_iload_n hx hb wdX11_needed_70 rfl (lv_at hl 2 rfl) ?_
        refine lv_iconst (v := zI 1) hx hb wdX11_needed_71 rfl ?_
        refine lv_iload_n hx hb wdX11_needed_72 rfl (lv_at hl 0 rfl) ?_
        refine lv_ishl hx hb wdX11_needed_73 ?_
        refine r_val (v := (zI (((2 ^ r) : Nat) : Int))) (zb_shl (n := r) (by omega)) ?_
        have q8 := p2_b (n := r) (by omega)
        refine lv_ior hx hb wdX11_needed_74 ?_
        refine r_val (v := (zI ((((ndF Ps mr (q, hv, ed, o) r) ||| (2 ^ r)) : Nat) : Int))) (zb_or (ndF Ps mr (q, hv, ed, o) r) (2 ^ r)) ?_
        have q9 := or_lt12 (a := (ndF Ps mr (q, hv, ed, o) r)) (b := (2 ^ r)) (by omega) (by omega)
        refine lv_istore_n (lv' := [(1, .int (zI ((((ndF Ps mr (q, hv, ed, o) r) ||| (2 ^ r)) : Nat) : Int))), (3, .int (zI (r : Int))), (2, .ref (B + (44 + 3 * mr))), (0, .ref (B + 0))]) hx hb wdX11_needed_75 rfl hl (by decide) rfl (fun ls hl => ?_)
        refine z_iinc (v := (((r + 1) : Nat) : Int)) (lv' := [(3, .int (zI (((r + 1) : Nat) : Int))), (1, .int (zI ((((ndF Ps mr (q, hv, ed, o) r) ||| (2 ^ r)) : Nat) : Int))), (2, .ref (B + (44 + 3 * mr))), (0, .ref (B + 0))]) hx hb wdX11_needed_76 hl (k := 1) rfl (by omega) (by decide) rfl (fun ls hl => ?_)
        refine lv_goto (tgt := 19) hx hb wdX11_needed_79 (by decide) ?_
        replace hl : lv_has ls 4 [(3, .int (zI (((r + 1) : Nat) : Int))), (1, .int (zI (((ndF Ps mr (q, hv, ed, o) (r + 1)) : Nat) : Int))), (2, .ref (B + (44 + 3 * mr))), (0, .ref (B + 0))] := by rw [nd_n (by exact hra)]; exact hl
        exact ih (r + 1) rd2 Ma4 (by omega) hS4 (by omega) (by omega) _ _ ls w (lv_sub hl [0, 2, 1, 3] rfl)
theorem wdX11_needed_0 : decode cX11_needed 0 = .ok (.iconst 0, 1) := dX11_needed_0
theorem wdX11_needed_1 : decode cX11_needed 1 = .ok (.istore_n 1, 1) := dX11_needed_1
theorem wdX11_needed_2 : decode cX11_needed 2 = .ok (.aload_n 0, 1) := dX11_needed_2
theorem wdX11_needed_3 : decode cX11_needed 3 = .ok (.getfield 35, 3) := dX11_needed_3
theorem wdX11_needed_6 : decode cX11_needed 6 = .ok (.aload_n 0, 1) := dX11_needed_6
theorem wdX11_needed_7 : decode cX11_needed 7 = .ok (.getfield 35, 3) := dX11_needed_7
theorem wdX11_needed_10 : decode cX11_needed 10 = .ok (.getfield 118, 3) := dX11_needed_10
theorem wdX11_needed_13 : decode cX11_needed 13 = .ok (.invokevirtual 196, 3) := dX11_needed_13
theorem wdX11_needed_16 : decode cX11_needed 16 = .ok (.astore_n 2, 1) := dX11_needed_16
theorem wdX11_needed_17 : decode cX11_needed 17 = .ok (.iconst 0, 1) := dX11_needed_17
theorem wdX11_needed_18 : decode cX11_needed 18 = .ok (.istore_n 3, 1) := dX11_needed_18
theorem wdX11_needed_82 : decode cX11_needed 82 = .ok (.iload_n 1, 1) := dX11_needed_82
theorem wdX11_needed_83 : decode cX11_needed 83 = .ok (.ireturn, 1) := dX11_needed_83
set_option maxRecDepth 4000 in
theorem h_needed {l : Launch} {D : va_G} {B : Nat} {cy : Nat → ClassId} {M : Mem} {Ps : Nat → Nat → Int} {mr rd k q hv ed : Nat} {o : Wo} {Hs : Nat → Fw} (hS : CS M Ps mr (q, hv, ed, o) rd Hs k) (hn9 : ncW o) : Ci l D B cy yX11_needed cX11_needed 4 (some .int) 6 156 [.ref (B + 0)] M (fun r M1 => r = zI ((ndF Ps mr (q, hv, ed, o) mr : Nat) : Int)) := by
  refine s_any (by decide) (Nat.le_of_ble_eq_true rfl) ?_
  intro p e s m below meth c ls F hr hlocks w hl
  have F : CallFix p m c cX11_needed 4 s _ TB RX11 := F
  have hx := F.1
  have hb := F.2.1
  have hl : lv_has ls 4 [(0, .ref (B + 0))] := hl
  have hm8 := hS.1.2.1
  have hC : CW M 44 q hv ed o := hS.t
  have hW : isW M 44 o.1 q hv ed o.2.1 o.2.2 := hC.1
  have hwf := hC.wf
  have hKL := hwf.2.2.2.2
  have hn12 := hwf.1
  have hq12 := hwf.2.1
  have hhv := hwf.2.2.1
  have hed := hwf.2.2.2.1
  have hnl := nd_le (Ps := Ps) (m := mr) (x := (q, hv, ed, o)) (r := mr) (by omega)
  refine lv_iconst (v := zI 0) hx hb wdX11_needed_0 rfl ?_
  refine lv_istore_n (lv' := [(1, .int (zI 0)), (0, .ref (B + 0))]) hx hb wdX11_needed_1 rfl hl (by decide) rfl (fun ls hl => ?_)
  refine lv_aload_n hx hb wdX11_needed_2 rfl (lv_at hl 1 rfl) ?_
  refine f_11_3 F w (a := 0) rfl wtb_207 wdX11_needed_3 ?_
  refine lv_aload_n hx hb wdX11_needed_6 rfl (lv_at hl 1 rfl) ?_
  refine f_11_3 F w (a := 0) rfl wtb_207 wdX11_needed_7 ?_
  refine f_0_2 F w (a := 22) rfl wtb_368 wdX11_needed_10 ?_
  refine r_val (v := (zI (mr : Int))) (hS.1.1) ?_
  refine k_Vr F w (As := [.int (zI (mr : Int))]) (rest := []) (a := 22) (kd_lt (a := 22) (show kd 22 = (0, 0, 0) from rfl) (by decide)) (sh_0 rfl _ _) rfl (g_stageOf hS (n9 := mr) (by omega)) wgv_X11_196 whv_X0_stageOf ⟨(Nat.le_of_ble_eq_true rfl), (Nat.le_of_ble_eq_true rfl)⟩ hl.1 rfl (Nat.le_of_ble_eq_true rfl) ⟨Nat.zero_le _, Nat.zero_le _⟩ wdX11_needed_13 (fun r Ma1 H locs hp w => ?_)
  rcases hp with ⟨rfl, rd1, hnr, _, hS1, _⟩
  refine lv_astore_n (lv' := [(2, .ref (B + (44 + 3 * mr))), (1, .int (zI 0)), (0, .ref (B + 0))]) hx hb wdX11_needed_16 rfl hl (by decide) rfl (fun ls hl => ?_)
  refine lv_iconst (v := zI 0) hx hb wdX11_needed_17 rfl ?_
  refine lv_istore_n (lv' := [(3, .int (zI 0)), (2, .ref (B + (44 + 3 * mr))), (1, .int (zI 0)), (0, .ref (B + 0))]) hx hb wdX11_needed_18 rfl hl (by decide) rfl (fun ls hl => ?_)
  refine lp_X11_needed  F (Nat.le_of_ble_eq_true rfl) (Nat.le_of_ble_eq_true rfl) hS hn9 (fun r rdx Nm H locs ls x0 w hl => ?_) mr 0 rd1 Ma1 (by omega) hS1 hnr (by omega) _ _ ls w (lv_sub hl [0, 1, 2, 3] rfl)
  rw [x0] at hl
  refine lv_iload_n hx hb wdX11_needed_82 rfl (lv_at hl 0 rfl) ?_
  exact e_i F w hr hlocks rfl wdX11_needed_83
