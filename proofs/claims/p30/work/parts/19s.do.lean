-- calls by hand
noncomputable def acI (c : Prop) (y : Fw) : Option Fw := @ite (Option Fw) c (Classical.propDecidable _) (some y) none
theorem acI_y {c : Prop} {y : Fw} (h : c) : acI c y = some y := by unfold acI; exact @if_pos _ (Classical.propDecidable _) h _ _ _
theorem acI_n {c : Prop} {y : Fw} (h : ¬ c) : acI c y = none := by unfold acI; exact @if_neg _ (Classical.propDecidable _) h _ _ _
noncomputable def acLine (t u : Int) (x : Fw) : Option Fw := acI (∃ i j : Nat, t = (i : Int) ∧ u = (j : Int) ∧ i < x.2.2.2.1 ∧ j < x.1 ∧ openP x.2.2.2.1 x.2.2.2.2.2 i j) (x.1, x.2.1, x.2.2.1, (x.2.2.2.1, x.2.2.2.2.1, updF x.2.2.2.2.2 t.toNat (x.2.2.2.2.2 t.toNat ||| 2 ^ u.toNat)))
noncomputable def acCut (t u : Int) (x : Fw) : Option Fw := acI (∃ i j : Nat, t = (i : Int) ∧ u = (j : Int) ∧ i < x.2.2.2.1 ∧ j < x.1 ∧ (x.2.2.2.2.2 i).testBit j = true) (x.1, x.2.1, x.2.2.1, (x.2.2.2.1, x.2.2.2.2.1, updF x.2.2.2.2.2 t.toNat (andn (x.2.2.2.2.2 t.toNat) (2 ^ u.toNat))))
noncomputable def acTone (t u : Int) (x : Fw) : Option Fw := acI (0 ≤ t ∧ t ≤ (x.2.2.2.1 : Int) ∧ x.2.2.2.1 < 12 ∧ 0 ≤ u ∧ u ≤ 2) (x.1, x.2.1, x.2.2.1, (x.2.2.2.1 + 1, insF x.2.2.2.2.1 t.toNat u.toNat, insF x.2.2.2.2.2 t.toNat 0))
noncomputable def acHush (t : Int) (x : Fw) : Option Fw := acI (0 ≤ t ∧ t < (x.2.2.2.1 : Int)) (x.1, x.2.1, x.2.2.1, (x.2.2.2.1 - 1, remF x.2.2.2.2.1 t.toNat, remF x.2.2.2.2.2 t.toNat))
noncomputable def acTurn (t u : Int) (x : Fw) : Option Fw := acI (0 ≤ t ∧ t < (x.2.2.2.1 : Int) ∧ 0 ≤ u ∧ u ≤ 2 ∧ (x.2.2.2.2.1 t.toNat : Int) ≠ u) (x.1, x.2.1, x.2.2.1, (x.2.2.2.1, updF x.2.2.2.2.1 t.toNat u.toNat, x.2.2.2.2.2))
noncomputable def acGrow (h e : Nat) (x : Fw) : Option Fw := acI (x.1 < 12) (x.1 + 1, sbit x.2.1 x.1 h, sbit x.2.2.1 x.1 e, x.2.2.2)
def shL (q : Nat) (L : Nat → Nat) : Nat → Nat := fun t => andn (L t) (2 ^ q)
noncomputable def acShrink (x : Fw) : Option Fw := acI (0 < x.1) (x.1 - 1, x.2.1, x.2.2.1, (x.2.2.2.1, x.2.2.2.2.1, shL (x.1 - 1) x.2.2.2.2.2))
noncomputable def acMark (u : Int) (h e : Nat) (x : Fw) : Option Fw := acI (0 ≤ u ∧ u < (x.1 : Int) ∧ ¬ (tb x.2.1 u.toNat = h ∧ tb x.2.2.1 u.toNat = e)) (x.1, sbit x.2.1 u.toNat h, sbit x.2.2.1 u.toNat e, x.2.2.2)
def AQ (Ps : Nat → Nat → Int) (m : Nat) (Hs : Nat → Fw) (k : Nat) (x : Fw) (y : Option Fw) (ry rn : Int) (M : Mem) (r : Int32) (M1 : Mem) : Prop := (∃ z, y = some z ∧ r = zI ry ∧ CS M1 Ps m z 0 (phH Hs k x) (phK k) ∧ FA M1 M) ∨ (y = none ∧ r = zI rn ∧ M1 = M)
/-- the first j tones have lost their line to a syllable -/
def shJ (q j : Nat) (L : Nat → Nat) : Nat → Nat := fun t => if t < j then andn (L t) (2 ^ q) else L t
theorem shJ_s {q j : Nat} {L : Nat → Nat} : updF (shJ q j L) j (andn (shJ q j L j) (2 ^ q)) = shJ q (j + 1) L := by
  funext t
  unfold updF shJ
  by_cases h : t = j
  · subst h
    rw [if_pos rfl, if_neg (Nat.lt_irrefl t), if_pos (by omega)]
  · rw [if_neg h]
    by_cases h1 : t < j
    · rw [if_pos h1, if_pos (by omega)]
    · rw [if_neg h1, if_neg (by omega)]
theorem shJ_lt {q j t : Nat} {L : Nat → Nat} (h : L t < 4096) : shJ q j L t < 4096 := by
  unfold shJ
  by_cases h1 : t < j
  · rw [if_pos h1]; have := andn_le (L t) (2 ^ q); omega
  · rw [if_neg h1]; exact h
theorem wf_shJ {n q q2 hv ed j : Nat} {K L : Nat → Nat} (h : wf n q hv ed K L) (hq : q2 ≤ 12) : wf n q2 hv ed K (shJ q2 j L) := ⟨h.1, hq, h.2.2.1, h.2.2.2.1, fun k hk => ⟨(h.2.2.2.2 k hk).1, shJ_lt (h.2.2.2.2 k hk).2⟩⟩
theorem isW.syl {M : Mem} {a n q hv ed : Nat} {K L : Nat → Nat} {y : Nat} (h : isW M a n q hv ed K L) : isW (st M a 1 (zI (y : Int))) a n y hv ed K L := ⟨by simp [st, sA, upd, h.1], by simp [st, sA, upd], by simp [st, sA, upd, h.2.2.1], by simp [st, sA, upd, h.2.2.2.1], fun k hk => by simp [st, sA, upd, h.2.2.2.2.1 k hk], fun k hk => by simp [st, sA, upd, h.2.2.2.2.2 k hk]⟩
theorem Fr3.a1 {M : Mem} {a k : Nat} {y : Int32} : Fr3 (st M a k y) M a := ⟨fun b h1 h2 h3 => by simp [st, sA, h1], rfl⟩
theorem shL_ok {q n : Nat} {L : Nat → Nat} (hq : 0 < q) (h : ∀ k, k < n → L k < 2 ^ q) : ∀ k, k < n → shL (q - 1) L k < 2 ^ (q - 1) := fun k hk => by
  refine Nat.lt_pow_two_of_testBit _ fun i hi => ?_
  show (andn (L k) (2 ^ (q - 1))).testBit i = false
  rw [andn_bit]
  by_cases h1 : i = q - 1
  · rw [h1, Nat.testBit_two_pow_self, Bool.not_true, Bool.and_false]
  · rw [Nat.testBit_lt_two_pow (Nat.lt_of_lt_of_le (h k hk) (Nat.pow_le_pow_right (by decide) (by omega))), Bool.false_and]
theorem isW_shJ {M : Mem} {a n q hv ed : Nat} {K L : Nat → Nat} {q2 : Nat} (h : isW M a n q hv ed K (shJ q2 n L)) : isW M a n q hv ed K (shL q2 L) := isW_ext (M1 := M) h (fun _ _ => rfl) (fun k hk => by unfold shJ shL; rw [if_pos hk])
theorem sbit_lt {m j x : Nat} (h : m < 4096) (hj : j < 12) : sbit m j x < 4096 := by
  unfold sbit
  by_cases h1 : x = 0
  · rw [if_pos h1]; have := andn_le m (2 ^ j); omega
  · rw [if_neg h1]; exact or_lt12 h (Nat.lt_of_le_of_lt (Nat.pow_le_pow_right (n := 2) (j := 11) (by decide) (by omega)) (by decide))
theorem okW_q {q q2 : Nat} {o : Wo} (h : okW q o) (h1 : q ≤ q2) (h2 : q2 ≤ 12) : okW q2 o := ⟨h.1, h2, fun k hk => ⟨(h.2.2 k hk).1, Nat.lt_of_lt_of_le (h.2.2 k hk).2 (Nat.pow_le_pow_right (by decide) h1)⟩⟩
theorem CS.undo {M M1 : Mem} {Ps : Nat → Nat → Int} {m rd k k1 ny : Nat} {x y : Fw} {Hs : Nat → Fw} (h : CS M Ps m x rd Hs k) (hC : CF M1 44 y) (hH : HC M1 Hs k1 ny) (hf : ∀ b, b < 44 ∨ (47 ≤ b ∧ b ≠ 71) → M1.1 b = M.1 b) : CS (st (st (st M1 22 7 (zI 0)) 109 0 (zI 0)) 135 0 (zI 0)) Ps m y 0 Hs k1 := by
  have e : ∀ b, b ≠ 22 → b ≠ 109 → b ≠ 135 → (st (st (st M1 22 7 (zI 0)) 109 0 (zI 0)) 135 0 (zI 0)).1 b = M1.1 b := fun b a1 a2 a3 => by rw [st_ob a3, st_ob a2, st_ob a1]
  refine ⟨h.1.fr ?_ (fun b a1 a2 => (e b (by omega) (by omega) (by omega)).trans (hf b (by omega))), ⟨?_, Nat.zero_le _, fun i hi => ?_, fun i hi => absurd hi (Nat.not_lt_zero i)⟩, ny, hH.fr (fun b a1 a2 => e b (by omega) (by omega) (by omega))⟩
  · rw [st_ob (by decide), st_ob (by decide), st_ne (Or.inr (by decide)), hf 22 (by decide)]
  · rw [st_ob (by decide), st_ob (by decide)]; exact st_at
  · obtain rfl : i = 0 := by omega
    exact hC.fr (e _ (by omega) (by omega) (by omega)) (e _ (by omega) (by omega) (by omega)) (e _ (by omega) (by omega) (by omega))
theorem tb_h {m j h : Nat} (h1 : m.testBit j = true) (hh : h = 1) : tb m j = h := by rw [hh]; exact tbo.mpr h1
theorem tb_n {m j h : Nat} (h1 : ¬ m.testBit j = true) (hh : h = 0) : tb m j = h := by rw [hh]; exact tbz.mpr (nb h1)
theorem tb_hn {m j h : Nat} (h1 : m.testBit j = true) (hh : h ≠ 1) : ¬ tb m j = h := fun q => hh (q ▸ tbo.mpr h1)
theorem tb_nn {m j h : Nat} (h1 : ¬ m.testBit j = true) (hh : h ≠ 0) : ¬ tb m j = h := fun q => hh (q ▸ tbz.mpr (nb h1))
theorem wdX9_removeSyllable_19 : decode cX9_removeSyllable 19 = .ok (.iload_n 1, 1) := dq0 kk_27 (by decide +kernel)
theorem wdX9_removeSyllable_20 : decode cX9_removeSyllable 20 = .ok (.aload_n 0, 1) := dq0 kk_42 (by decide +kernel)
theorem wdX9_removeSyllable_21 : decode cX9_removeSyllable 21 = .ok (.getfield 9, 3) := dqV kk_180 (by decide +kernel)
theorem wtb_226 : Cond.fieldLink "ToneLines$Word" 9 "ToneLines$Word" "tones" "I" ∈ TB := tb_0
theorem wdX9_removeSyllable_24 : decode cX9_removeSyllable 24 = .ok (.if_icmp .ge 26, 3) := dqT kk_162 (by decide +kernel)
theorem wdX9_removeSyllable_27 : decode cX9_removeSyllable 27 = .ok (.aload_n 0, 1) := dq0 kk_42 (by decide +kernel)
theorem wdX9_removeSyllable_28 : decode cX9_removeSyllable 28 = .ok (.getfield 28, 3) := dqV kk_180 (by decide +kernel)
theorem wtb_227 : Cond.fieldLink "ToneLines$Word" 28 "ToneLines$Word" "lines" "[I" ∈ TB := tb_6
theorem wdX9_removeSyllable_31 : decode cX9_removeSyllable 31 = .ok (.iload_n 1, 1) := dq0 kk_27 (by decide +kernel)
theorem wdX9_removeSyllable_32 : decode cX9_removeSyllable 32 = .ok (.dup2, 1) := dq0 kk_92 (by decide +kernel)
theorem wdX9_removeSyllable_33 : decode cX9_removeSyllable 33 = .ok (.iaload, 1) := dq0 kk_46 (by decide +kernel)
theorem wdX9_removeSyllable_34 : decode cX9_removeSyllable 34 = .ok (.iconst 1, 1) := dq0 kk_4 (by decide +kernel)
theorem wdX9_removeSyllable_35 : decode cX9_removeSyllable 35 = .ok (.aload_n 0, 1) := dq0 kk_42 (by decide +kernel)
theorem wdX9_removeSyllable_36 : decode cX9_removeSyllable 36 = .ok (.getfield 15, 3) := dqV kk_180 (by decide +kernel)
theorem wtb_228 : Cond.fieldLink "ToneLines$Word" 15 "ToneLines$Word" "syllables" "I" ∈ TB := tb_1
theorem wdX9_removeSyllable_39 : decode cX9_removeSyllable 39 = .ok (.ishl, 1) := dq0 kk_120 (by decide +kernel)
theorem wdX9_removeSyllable_40 : decode cX9_removeSyllable 40 = .ok (.iconst (-1), 1) := dq0 kk_2 (by decide +kernel)
theorem wdX9_removeSyllable_41 : decode cX9_removeSyllable 41 = .ok (.ixor, 1) := dq0 kk_130 (by decide +kernel)
theorem wdX9_removeSyllable_42 : decode cX9_removeSyllable 42 = .ok (.iand, 1) := dq0 kk_126 (by decide +kernel)
theorem wdX9_removeSyllable_43 : decode cX9_removeSyllable 43 = .ok (.iastore, 1) := dq0 kk_79 (by decide +kernel)
theorem wdX9_removeSyllable_44 : decode cX9_removeSyllable 44 = .ok (.iinc 1 1, 3) := dqI kk_132 (by decide +kernel)
theorem wdX9_removeSyllable_47 : decode cX9_removeSyllable 47 = .ok (.goto (-28), 3) := dqT kk_167 (by decide +kernel)
set_option maxRecDepth 4000 in
theorem lp_X9_removeSyllable {p : Program} {l : Launch} {e : Env} {s : State} {m : MethodId} {args : Array Value} {below : List Frame} {meth : Method} {c : Code} {D : va_G} {B : Nat} {cy : Nat → ClassId} {H0 : Heap} {Q : State → Prop} {M : Mem} {R : Room} {a q hv ed : Nat} {o : Wo} (F : CallFix p m c cX9_removeSyllable 2 s args TB RX9) (hR1 : 0 ≤ R.frames) (hR2 : 0 ≤ R.locals) (hk : kd a = (9, 0, 0)) (hwf : wf o.1 q hv ed o.2.1 o.2.2) (kk : ∀ (j : Nat) (Nm : Mem) (H : Heap) (locs : List Loc) (ls : Array Slot), (isW Nm a o.1 (q - 1) hv ed o.2.1 (shL (q - 1) o.2.2)) → (Fr3 Nm M a) → Wd D B cy s H0 Nm H locs → lv_has ls 2 [(0, .ref (B + a))] → W p l e R s m args below meth c H locs 0 0 Q (F0 m 50 ls [])) : ∀ (f : Nat) (j : Nat) (Nm : Mem), (j ≤ o.1) → (isW Nm a o.1 (q - 1) hv ed o.2.1 (shJ (q - 1) j o.2.2)) → (Fr3 Nm M a) → (o.1 ≤ j + f) → ∀ (H : Heap) (locs : List Loc) (ls : Array Slot), Wd D B cy s H0 Nm H locs → lv_has ls 2 [(1, .int (zI (j : Int))), (0, .ref (B + a))] → W p l e R s m args below meth c H locs 0 0 Q (F0 m 19 ls []) := by
  have hx := F.1
  have hb := F.2.1
  have hq12 := hwf.2.1
  intro f
  induction f with
  | zero =>
    intro j Nm i0 i1 i2 hf H locs ls w hl
    have hwf1 : wf o.1 (q - 1) hv ed o.2.1 (shJ (q - 1) j o.2.2) := wf_shJ hwf (by omega)
    have hKL1 := hwf1.2.2.2.2
    have hn1 := hwf1.1
    refine lv_iload_n hx hb wdX9_removeSyllable_19 rfl (lv_at hl 0 rfl) ?_
    refine lv_aload_n hx hb wdX9_removeSyllable_20 rfl (lv_at hl 1 rfl) ?_
    refine f_9_0 F w (a := a) hk wtb_226 wdX9_removeSyllable_21 ?_
    refine r_val (v := (zI ((o.1 : Nat) : Int))) (i1.1) ?_
    refine z_icmp_ge (tgt := 50) hx hb (by omega) (by omega) wdX9_removeSyllable_24 (by decide) (fun c1 => ?_) (fun c1 => False.elim (by omega))
    exact kk j Nm _ _ ls (by have h9 := i1; rw [show j = o.1 by omega] at h9; exact isW_shJ h9) i2 w (lv_sub hl [1] rfl)
  | succ f ih =>
    intro j Nm i0 i1 i2 hf H locs ls w hl
    have hwf1 : wf o.1 (q - 1) hv ed o.2.1 (shJ (q - 1) j o.2.2) := wf_shJ hwf (by omega)
    have hKL1 := hwf1.2.2.2.2
    have hn1 := hwf1.1
    refine lv_iload_n hx hb wdX9_removeSyllable_19 rfl (lv_at hl 0 rfl) ?_
    refine lv_aload_n hx hb wdX9_removeSyllable_20 rfl (lv_at hl 1 rfl) ?_
    refine f_9_0 F w (a := a) hk wtb_226 wdX9_removeSyllable_21 ?_
    refine r_val (v := (zI ((o.1 : Nat) : Int))) (i1.1) ?_
    refine z_icmp_ge (tgt := 50) hx hb (by omega) (by omega) wdX9_removeSyllable_24 (by decide) (fun c1 => ?_) (fun c1 => ?_)
    · exact kk j Nm _ _ ls (by have h9 := i1; rw [show j = o.1 by omega] at h9; exact isW_shJ h9) i2 w (lv_sub hl [1] rfl)
    · refine lv_aload_n hx hb wdX9_removeSyllable_27 rfl (lv_at hl 1 rfl) ?_
      refine f_9_5 F w (a := a) hk wtb_227 wdX9_removeSyllable_28 ?_
      refine lv_iload_n hx hb wdX9_removeSyllable_31 rfl (lv_at hl 0 rfl) ?_
      refine lv_dup2_11 hx hb wdX9_removeSyllable_32 rfl rfl ?_
      refine g_iald F w (a := (a + 2)) (kd_w2 hk) (j := j) (ix_n (by omega)) (by omega) wdX9_removeSyllable_33 ?_
      have hL1 := (hKL1 j (by omega)).2
      refine r_val (v := (zI (((shJ (q - 1) j o.2.2 j) : Nat) : Int))) (i1.2.2.2.2.2 j (by omega)) ?_
      refine lv_iconst (v := zI 1) hx hb wdX9_removeSyllable_34 rfl ?_
      refine lv_aload_n hx hb wdX9_removeSyllable_35 rfl (lv_at hl 1 rfl) ?_
      refine f_9_1 F w (a := a) hk wtb_228 wdX9_removeSyllable_36 ?_
      refine r_val (v := (zI (((q - 1) : Nat) : Int))) (i1.2.1) ?_
      refine lv_ishl hx hb wdX9_removeSyllable_39 ?_
      refine r_val (v := (zI (((2 ^ (q - 1)) : Nat) : Int))) (zb_shl (n := (q - 1)) (by omega)) ?_
      have q2 := p2_b (n := (q - 1)) (by omega)
      refine lv_iconst (v := zI (-1)) hx hb wdX9_removeSyllable_40 rfl ?_
      refine lv_ixor hx hb wdX9_removeSyllable_41 ?_
      refine lv_iand hx hb wdX9_removeSyllable_42 ?_
      refine r_val (v := (zI (((andn (shJ (q - 1) j o.2.2 j) (2 ^ (q - 1))) : Nat) : Int))) (zb_andn _ _) ?_
      have q4 := andn_le (shJ (q - 1) j o.2.2 j) (2 ^ (q - 1))
      refine g_iast F w (a := (a + 2)) (kd_w2 hk) (j := j) (ix_n (by omega)) (by omega) wdX9_removeSyllable_43 (fun H locs w => ?_)
      refine z_iinc (v := (((j + 1) : Nat) : Int)) (lv' := [(1, .int (zI (((j + 1) : Nat) : Int))), (0, .ref (B + a))]) hx hb wdX9_removeSyllable_44 hl (k := 0) rfl (by omega) (by decide) rfl (fun ls hl => ?_)
      refine lv_goto (tgt := 19) hx hb wdX9_removeSyllable_47 (by decide) ?_
      exact ih (j + 1) (st Nm (a + 2) j (zI (((andn (shJ (q - 1) j o.2.2 j) (2 ^ (q - 1))) : Nat) : Int))) (by omega) (by have h9 := wlineW (t := j) (v := andn (shJ (q - 1) j o.2.2 j) (2 ^ (q - 1))) i1; rw [shJ_s] at h9; exact h9) (wlineF i2) (by omega) _ _ ls w (lv_sub hl [0, 1] rfl)
theorem wdX9_removeSyllable_0 : decode cX9_removeSyllable 0 = .ok (.aload_n 0, 1) := dq0 kk_42 (by decide +kernel)
theorem wdX9_removeSyllable_1 : decode cX9_removeSyllable 1 = .ok (.getfield 15, 3) := dqV kk_180 (by decide +kernel)
theorem wdX9_removeSyllable_4 : decode cX9_removeSyllable 4 = .ok (.ifCond .le 46, 3) := dqT kk_158 (by decide +kernel)
theorem wdX9_removeSyllable_7 : decode cX9_removeSyllable 7 = .ok (.aload_n 0, 1) := dq0 kk_42 (by decide +kernel)
theorem wdX9_removeSyllable_8 : decode cX9_removeSyllable 8 = .ok (.dup, 1) := dq0 kk_89 (by decide +kernel)
theorem wdX9_removeSyllable_9 : decode cX9_removeSyllable 9 = .ok (.getfield 15, 3) := dqV kk_180 (by decide +kernel)
theorem wdX9_removeSyllable_12 : decode cX9_removeSyllable 12 = .ok (.iconst 1, 1) := dq0 kk_4 (by decide +kernel)
theorem wdX9_removeSyllable_13 : decode cX9_removeSyllable 13 = .ok (.isub, 1) := dq0 kk_100 (by decide +kernel)
theorem wdX9_removeSyllable_14 : decode cX9_removeSyllable 14 = .ok (.putfield 15, 3) := dqV kk_181 (by decide +kernel)
theorem wdX9_removeSyllable_17 : decode cX9_removeSyllable 17 = .ok (.iconst 0, 1) := dq0 kk_3 (by decide +kernel)
theorem wdX9_removeSyllable_18 : decode cX9_removeSyllable 18 = .ok (.istore_n 1, 1) := dq0 kk_60 (by decide +kernel)
theorem wdX9_removeSyllable_50 : decode cX9_removeSyllable 50 = .ok (.return_, 1) := dq0 kk_177 (by decide +kernel)
set_option maxRecDepth 4000 in
theorem g_removeSyllable {l : Launch} {D : va_G} {B : Nat} {cy : Nat → ClassId} {M : Mem} {a q hv ed : Nat} {o : Wo} (hk : kd a = (9, 0, 0)) (hC : CW M a q hv ed o) (hq0 : 0 < q) : Cv l D B cy yX9_removeSyllable cX9_removeSyllable 2 0 0 [.ref (B + a)] M (fun M1 => isW M1 a o.1 (q - 1) hv ed o.2.1 (shL (q - 1) o.2.2) ∧ Fr3 M1 M a) := by
  refine s_any (by decide) (Nat.le_of_ble_eq_true rfl) ?_
  intro p e s m below meth c ls F hr hlocks w hl
  have F : CallFix p m c cX9_removeSyllable 2 s _ TB RX9 := F
  have hx := F.1
  have hb := F.2.1
  have hl : lv_has ls 2 [(0, .ref (B + a))] := hl
  have hW := hC.1
  have hwf := hC.wf
  have hKL := hwf.2.2.2.2
  have hn12 := hwf.1
  have hq12 := hwf.2.1
  refine lv_aload_n hx hb wdX9_removeSyllable_0 rfl (lv_at hl 0 rfl) ?_
  refine f_9_1 F w (a := a) hk wtb_228 wdX9_removeSyllable_1 ?_
  refine r_val (v := (zI (q : Int))) (hW.2.1) ?_
  refine z_if_le (tgt := 50) hx hb (by omega) wdX9_removeSyllable_4 (by decide) (fun c1 => False.elim (by omega)) (fun c1 => ?_)
  refine lv_aload_n hx hb wdX9_removeSyllable_7 rfl (lv_at hl 0 rfl) ?_
  refine lv_dup hx hb wdX9_removeSyllable_8 rfl ?_
  refine f_9_1 F w (a := a) hk wtb_228 wdX9_removeSyllable_9 ?_
  refine r_val (v := (zI (q : Int))) (hW.2.1) ?_
  refine lv_iconst (v := zI 1) hx hb wdX9_removeSyllable_12 rfl ?_
  refine z_isub (z := ((q : Int) - 1)) hx hb wdX9_removeSyllable_13 (by omega) ?_
  refine r_val (v := zI ((q - 1 : Nat) : Int)) (congrArg zI (by omega)) ?_
  refine u_9_1 F w (a := a) hk wtb_228 wdX9_removeSyllable_14 (fun H locs w => ?_)
  refine lv_iconst (v := zI 0) hx hb wdX9_removeSyllable_17 rfl ?_
  refine lv_istore_n (lv' := [(1, .int (zI 0)), (0, .ref (B + a))]) hx hb wdX9_removeSyllable_18 rfl hl (by decide) rfl (fun ls hl => ?_)
  refine lp_X9_removeSyllable  F (Nat.le_of_ble_eq_true rfl) (Nat.le_of_ble_eq_true rfl) hk hC.wf (fun j Nm H locs ls x0 x1 w hl => ?_) o.1 0 (st M a 1 (zI (((q - 1) : Nat) : Int))) (by omega) (isW_ext (M1 := M) (isW.syl hW) (fun _ _ => rfl) (fun k9 _ => by unfold shJ; rw [if_neg (Nat.not_lt_zero k9)])) Fr3.a1 (by omega) _ _ ls w (lv_sub hl [0, 1] rfl)
  exact e_v F w hr hlocks ⟨x0, x1⟩ wdX9_removeSyllable_50
theorem wdX11_isKind_0 : decode cX11_isKind 0 = .ok (.iload_n 0, 1) := dq0 kk_26 (by decide +kernel)
theorem wdX11_isKind_1 : decode cX11_isKind 1 = .ok (.ifCond .lt 12, 3) := dqT kk_155 (by decide +kernel)
theorem wdX11_isKind_13 : decode cX11_isKind 13 = .ok (.iconst 0, 1) := dq0 kk_3 (by decide +kernel)
theorem wdX11_isKind_14 : decode cX11_isKind 14 = .ok (.ireturn, 1) := dq0 kk_172 (by decide +kernel)
theorem wdX11_isKind_4 : decode cX11_isKind 4 = .ok (.iload_n 0, 1) := dq0 kk_26 (by decide +kernel)
theorem wdX11_isKind_5 : decode cX11_isKind 5 = .ok (.iconst 2, 1) := dq0 kk_5 (by decide +kernel)
theorem wdX11_isKind_6 : decode cX11_isKind 6 = .ok (.if_icmp .gt 7, 3) := dqT kk_163 (by decide +kernel)
theorem wdX11_isKind_9 : decode cX11_isKind 9 = .ok (.iconst 1, 1) := dq0 kk_4 (by decide +kernel)
theorem wdX11_isKind_10 : decode cX11_isKind 10 = .ok (.goto 4, 3) := dqT kk_167 (by decide +kernel)
set_option maxRecDepth 4000 in
theorem g_isKind {l : Launch} {D : va_G} {B : Nat} {cy : Nat → ClassId} {M : Mem} {y9 : Int} (hy9 : rg y9) : Ci l D B cy yX11_isKind cX11_isKind 1 (some .boolean) 0 0 [.int (zI y9)] M (fun r M1 => ((0 ≤ y9 ∧ y9 ≤ 2) ∧ r = zI 1 ∨ ¬ (0 ≤ y9 ∧ y9 ≤ 2) ∧ r = zI 0) ∧ M1 = M) := by
  refine s_any (by decide) (Nat.le_of_ble_eq_true rfl) ?_
  intro p e s m below meth c ls F hr hlocks w hl
  have F : CallFix p m c cX11_isKind 1 s _ TB RX11 := F
  have hx := F.1
  have hb := F.2.1
  have hl : lv_has ls 1 [(0, .int (zI y9))] := hl
  refine lv_iload_n hx hb wdX11_isKind_0 rfl (lv_at hl 0 rfl) ?_
  refine z_if_lt (tgt := 13) hx hb (by omega) wdX11_isKind_1 (by decide) (fun c1 => ?_) (fun c1 => ?_)
  · refine lv_iconst (v := zI 0) hx hb wdX11_isKind_13 rfl ?_
    exact e_z F w hr hlocks (nar_z (by omega)) ⟨Or.inr ⟨by omega, rfl⟩, rfl⟩ wdX11_isKind_14
  · refine lv_iload_n hx hb wdX11_isKind_4 rfl (lv_at hl 0 rfl) ?_
    refine lv_iconst (v := zI 2) hx hb wdX11_isKind_5 rfl ?_
    refine z_icmp_gt (tgt := 13) hx hb (by omega) (by omega) wdX11_isKind_6 (by decide) (fun c2 => ?_) (fun c2 => ?_)
    · refine lv_iconst (v := zI 0) hx hb wdX11_isKind_13 rfl ?_
      exact e_z F w hr hlocks (nar_z (by omega)) ⟨Or.inr ⟨by omega, rfl⟩, rfl⟩ wdX11_isKind_14
    · refine lv_iconst (v := zI 1) hx hb wdX11_isKind_9 rfl ?_
      refine lv_goto (tgt := 14) hx hb wdX11_isKind_10 (by decide) ?_
      exact e_z F w hr hlocks (nar_z (by omega)) ⟨Or.inl ⟨by omega, rfl⟩, rfl⟩ wdX11_isKind_14
theorem wdX11_line_0 : decode cX11_line 0 = .ok (.aload_n 0, 1) := dq0 kk_42 (by decide +kernel)
theorem wdX11_line_1 : decode cX11_line 1 = .ok (.getfield 43, 3) := dqV kk_180 (by decide +kernel)
theorem wdX11_line_4 : decode cX11_line 4 = .ok (.iload_n 1, 1) := dq0 kk_27 (by decide +kernel)
theorem wdX11_line_5 : decode cX11_line 5 = .ok (.iload_n 2, 1) := dq0 kk_28 (by decide +kernel)
theorem wdX11_line_6 : decode cX11_line 6 = .ok (.invokevirtual 119, 3) := dqV kk_182 (by decide +kernel)
theorem wtb_229 : Cond.methodLink "ToneLines" 119 yX9_isOpen ∈ TB := tbm (tc3 (List.mem_of_getElem? (i := 137) rfl)) rfl
theorem wgv_X11_119 : GoodIn TB (wsV RX11 119 RX9 yX9_isOpen (cw yX9_isOpen cX9_isOpen 3 (some .boolean))) := goodIn_4 wtb_229 wtb_35 wtb_36 wtb_3 wgc_X9_isOpen
theorem wdX11_line_9 : decode cX11_line 9 = .ok (.ifCond .ne 5, 3) := dqT kk_154 (by decide +kernel)
theorem wdX11_line_14 : decode cX11_line 14 = .ok (.aload_n 0, 1) := dq0 kk_42 (by decide +kernel)
theorem wdX11_line_15 : decode cX11_line 15 = .ok (.invokevirtual 123, 3) := dqV kk_182 (by decide +kernel)
theorem wdX11_line_18 : decode cX11_line 18 = .ok (.aload_n 0, 1) := dq0 kk_42 (by decide +kernel)
theorem wdX11_line_19 : decode cX11_line 19 = .ok (.getfield 43, 3) := dqV kk_180 (by decide +kernel)
theorem wdX11_line_22 : decode cX11_line 22 = .ok (.getfield 126, 3) := dqV kk_180 (by decide +kernel)
theorem wtb_230 : Cond.fieldLink "ToneLines" 126 "ToneLines$Word" "lines" "[I" ∈ TB := tbm (tc1 (List.mem_of_getElem? (i := 148) rfl)) rfl
theorem wdX11_line_25 : decode cX11_line 25 = .ok (.iload_n 1, 1) := dq0 kk_27 (by decide +kernel)
theorem wdX11_line_26 : decode cX11_line 26 = .ok (.dup2, 1) := dq0 kk_92 (by decide +kernel)
theorem wdX11_line_27 : decode cX11_line 27 = .ok (.iaload, 1) := dq0 kk_46 (by decide +kernel)
theorem wdX11_line_28 : decode cX11_line 28 = .ok (.iconst 1, 1) := dq0 kk_4 (by decide +kernel)
theorem wdX11_line_29 : decode cX11_line 29 = .ok (.iload_n 2, 1) := dq0 kk_28 (by decide +kernel)
theorem wdX11_line_30 : decode cX11_line 30 = .ok (.ishl, 1) := dq0 kk_120 (by decide +kernel)
theorem wdX11_line_31 : decode cX11_line 31 = .ok (.ior, 1) := dq0 kk_128 (by decide +kernel)
theorem wdX11_line_32 : decode cX11_line 32 = .ok (.iastore, 1) := dq0 kk_79 (by decide +kernel)
theorem wdX11_line_33 : decode cX11_line 33 = .ok (.iconst 1, 1) := dq0 kk_4 (by decide +kernel)
theorem wdX11_line_34 : decode cX11_line 34 = .ok (.ireturn, 1) := dq0 kk_172 (by decide +kernel)
theorem wdX11_line_12 : decode cX11_line 12 = .ok (.iconst 0, 1) := dq0 kk_3 (by decide +kernel)
theorem wdX11_line_13 : decode cX11_line 13 = .ok (.ireturn, 1) := dq0 kk_172 (by decide +kernel)
set_option maxRecDepth 4000 in
theorem g_line {l : Launch} {D : va_G} {B : Nat} {cy : Nat → ClassId} {M : Mem} {Ps : Nat → Nat → Int} {mr rd k q hv ed : Nat} {o : Wo} {Hs : Nat → Fw} (hS : CS M Ps mr (q, hv, ed, o) rd Hs k) {t9 u9 : Int} (ht9 : rg t9) (hu9 : rg u9) : Ci l D B cy yX11_line cX11_line 3 (some .boolean) 4 102 [.ref (B + 0), .int (zI t9), .int (zI u9)] M (fun r M1 => AQ Ps mr Hs k (q, hv, ed, o) (acLine t9 u9 (q, hv, ed, o)) 1 0 M r M1) := by
  refine s_any (by decide) (Nat.le_of_ble_eq_true rfl) ?_
  intro p e s m below meth c ls F hr hlocks w hl
  have F : CallFix p m c cX11_line 3 s _ TB RX11 := F
  have hx := F.1
  have hb := F.2.1
  have hl : lv_has ls 3 [(0, .ref (B + 0)), (1, .int (zI t9)), (2, .int (zI u9))] := hl
  have hm8 := hS.1.2.1
  have hC : CW M 44 q hv ed o := hS.t
  have hW : isW M 44 o.1 q hv ed o.2.1 o.2.2 := hC.1
  have hwf := hC.wf
  have hKL := hwf.2.2.2.2
  have hn12 := hwf.1
  have hq12 := hwf.2.1
  have hhv := hwf.2.2.1
  have hed := hwf.2.2.2.1
  refine lv_aload_n hx hb wdX11_line_0 rfl (lv_at hl 0 rfl) ?_
  refine f_11_4 F w (a := 0) rfl wtb_214 wdX11_line_1 ?_
  refine lv_iload_n hx hb wdX11_line_4 rfl (lv_at hl 1 rfl) ?_
  refine lv_iload_n hx hb wdX11_line_5 rfl (lv_at hl 2 rfl) ?_
  refine k_Vi F w (As := [.int (zI t9), .int (zI u9)]) (rest := []) (a := 44) (kd_lt (a := 44) (show kd 44 = (9, 0, 0) from rfl) (by decide)) (sh_9 rfl _ _) rfl (s_X9_isOpen (a := 44) rfl hW hwf (by omega) (by omega)) wgv_X11_119 whv_X9_isOpen ⟨(Nat.le_of_ble_eq_true rfl), (Nat.le_of_ble_eq_true rfl)⟩ hl.1 rfl (Nat.le_of_ble_eq_true rfl) ⟨Nat.zero_le _, Nat.zero_le _⟩ wdX11_line_6 (fun r Ma1 H locs hp w => ?_)
  rcases hp with ⟨⟨⟨k9, j9, rfl, rfl, hk9, hj9, ho9⟩, rfl⟩ | ⟨ho9, rfl⟩, hMe⟩
  · rw [hMe] at w
    refine z_if_ne (tgt := 14) hx hb (by omega) wdX11_line_9 (by decide) (fun c2 => ?_) (fun c2 => False.elim (by omega))
    refine lv_aload_n hx hb wdX11_line_14 rfl (lv_at hl 0 rfl) ?_
    refine k_Vv F w (As := []) (rest := []) (a := 0) (kd_lt (a := 0) (show kd 0 = (11, 0, 0) from rfl) (by decide)) (sh_11 rfl _ _) rfl (g_beginAct hS) wgv_X11_123 whv_X11_beginAct ⟨(Nat.le_of_ble_eq_true rfl), (Nat.le_of_ble_eq_true rfl)⟩ hl.1 rfl (Nat.le_of_ble_eq_true rfl) ⟨Nat.zero_le _, Nat.zero_le _⟩ wdX11_line_15 (fun Ma3 H locs hp w => ?_)
    rcases hp with ⟨hS1, hB1⟩
    have hC1 : CW Ma3 44 q hv ed o := hS1.t
    have hW1 : isW Ma3 44 o.1 q hv ed o.2.1 o.2.2 := hC1.1
    refine lv_aload_n hx hb wdX11_line_18 rfl (lv_at hl 0 rfl) ?_
    refine f_11_4 F w (a := 0) rfl wtb_214 wdX11_line_19 ?_
    refine f_9_5 F w (a := 44) rfl wtb_230 wdX11_line_22 ?_
    refine lv_iload_n hx hb wdX11_line_25 rfl (lv_at hl 1 rfl) ?_
    refine lv_dup2_11 hx hb wdX11_line_26 rfl rfl ?_
    refine g_iald F w (a := 46) rfl (j := k9) (ix_n (by omega)) (by omega) wdX11_line_27 ?_
    have hL3 := (hKL k9 (by omega)).2
    refine r_val (v := (zI (((o.2.2 k9) : Nat) : Int))) (hW1.2.2.2.2.2 k9 (by omega)) ?_
    refine lv_iconst (v := zI 1) hx hb wdX11_line_28 rfl ?_
    refine lv_iload_n hx hb wdX11_line_29 rfl (lv_at hl 2 rfl) ?_
    refine lv_ishl hx hb wdX11_line_30 ?_
    refine r_val (v := (zI (((2 ^ j9) : Nat) : Int))) (zb_shl (n := j9) (by omega)) ?_
    have q4 := p2_b (n := j9) (by omega)
    refine lv_ior hx hb wdX11_line_31 ?_
    refine r_val (v := (zI ((((o.2.2 k9) ||| (2 ^ j9)) : Nat) : Int))) (zb_or (o.2.2 k9) (2 ^ j9)) ?_
    have q5 := or_lt12 (a := (o.2.2 k9)) (b := (2 ^ j9)) (by omega) (by omega)
    refine g_iast F w (a := 46) rfl (j := k9) (ix_n (by omega)) (by omega) wdX11_line_32 (fun H locs w => ?_)
    refine lv_iconst (v := zI 1) hx hb wdX11_line_33 rfl ?_
    exact e_z F w hr hlocks (nar_z (by omega)) (Or.inl ⟨_, acI_y ⟨k9, j9, rfl, rfl, hk9, hj9, ho9⟩, rfl, hS1.told (wlineF Fr3.rf) ⟨wlineW hW1, okW_line hC1.2.1 (or_ltq (hC.2.1.2.2 k9 hk9).2 hj9), hC1.2.2⟩, FA.of hB1 (wlineF Fr3.rf)⟩) wdX11_line_34
  · rw [hMe] at w
    refine z_if_ne (tgt := 14) hx hb (by omega) wdX11_line_9 (by decide) (fun c6 => False.elim (by omega)) (fun c6 => ?_)
    refine lv_iconst (v := zI 0) hx hb wdX11_line_12 rfl ?_
    exact e_z F w hr hlocks (nar_z (by omega)) (Or.inr ⟨acI_n (by exact ho9), rfl, rfl⟩) wdX11_line_13
theorem wdX11_cut_0 : decode cX11_cut 0 = .ok (.aload_n 0, 1) := dq0 kk_42 (by decide +kernel)
theorem wdX11_cut_1 : decode cX11_cut 1 = .ok (.getfield 43, 3) := dqV kk_180 (by decide +kernel)
theorem wdX11_cut_4 : decode cX11_cut 4 = .ok (.iload_n 1, 1) := dq0 kk_27 (by decide +kernel)
theorem wdX11_cut_5 : decode cX11_cut 5 = .ok (.iload_n 2, 1) := dq0 kk_28 (by decide +kernel)
theorem wdX11_cut_6 : decode cX11_cut 6 = .ok (.invokevirtual 130, 3) := dqV kk_182 (by decide +kernel)
theorem wtk_X9_hasLine : Cond.code yX9_hasLine cX9_hasLine 3 (some .boolean) ∈ TB := tbm (tc3 (List.mem_of_getElem? (i := 155) rfl)) rfl
theorem wgc_X9_hasLine : GoodIn TB (cw yX9_hasLine cX9_hasLine 3 (some .boolean)) := goodIn_c2 wtk_X9_hasLine
theorem wtb_231 : Cond.methodLink "ToneLines" 130 yX9_hasLine ∈ TB := tbm (tc3 (List.mem_of_getElem? (i := 152) rfl)) rfl
theorem wtb_232 : Cond.instanceMethod yX9_hasLine ∈ TB := tbm (tc3 (List.mem_of_getElem? (i := 153) rfl)) rfl
theorem wtb_233 : Cond.selects "ToneLines$Word" yX9_hasLine yX9_hasLine ∈ TB := tbm (tc3 (List.mem_of_getElem? (i := 154) rfl)) rfl
theorem wgv_X11_130 : GoodIn TB (wsV RX11 130 RX9 yX9_hasLine (cw yX9_hasLine cX9_hasLine 3 (some .boolean))) := goodIn_4 wtb_231 wtb_232 wtb_233 wtb_3 wgc_X9_hasLine
theorem whv_X9_hasLine : yX9_hasLine.cls = RX9 ∧ yX9_hasLine.cls ≠ "java/lang/invoke/MethodHandle" ∧ yX9_hasLine.cls ≠ "java/lang/invoke/VarHandle" ∧ (parseMethodDescriptor yX9_hasLine.desc).map (fun d => d.parameters.length) = some 2 := by decide +kernel
theorem wdX11_cut_9 : decode cX11_cut 9 = .ok (.ifCond .ne 5, 3) := dqT kk_154 (by decide +kernel)
theorem wdX11_cut_14 : decode cX11_cut 14 = .ok (.aload_n 0, 1) := dq0 kk_42 (by decide +kernel)
theorem wdX11_cut_15 : decode cX11_cut 15 = .ok (.invokevirtual 123, 3) := dqV kk_182 (by decide +kernel)
theorem wdX11_cut_18 : decode cX11_cut 18 = .ok (.aload_n 0, 1) := dq0 kk_42 (by decide +kernel)
theorem wdX11_cut_19 : decode cX11_cut 19 = .ok (.getfield 43, 3) := dqV kk_180 (by decide +kernel)
theorem wdX11_cut_22 : decode cX11_cut 22 = .ok (.getfield 126, 3) := dqV kk_180 (by decide +kernel)
theorem wdX11_cut_25 : decode cX11_cut 25 = .ok (.iload_n 1, 1) := dq0 kk_27 (by decide +kernel)
theorem wdX11_cut_26 : decode cX11_cut 26 = .ok (.dup2, 1) := dq0 kk_92 (by decide +kernel)
theorem wdX11_cut_27 : decode cX11_cut 27 = .ok (.iaload, 1) := dq0 kk_46 (by decide +kernel)
theorem wdX11_cut_28 : decode cX11_cut 28 = .ok (.iconst 1, 1) := dq0 kk_4 (by decide +kernel)
theorem wdX11_cut_29 : decode cX11_cut 29 = .ok (.iload_n 2, 1) := dq0 kk_28 (by decide +kernel)
theorem wdX11_cut_30 : decode cX11_cut 30 = .ok (.ishl, 1) := dq0 kk_120 (by decide +kernel)
theorem wdX11_cut_31 : decode cX11_cut 31 = .ok (.iconst (-1), 1) := dq0 kk_2 (by decide +kernel)
theorem wdX11_cut_32 : decode cX11_cut 32 = .ok (.ixor, 1) := dq0 kk_130 (by decide +kernel)
theorem wdX11_cut_33 : decode cX11_cut 33 = .ok (.iand, 1) := dq0 kk_126 (by decide +kernel)
theorem wdX11_cut_34 : decode cX11_cut 34 = .ok (.iastore, 1) := dq0 kk_79 (by decide +kernel)
theorem wdX11_cut_35 : decode cX11_cut 35 = .ok (.iconst 1, 1) := dq0 kk_4 (by decide +kernel)
theorem wdX11_cut_36 : decode cX11_cut 36 = .ok (.ireturn, 1) := dq0 kk_172 (by decide +kernel)
theorem wdX11_cut_12 : decode cX11_cut 12 = .ok (.iconst 0, 1) := dq0 kk_3 (by decide +kernel)
theorem wdX11_cut_13 : decode cX11_cut 13 = .ok (.ireturn, 1) := dq0 kk_172 (by decide +kernel)
set_option maxRecDepth 4000 in
theorem g_cut {l : Launch} {D : va_G} {B : Nat} {cy : Nat → ClassId} {M : Mem} {Ps : Nat → Nat → Int} {mr rd k q hv ed : Nat} {o : Wo} {Hs : Nat → Fw} (hS : CS M Ps mr (q, hv, ed, o) rd Hs k) {t9 u9 : Int} (ht9 : rg t9) (hu9 : rg u9) : Ci l D B cy yX11_cut cX11_cut 3 (some .boolean) 4 102 [.ref (B + 0), .int (zI t9), .int (zI u9)] M (fun r M1 => AQ Ps mr Hs k (q, hv, ed, o) (acCut t9 u9 (q, hv, ed, o)) 1 0 M r M1) := by
  refine s_any (by decide) (Nat.le_of_ble_eq_true rfl) ?_
  intro p e s m below meth c ls F hr hlocks w hl
  have F : CallFix p m c cX11_cut 3 s _ TB RX11 := F
  have hx := F.1
  have hb := F.2.1
  have hl : lv_has ls 3 [(0, .ref (B + 0)), (1, .int (zI t9)), (2, .int (zI u9))] := hl
  have hm8 := hS.1.2.1
  have hC : CW M 44 q hv ed o := hS.t
  have hW : isW M 44 o.1 q hv ed o.2.1 o.2.2 := hC.1
  have hwf := hC.wf
  have hKL := hwf.2.2.2.2
  have hn12 := hwf.1
  have hq12 := hwf.2.1
  have hhv := hwf.2.2.1
  have hed := hwf.2.2.2.1
  refine lv_aload_n hx hb wdX11_cut_0 rfl (lv_at hl 0 rfl) ?_
  refine f_11_4 F w (a := 0) rfl wtb_214 wdX11_cut_1 ?_
  refine lv_iload_n hx hb wdX11_cut_4 rfl (lv_at hl 1 rfl) ?_
  refine lv_iload_n hx hb wdX11_cut_5 rfl (lv_at hl 2 rfl) ?_
  refine k_Vi F w (As := [.int (zI t9), .int (zI u9)]) (rest := []) (a := 44) (kd_lt (a := 44) (show kd 44 = (9, 0, 0) from rfl) (by decide)) (sh_9 rfl _ _) rfl (s_X9_hasLine (a := 44) rfl hW hwf (by omega) (by omega)) wgv_X11_130 whv_X9_hasLine ⟨(Nat.le_of_ble_eq_true rfl), (Nat.le_of_ble_eq_true rfl)⟩ hl.1 rfl (Nat.le_of_ble_eq_true rfl) ⟨Nat.zero_le _, Nat.zero_le _⟩ wdX11_cut_6 (fun r Ma1 H locs hp w => ?_)
  rcases hp with ⟨⟨⟨k9, j9, rfl, rfl, hk9, hj9, ho9⟩, rfl⟩ | ⟨ho9, rfl⟩, hMe⟩
  · rw [hMe] at w
    refine z_if_ne (tgt := 14) hx hb (by omega) wdX11_cut_9 (by decide) (fun c2 => ?_) (fun c2 => False.elim (by omega))
    refine lv_aload_n hx hb wdX11_cut_14 rfl (lv_at hl 0 rfl) ?_
    refine k_Vv F w (As := []) (rest := []) (a := 0) (kd_lt (a := 0) (show kd 0 = (11, 0, 0) from rfl) (by decide)) (sh_11 rfl _ _) rfl (g_beginAct hS) wgv_X11_123 whv_X11_beginAct ⟨(Nat.le_of_ble_eq_true rfl), (Nat.le_of_ble_eq_true rfl)⟩ hl.1 rfl (Nat.le_of_ble_eq_true rfl) ⟨Nat.zero_le _, Nat.zero_le _⟩ wdX11_cut_15 (fun Ma3 H locs hp w => ?_)
    rcases hp with ⟨hS1, hB1⟩
    have hC1 : CW Ma3 44 q hv ed o := hS1.t
    have hW1 : isW Ma3 44 o.1 q hv ed o.2.1 o.2.2 := hC1.1
    refine lv_aload_n hx hb wdX11_cut_18 rfl (lv_at hl 0 rfl) ?_
    refine f_11_4 F w (a := 0) rfl wtb_214 wdX11_cut_19 ?_
    refine f_9_5 F w (a := 44) rfl wtb_230 wdX11_cut_22 ?_
    refine lv_iload_n hx hb wdX11_cut_25 rfl (lv_at hl 1 rfl) ?_
    refine lv_dup2_11 hx hb wdX11_cut_26 rfl rfl ?_
    refine g_iald F w (a := 46) rfl (j := k9) (ix_n (by omega)) (by omega) wdX11_cut_27 ?_
    have hL3 := (hKL k9 (by omega)).2
    refine r_val (v := (zI (((o.2.2 k9) : Nat) : Int))) (hW1.2.2.2.2.2 k9 (by omega)) ?_
    refine lv_iconst (v := zI 1) hx hb wdX11_cut_28 rfl ?_
    refine lv_iload_n hx hb wdX11_cut_29 rfl (lv_at hl 2 rfl) ?_
    refine lv_ishl hx hb wdX11_cut_30 ?_
    refine r_val (v := (zI (((2 ^ j9) : Nat) : Int))) (zb_shl (n := j9) (by omega)) ?_
    have q4 := p2_b (n := j9) (by omega)
    refine lv_iconst (v := zI (-1)) hx hb wdX11_cut_31 rfl ?_
    refine lv_ixor hx hb wdX11_cut_32 ?_
    refine lv_iand hx hb wdX11_cut_33 ?_
    refine r_val (v := (zI (((andn (o.2.2 k9) (2 ^ j9)) : Nat) : Int))) (zb_andn _ _) ?_
    have q6 := andn_le (o.2.2 k9) (2 ^ j9)
    refine g_iast F w (a := 46) rfl (j := k9) (ix_n (by omega)) (by omega) wdX11_cut_34 (fun H locs w => ?_)
    refine lv_iconst (v := zI 1) hx hb wdX11_cut_35 rfl ?_
    exact e_z F w hr hlocks (nar_z (by omega)) (Or.inl ⟨_, acI_y ⟨k9, j9, rfl, rfl, hk9, hj9, ho9⟩, rfl, hS1.told (wlineF Fr3.rf) ⟨wlineW hW1, okW_line hC1.2.1 (andn_lt (hC.2.1.2.2 k9 hk9).2), hC1.2.2⟩, FA.of hB1 (wlineF Fr3.rf)⟩) wdX11_cut_36
  · rw [hMe] at w
    refine z_if_ne (tgt := 14) hx hb (by omega) wdX11_cut_9 (by decide) (fun c7 => False.elim (by omega)) (fun c7 => ?_)
    refine lv_iconst (v := zI 0) hx hb wdX11_cut_12 rfl ?_
    exact e_z F w hr hlocks (nar_z (by omega)) (Or.inr ⟨acI_n (by exact ho9), rfl, rfl⟩) wdX11_cut_13
theorem wdX11_tone_0 : decode cX11_tone 0 = .ok (.iload_n 1, 1) := dq0 kk_27 (by decide +kernel)
theorem wdX11_tone_1 : decode cX11_tone 1 = .ok (.ifCond .lt 33, 3) := dqT kk_155 (by decide +kernel)
theorem wdX11_tone_34 : decode cX11_tone 34 = .ok (.iconst 0, 1) := dq0 kk_3 (by decide +kernel)
theorem wdX11_tone_35 : decode cX11_tone 35 = .ok (.ireturn, 1) := dq0 kk_172 (by decide +kernel)
theorem wdX11_tone_4 : decode cX11_tone 4 = .ok (.iload_n 1, 1) := dq0 kk_27 (by decide +kernel)
theorem wdX11_tone_5 : decode cX11_tone 5 = .ok (.aload_n 0, 1) := dq0 kk_42 (by decide +kernel)
theorem wdX11_tone_6 : decode cX11_tone 6 = .ok (.getfield 43, 3) := dqV kk_180 (by decide +kernel)
theorem wdX11_tone_9 : decode cX11_tone 9 = .ok (.getfield 100, 3) := dqV kk_180 (by decide +kernel)
theorem wtb_234 : Cond.fieldLink "ToneLines" 100 "ToneLines$Word" "tones" "I" ∈ TB := tbm (tc1 (List.mem_of_getElem? (i := 133) rfl)) rfl
theorem wdX11_tone_12 : decode cX11_tone 12 = .ok (.if_icmp .gt 22, 3) := dqT kk_163 (by decide +kernel)
theorem wdX11_tone_15 : decode cX11_tone 15 = .ok (.aload_n 0, 1) := dq0 kk_42 (by decide +kernel)
theorem wdX11_tone_16 : decode cX11_tone 16 = .ok (.getfield 43, 3) := dqV kk_180 (by decide +kernel)
theorem wdX11_tone_19 : decode cX11_tone 19 = .ok (.getfield 100, 3) := dqV kk_180 (by decide +kernel)
theorem wdX11_tone_22 : decode cX11_tone 22 = .ok (.bipush 12, 2) := dqS kk_16 (by decide +kernel)
theorem wdX11_tone_24 : decode cX11_tone 24 = .ok (.if_icmp .ge 10, 3) := dqT kk_162 (by decide +kernel)
theorem wdX11_tone_27 : decode cX11_tone 27 = .ok (.iload_n 2, 1) := dq0 kk_28 (by decide +kernel)
theorem wdX11_tone_28 : decode cX11_tone 28 = .ok (.invokestatic 133, 3) := dqV kk_184 (by decide +kernel)
theorem wtk_X11_isKind : Cond.code yX11_isKind cX11_isKind 1 (some .boolean) ∈ TB := tbm (tc3 (List.mem_of_getElem? (i := 162) rfl)) rfl
theorem wgc_X11_isKind : GoodIn TB (cw yX11_isKind cX11_isKind 1 (some .boolean)) := goodIn_c2 wtk_X11_isKind
theorem wtb_235 : Cond.methodLink "ToneLines" 133 yX11_isKind ∈ TB := tbm (tc3 (List.mem_of_getElem? (i := 160) rfl)) rfl
theorem wtb_236 : Cond.static yX11_isKind ∈ TB := tbm (tc3 (List.mem_of_getElem? (i := 161) rfl)) rfl
theorem wgs_X11_133 : GoodIn TB (va_wsS RX11 133 yX11_isKind (cw yX11_isKind cX11_isKind 1 (some .boolean))) := goodIn_3 wtb_235 wtb_236 wtb_5 wgc_X11_isKind
theorem whs_X11_isKind : yX11_isKind.cls ≠ "java/lang/invoke/MethodHandle" ∧ yX11_isKind.cls ≠ "java/lang/invoke/VarHandle" ∧ (parseMethodDescriptor yX11_isKind.desc).map (fun d => d.parameters.length) = some 1 := by decide +kernel
theorem wdX11_tone_31 : decode cX11_tone 31 = .ok (.ifCond .ne 5, 3) := dqT kk_154 (by decide +kernel)
theorem wdX11_tone_36 : decode cX11_tone 36 = .ok (.aload_n 0, 1) := dq0 kk_42 (by decide +kernel)
theorem wdX11_tone_37 : decode cX11_tone 37 = .ok (.invokevirtual 123, 3) := dqV kk_182 (by decide +kernel)
theorem wdX11_tone_40 : decode cX11_tone 40 = .ok (.aload_n 0, 1) := dq0 kk_42 (by decide +kernel)
theorem wdX11_tone_41 : decode cX11_tone 41 = .ok (.getfield 43, 3) := dqV kk_180 (by decide +kernel)
theorem wdX11_tone_44 : decode cX11_tone 44 = .ok (.iload_n 1, 1) := dq0 kk_27 (by decide +kernel)
theorem wdX11_tone_45 : decode cX11_tone 45 = .ok (.iload_n 2, 1) := dq0 kk_28 (by decide +kernel)
theorem wdX11_tone_46 : decode cX11_tone 46 = .ok (.invokevirtual 137, 3) := dqV kk_182 (by decide +kernel)
theorem wtb_237 : Cond.methodLink "ToneLines" 137 yX9_insertTone ∈ TB := tbm (tc3 (List.mem_of_getElem? (i := 163) rfl)) rfl
theorem wgv_X11_137 : GoodIn TB (wsV RX11 137 RX9 yX9_insertTone (cw yX9_insertTone cX9_insertTone 4 none)) := goodIn_4 wtb_237 wtb_57 wtb_58 wtb_3 wgc_X9_insertTone
theorem wdX11_tone_49 : decode cX11_tone 49 = .ok (.iconst 1, 1) := dq0 kk_4 (by decide +kernel)
theorem wdX11_tone_50 : decode cX11_tone 50 = .ok (.ireturn, 1) := dq0 kk_172 (by decide +kernel)
set_option maxRecDepth 4000 in
theorem g_tone {l : Launch} {D : va_G} {B : Nat} {cy : Nat → ClassId} {M : Mem} {Ps : Nat → Nat → Int} {mr rd k q hv ed : Nat} {o : Wo} {Hs : Nat → Fw} (hS : CS M Ps mr (q, hv, ed, o) rd Hs k) {t9 u9 : Int} (ht9 : rg t9) (hu9 : rg u9) : Ci l D B cy yX11_tone cX11_tone 3 (some .boolean) 4 102 [.ref (B + 0), .int (zI t9), .int (zI u9)] M (fun r M1 => AQ Ps mr Hs k (q, hv, ed, o) (acTone t9 u9 (q, hv, ed, o)) 1 0 M r M1) := by
  refine s_any (by decide) (Nat.le_of_ble_eq_true rfl) ?_
  intro p e s m below meth c ls F hr hlocks w hl
  have F : CallFix p m c cX11_tone 3 s _ TB RX11 := F
  have hx := F.1
  have hb := F.2.1
  have hl : lv_has ls 3 [(0, .ref (B + 0)), (1, .int (zI t9)), (2, .int (zI u9))] := hl
  have hm8 := hS.1.2.1
  have hC : CW M 44 q hv ed o := hS.t
  have hW : isW M 44 o.1 q hv ed o.2.1 o.2.2 := hC.1
  have hwf := hC.wf
  have hKL := hwf.2.2.2.2
  have hn12 := hwf.1
  have hq12 := hwf.2.1
  have hhv := hwf.2.2.1
  have hed := hwf.2.2.2.1
  refine lv_iload_n hx hb wdX11_tone_0 rfl (lv_at hl 1 rfl) ?_
  refine z_if_lt (tgt := 34) hx hb (by omega) wdX11_tone_1 (by decide) (fun c1 => ?_) (fun c1 => ?_)
  · refine lv_iconst (v := zI 0) hx hb wdX11_tone_34 rfl ?_
    exact e_z F w hr hlocks (nar_z (by omega)) (Or.inr ⟨acI_n (by show ¬ (0 ≤ t9 ∧ t9 ≤ (o.1 : Int) ∧ o.1 < 12 ∧ 0 ≤ u9 ∧ u9 ≤ 2); omega), rfl, rfl⟩) wdX11_tone_35
  · refine lv_iload_n hx hb wdX11_tone_4 rfl (lv_at hl 1 rfl) ?_
    refine lv_aload_n hx hb wdX11_tone_5 rfl (lv_at hl 0 rfl) ?_
    refine f_11_4 F w (a := 0) rfl wtb_214 wdX11_tone_6 ?_
    refine f_9_0 F w (a := 44) rfl wtb_234 wdX11_tone_9 ?_
    refine r_val (v := (zI ((o.1 : Nat) : Int))) (hW.1) ?_
    refine z_icmp_gt (tgt := 34) hx hb (by omega) (by omega) wdX11_tone_12 (by decide) (fun c2 => ?_) (fun c2 => ?_)
    · refine lv_iconst (v := zI 0) hx hb wdX11_tone_34 rfl ?_
      exact e_z F w hr hlocks (nar_z (by omega)) (Or.inr ⟨acI_n (by show ¬ (0 ≤ t9 ∧ t9 ≤ (o.1 : Int) ∧ o.1 < 12 ∧ 0 ≤ u9 ∧ u9 ≤ 2); omega), rfl, rfl⟩) wdX11_tone_35
    · refine lv_aload_n hx hb wdX11_tone_15 rfl (lv_at hl 0 rfl) ?_
      refine f_11_4 F w (a := 0) rfl wtb_214 wdX11_tone_16 ?_
      refine f_9_0 F w (a := 44) rfl wtb_234 wdX11_tone_19 ?_
      refine r_val (v := (zI ((o.1 : Nat) : Int))) (hW.1) ?_
      refine lv_bipush (v := zI 12) hx hb wdX11_tone_22 (by decide) ?_
      refine z_icmp_ge (tgt := 34) hx hb (by omega) (by omega) wdX11_tone_24 (by decide) (fun c3 => ?_) (fun c3 => ?_)
      · refine lv_iconst (v := zI 0) hx hb wdX11_tone_34 rfl ?_
        exact e_z F w hr hlocks (nar_z (by omega)) (Or.inr ⟨acI_n (by show ¬ (0 ≤ t9 ∧ t9 ≤ (o.1 : Int) ∧ o.1 < 12 ∧ 0 ≤ u9 ∧ u9 ≤ 2); omega), rfl, rfl⟩) wdX11_tone_35
      · refine lv_iload_n hx hb wdX11_tone_27 rfl (lv_at hl 2 rfl) ?_
        refine k_Si F w (As := [.int (zI u9)]) (rest := []) (g_isKind (y9 := u9) (by omega)) wgs_X11_133 whs_X11_isKind ⟨(Nat.le_of_ble_eq_true rfl), (Nat.le_of_ble_eq_true rfl)⟩ hl.1 rfl (Nat.le_of_ble_eq_true rfl) ⟨Nat.zero_le _, Nat.zero_le _⟩ wdX11_tone_28 (fun r Ma5 H locs hp w => ?_)
        rcases hp with ⟨⟨hb4, rfl⟩ | ⟨hb4, rfl⟩, hMe⟩
        · rw [hMe] at w
          refine z_if_ne (tgt := 36) hx hb (by omega) wdX11_tone_31 (by decide) (fun c6 => ?_) (fun c6 => False.elim (by omega))
          obtain ⟨tn, rfl⟩ : ∃ n9 : Nat, t9 = (n9 : Int) := ⟨Int.toNat t9, by omega⟩
          obtain ⟨un, rfl⟩ : ∃ n9 : Nat, u9 = (n9 : Int) := ⟨Int.toNat u9, by omega⟩
          refine lv_aload_n hx hb wdX11_tone_36 rfl (lv_at hl 0 rfl) ?_
          refine k_Vv F w (As := []) (rest := []) (a := 0) (kd_lt (a := 0) (show kd 0 = (11, 0, 0) from rfl) (by decide)) (sh_11 rfl _ _) rfl (g_beginAct hS) wgv_X11_123 whv_X11_beginAct ⟨(Nat.le_of_ble_eq_true rfl), (Nat.le_of_ble_eq_true rfl)⟩ hl.1 rfl (Nat.le_of_ble_eq_true rfl) ⟨Nat.zero_le _, Nat.zero_le _⟩ wdX11_tone_37 (fun Ma7 H locs hp w => ?_)
          rcases hp with ⟨hS1, hB1⟩
          have hC1 : CW Ma7 44 q hv ed o := hS1.t
          have hW1 : isW Ma7 44 o.1 q hv ed o.2.1 o.2.2 := hC1.1
          refine lv_aload_n hx hb wdX11_tone_40 rfl (lv_at hl 0 rfl) ?_
          refine f_11_4 F w (a := 0) rfl wtb_214 wdX11_tone_41 ?_
          refine lv_iload_n hx hb wdX11_tone_44 rfl (lv_at hl 1 rfl) ?_
          refine lv_iload_n hx hb wdX11_tone_45 rfl (lv_at hl 2 rfl) ?_
          refine k_Vv F w (As := [.int (zI (tn : Int)), .int (zI (un : Int))]) (rest := []) (a := 44) (kd_lt (a := 44) (show kd 44 = (9, 0, 0) from rfl) (by decide)) (sh_9 rfl _ _) rfl (s_X9_insertTone (a := 44) rfl hW1 hC1.wf (t := tn) (x := un) (by omega) (by omega) (by omega)) wgv_X11_137 whv_X9_insertTone ⟨(Nat.le_of_ble_eq_true rfl), (Nat.le_of_ble_eq_true rfl)⟩ hl.1 rfl (Nat.le_of_ble_eq_true rfl) ⟨Nat.zero_le _, Nat.zero_le _⟩ wdX11_tone_46 (fun Ma8 H locs hp w => ?_)
          rcases hp with ⟨hW2, hF2⟩
          refine lv_iconst (v := zI 1) hx hb wdX11_tone_49 rfl ?_
          exact e_z F w hr hlocks (nar_z (by omega)) (Or.inl ⟨_, acI_y (by show 0 ≤ (tn : Int) ∧ (tn : Int) ≤ (o.1 : Int) ∧ o.1 < 12 ∧ 0 ≤ (un : Int) ∧ (un : Int) ≤ 2; omega), rfl, hS1.told hF2 ⟨hW2, okW_ins (o := o) (t := tn) (x := un) hC1.2.1 (by omega) (by omega) (by omega), hC1.2.2⟩, FA.of hB1 hF2⟩) wdX11_tone_50
        · rw [hMe] at w
          refine z_if_ne (tgt := 36) hx hb (by omega) wdX11_tone_31 (by decide) (fun c9 => False.elim (by omega)) (fun c9 => ?_)
          refine lv_iconst (v := zI 0) hx hb wdX11_tone_34 rfl ?_
          exact e_z F w hr hlocks (nar_z (by omega)) (Or.inr ⟨acI_n (by show ¬ (0 ≤ t9 ∧ t9 ≤ (o.1 : Int) ∧ o.1 < 12 ∧ 0 ≤ u9 ∧ u9 ≤ 2); omega), rfl, rfl⟩) wdX11_tone_35
theorem wdX11_hush_0 : decode cX11_hush 0 = .ok (.aload_n 0, 1) := dq0 kk_42 (by decide +kernel)
theorem wdX11_hush_1 : decode cX11_hush 1 = .ok (.getfield 43, 3) := dqV kk_180 (by decide +kernel)
theorem wdX11_hush_4 : decode cX11_hush 4 = .ok (.iload_n 1, 1) := dq0 kk_27 (by decide +kernel)
theorem wdX11_hush_5 : decode cX11_hush 5 = .ok (.invokevirtual 141, 3) := dqV kk_182 (by decide +kernel)
theorem wtb_238 : Cond.methodLink "ToneLines" 141 yX9_hasTone ∈ TB := tbm (tc3 (List.mem_of_getElem? (i := 168) rfl)) rfl
theorem wgv_X11_141 : GoodIn TB (wsV RX11 141 RX9 yX9_hasTone (cw yX9_hasTone cX9_hasTone 2 (some .boolean))) := goodIn_4 wtb_238 wtb_23 wtb_24 wtb_3 wgc_X9_hasTone
theorem wdX11_hush_8 : decode cX11_hush 8 = .ok (.ifCond .ne 5, 3) := dqT kk_154 (by decide +kernel)
theorem wdX11_hush_13 : decode cX11_hush 13 = .ok (.aload_n 0, 1) := dq0 kk_42 (by decide +kernel)
theorem wdX11_hush_14 : decode cX11_hush 14 = .ok (.invokevirtual 123, 3) := dqV kk_182 (by decide +kernel)
theorem wdX11_hush_17 : decode cX11_hush 17 = .ok (.aload_n 0, 1) := dq0 kk_42 (by decide +kernel)
theorem wdX11_hush_18 : decode cX11_hush 18 = .ok (.getfield 43, 3) := dqV kk_180 (by decide +kernel)
theorem wdX11_hush_21 : decode cX11_hush 21 = .ok (.iload_n 1, 1) := dq0 kk_27 (by decide +kernel)
theorem wdX11_hush_22 : decode cX11_hush 22 = .ok (.invokevirtual 144, 3) := dqV kk_182 (by decide +kernel)
theorem wtb_239 : Cond.methodLink "ToneLines" 144 yX9_removeTone ∈ TB := tbm (tc3 (List.mem_of_getElem? (i := 169) rfl)) rfl
theorem wgv_X11_144 : GoodIn TB (wsV RX11 144 RX9 yX9_removeTone (cw yX9_removeTone cX9_removeTone 3 none)) := goodIn_4 wtb_239 wtb_29 wtb_30 wtb_3 wgc_X9_removeTone
theorem wdX11_hush_25 : decode cX11_hush 25 = .ok (.iconst 1, 1) := dq0 kk_4 (by decide +kernel)
theorem wdX11_hush_26 : decode cX11_hush 26 = .ok (.ireturn, 1) := dq0 kk_172 (by decide +kernel)
theorem wdX11_hush_11 : decode cX11_hush 11 = .ok (.iconst 0, 1) := dq0 kk_3 (by decide +kernel)
theorem wdX11_hush_12 : decode cX11_hush 12 = .ok (.ireturn, 1) := dq0 kk_172 (by decide +kernel)
set_option maxRecDepth 4000 in
theorem g_hush {l : Launch} {D : va_G} {B : Nat} {cy : Nat → ClassId} {M : Mem} {Ps : Nat → Nat → Int} {mr rd k q hv ed : Nat} {o : Wo} {Hs : Nat → Fw} (hS : CS M Ps mr (q, hv, ed, o) rd Hs k) {t9 : Int} (ht9 : rg t9) : Ci l D B cy yX11_hush cX11_hush 2 (some .boolean) 4 102 [.ref (B + 0), .int (zI t9)] M (fun r M1 => AQ Ps mr Hs k (q, hv, ed, o) (acHush t9 (q, hv, ed, o)) 1 0 M r M1) := by
  refine s_any (by decide) (Nat.le_of_ble_eq_true rfl) ?_
  intro p e s m below meth c ls F hr hlocks w hl
  have F : CallFix p m c cX11_hush 2 s _ TB RX11 := F
  have hx := F.1
  have hb := F.2.1
  have hl : lv_has ls 2 [(0, .ref (B + 0)), (1, .int (zI t9))] := hl
  have hm8 := hS.1.2.1
  have hC : CW M 44 q hv ed o := hS.t
  have hW : isW M 44 o.1 q hv ed o.2.1 o.2.2 := hC.1
  have hwf := hC.wf
  have hKL := hwf.2.2.2.2
  have hn12 := hwf.1
  have hq12 := hwf.2.1
  have hhv := hwf.2.2.1
  have hed := hwf.2.2.2.1
  refine lv_aload_n hx hb wdX11_hush_0 rfl (lv_at hl 0 rfl) ?_
  refine f_11_4 F w (a := 0) rfl wtb_214 wdX11_hush_1 ?_
  refine lv_iload_n hx hb wdX11_hush_4 rfl (lv_at hl 1 rfl) ?_
  refine k_Vi F w (As := [.int (zI t9)]) (rest := []) (a := 44) (kd_lt (a := 44) (show kd 44 = (9, 0, 0) from rfl) (by decide)) (sh_9 rfl _ _) rfl (s_X9_hasTone (a := 44) rfl hW hwf (by omega)) wgv_X11_141 whv_X9_hasTone ⟨(Nat.le_of_ble_eq_true rfl), (Nat.le_of_ble_eq_true rfl)⟩ hl.1 rfl (Nat.le_of_ble_eq_true rfl) ⟨Nat.zero_le _, Nat.zero_le _⟩ wdX11_hush_5 (fun r Ma1 H locs hp w => ?_)
  rcases hp with ⟨⟨k9, rfl, hk9, rfl⟩ | ⟨nk9, rfl⟩, hMe⟩
  · rw [hMe] at w
    refine z_if_ne (tgt := 13) hx hb (by omega) wdX11_hush_8 (by decide) (fun c2 => ?_) (fun c2 => False.elim (by omega))
    refine lv_aload_n hx hb wdX11_hush_13 rfl (lv_at hl 0 rfl) ?_
    refine k_Vv F w (As := []) (rest := []) (a := 0) (kd_lt (a := 0) (show kd 0 = (11, 0, 0) from rfl) (by decide)) (sh_11 rfl _ _) rfl (g_beginAct hS) wgv_X11_123 whv_X11_beginAct ⟨(Nat.le_of_ble_eq_true rfl), (Nat.le_of_ble_eq_true rfl)⟩ hl.1 rfl (Nat.le_of_ble_eq_true rfl) ⟨Nat.zero_le _, Nat.zero_le _⟩ wdX11_hush_14 (fun Ma3 H locs hp w => ?_)
    rcases hp with ⟨hS1, hB1⟩
    have hC1 : CW Ma3 44 q hv ed o := hS1.t
    have hW1 : isW Ma3 44 o.1 q hv ed o.2.1 o.2.2 := hC1.1
    refine lv_aload_n hx hb wdX11_hush_17 rfl (lv_at hl 0 rfl) ?_
    refine f_11_4 F w (a := 0) rfl wtb_214 wdX11_hush_18 ?_
    refine lv_iload_n hx hb wdX11_hush_21 rfl (lv_at hl 1 rfl) ?_
    refine k_Vv F w (As := [.int (zI (k9 : Int))]) (rest := []) (a := 44) (kd_lt (a := 44) (show kd 44 = (9, 0, 0) from rfl) (by decide)) (sh_9 rfl _ _) rfl (s_X9_removeTone (a := 44) rfl hW1 hC1.wf (t := k9) (by omega)) wgv_X11_144 whv_X9_removeTone ⟨(Nat.le_of_ble_eq_true rfl), (Nat.le_of_ble_eq_true rfl)⟩ hl.1 rfl (Nat.le_of_ble_eq_true rfl) ⟨Nat.zero_le _, Nat.zero_le _⟩ wdX11_hush_22 (fun Ma4 H locs hp w => ?_)
    rcases hp with ⟨hW2, hF2⟩
    refine lv_iconst (v := zI 1) hx hb wdX11_hush_25 rfl ?_
    exact e_z F w hr hlocks (nar_z (by omega)) (Or.inl ⟨_, acI_y (by show 0 ≤ (k9 : Int) ∧ (k9 : Int) < (o.1 : Int); omega), rfl, hS1.told hF2 ⟨hW2, okW_rem hC1.2.1 hk9, hC1.2.2⟩, FA.of hB1 hF2⟩) wdX11_hush_26
  · rw [hMe] at w
    refine z_if_ne (tgt := 13) hx hb (by omega) wdX11_hush_8 (by decide) (fun c5 => False.elim (by omega)) (fun c5 => ?_)
    refine lv_iconst (v := zI 0) hx hb wdX11_hush_11 rfl ?_
    exact e_z F w hr hlocks (nar_z (by omega)) (Or.inr ⟨acI_n nk9, rfl, rfl⟩) wdX11_hush_12
theorem wdX11_turn_0 : decode cX11_turn 0 = .ok (.aload_n 0, 1) := dq0 kk_42 (by decide +kernel)
theorem wdX11_turn_1 : decode cX11_turn 1 = .ok (.getfield 43, 3) := dqV kk_180 (by decide +kernel)
theorem wdX11_turn_4 : decode cX11_turn 4 = .ok (.iload_n 1, 1) := dq0 kk_27 (by decide +kernel)
theorem wdX11_turn_5 : decode cX11_turn 5 = .ok (.invokevirtual 141, 3) := dqV kk_182 (by decide +kernel)
theorem wdX11_turn_8 : decode cX11_turn 8 = .ok (.ifCond .eq 23, 3) := dqT kk_153 (by decide +kernel)
theorem wdX11_turn_11 : decode cX11_turn 11 = .ok (.iload_n 2, 1) := dq0 kk_28 (by decide +kernel)
theorem wdX11_turn_12 : decode cX11_turn 12 = .ok (.invokestatic 133, 3) := dqV kk_184 (by decide +kernel)
theorem wdX11_turn_15 : decode cX11_turn 15 = .ok (.ifCond .eq 16, 3) := dqT kk_153 (by decide +kernel)
theorem wdX11_turn_18 : decode cX11_turn 18 = .ok (.aload_n 0, 1) := dq0 kk_42 (by decide +kernel)
theorem wdX11_turn_19 : decode cX11_turn 19 = .ok (.getfield 43, 3) := dqV kk_180 (by decide +kernel)
theorem wdX11_turn_22 : decode cX11_turn 22 = .ok (.getfield 147, 3) := dqV kk_180 (by decide +kernel)
theorem wtb_240 : Cond.fieldLink "ToneLines" 147 "ToneLines$Word" "kinds" "[I" ∈ TB := tbm (tc1 (List.mem_of_getElem? (i := 143) rfl)) rfl
theorem wdX11_turn_25 : decode cX11_turn 25 = .ok (.iload_n 1, 1) := dq0 kk_27 (by decide +kernel)
theorem wdX11_turn_26 : decode cX11_turn 26 = .ok (.iaload, 1) := dq0 kk_46 (by decide +kernel)
theorem wdX11_turn_27 : decode cX11_turn 27 = .ok (.iload_n 2, 1) := dq0 kk_28 (by decide +kernel)
theorem wdX11_turn_28 : decode cX11_turn 28 = .ok (.if_icmp .ne 5, 3) := dqT kk_160 (by decide +kernel)
theorem wdX11_turn_33 : decode cX11_turn 33 = .ok (.aload_n 0, 1) := dq0 kk_42 (by decide +kernel)
theorem wdX11_turn_34 : decode cX11_turn 34 = .ok (.invokevirtual 123, 3) := dqV kk_182 (by decide +kernel)
theorem wdX11_turn_37 : decode cX11_turn 37 = .ok (.aload_n 0, 1) := dq0 kk_42 (by decide +kernel)
theorem wdX11_turn_38 : decode cX11_turn 38 = .ok (.getfield 43, 3) := dqV kk_180 (by decide +kernel)
theorem wdX11_turn_41 : decode cX11_turn 41 = .ok (.getfield 147, 3) := dqV kk_180 (by decide +kernel)
theorem wdX11_turn_44 : decode cX11_turn 44 = .ok (.iload_n 1, 1) := dq0 kk_27 (by decide +kernel)
theorem wdX11_turn_45 : decode cX11_turn 45 = .ok (.iaload, 1) := dq0 kk_46 (by decide +kernel)
theorem wdX11_turn_46 : decode cX11_turn 46 = .ok (.istore_n 3, 1) := dq0 kk_62 (by decide +kernel)
theorem wdX11_turn_47 : decode cX11_turn 47 = .ok (.aload_n 0, 1) := dq0 kk_42 (by decide +kernel)
theorem wdX11_turn_48 : decode cX11_turn 48 = .ok (.getfield 43, 3) := dqV kk_180 (by decide +kernel)
theorem wdX11_turn_51 : decode cX11_turn 51 = .ok (.getfield 147, 3) := dqV kk_180 (by decide +kernel)
theorem wdX11_turn_54 : decode cX11_turn 54 = .ok (.iload_n 1, 1) := dq0 kk_27 (by decide +kernel)
theorem wdX11_turn_55 : decode cX11_turn 55 = .ok (.iload_n 2, 1) := dq0 kk_28 (by decide +kernel)
theorem wdX11_turn_56 : decode cX11_turn 56 = .ok (.iastore, 1) := dq0 kk_79 (by decide +kernel)
theorem wdX11_turn_57 : decode cX11_turn 57 = .ok (.iload_n 3, 1) := dq0 kk_29 (by decide +kernel)
theorem wdX11_turn_58 : decode cX11_turn 58 = .ok (.ireturn, 1) := dq0 kk_172 (by decide +kernel)
theorem wdX11_turn_31 : decode cX11_turn 31 = .ok (.iconst (-1), 1) := dq0 kk_2 (by decide +kernel)
theorem wdX11_turn_32 : decode cX11_turn 32 = .ok (.ireturn, 1) := dq0 kk_172 (by decide +kernel)
set_option maxRecDepth 4000 in
theorem g_turn {l : Launch} {D : va_G} {B : Nat} {cy : Nat → ClassId} {M : Mem} {Ps : Nat → Nat → Int} {mr rd k q hv ed : Nat} {o : Wo} {Hs : Nat → Fw} (hS : CS M Ps mr (q, hv, ed, o) rd Hs k) {t9 u9 : Int} (ht9 : rg t9) (hu9 : rg u9) : Ci l D B cy yX11_turn cX11_turn 4 (some .int) 4 102 [.ref (B + 0), .int (zI t9), .int (zI u9)] M (fun r M1 => AQ Ps mr Hs k (q, hv, ed, o) (acTurn t9 u9 (q, hv, ed, o)) ((o.2.1 t9.toNat : Nat) : Int) (-1) M r M1) := by
  refine s_any (by decide) (Nat.le_of_ble_eq_true rfl) ?_
  intro p e s m below meth c ls F hr hlocks w hl
  have F : CallFix p m c cX11_turn 4 s _ TB RX11 := F
  have hx := F.1
  have hb := F.2.1
  have hl : lv_has ls 4 [(0, .ref (B + 0)), (1, .int (zI t9)), (2, .int (zI u9))] := hl
  have hm8 := hS.1.2.1
  have hC : CW M 44 q hv ed o := hS.t
  have hW : isW M 44 o.1 q hv ed o.2.1 o.2.2 := hC.1
  have hwf := hC.wf
  have hKL := hwf.2.2.2.2
  have hn12 := hwf.1
  have hq12 := hwf.2.1
  have hhv := hwf.2.2.1
  have hed := hwf.2.2.2.1
  refine lv_aload_n hx hb wdX11_turn_0 rfl (lv_at hl 0 rfl) ?_
  refine f_11_4 F w (a := 0) rfl wtb_214 wdX11_turn_1 ?_
  refine lv_iload_n hx hb wdX11_turn_4 rfl (lv_at hl 1 rfl) ?_
  refine k_Vi F w (As := [.int (zI t9)]) (rest := []) (a := 44) (kd_lt (a := 44) (show kd 44 = (9, 0, 0) from rfl) (by decide)) (sh_9 rfl _ _) rfl (s_X9_hasTone (a := 44) rfl hW hwf (by omega)) wgv_X11_141 whv_X9_hasTone ⟨(Nat.le_of_ble_eq_true rfl), (Nat.le_of_ble_eq_true rfl)⟩ hl.1 rfl (Nat.le_of_ble_eq_true rfl) ⟨Nat.zero_le _, Nat.zero_le _⟩ wdX11_turn_5 (fun r Ma1 H locs hp w => ?_)
  rcases hp with ⟨⟨k9, rfl, hk9, rfl⟩ | ⟨nk9, rfl⟩, hMe⟩
  · rw [hMe] at w
    refine z_if_eq (tgt := 31) hx hb (by omega) wdX11_turn_8 (by decide) (fun c2 => False.elim (by omega)) (fun c2 => ?_)
    refine lv_iload_n hx hb wdX11_turn_11 rfl (lv_at hl 2 rfl) ?_
    refine k_Si F w (As := [.int (zI u9)]) (rest := []) (g_isKind (y9 := u9) (by omega)) wgs_X11_133 whs_X11_isKind ⟨(Nat.le_of_ble_eq_true rfl), (Nat.le_of_ble_eq_true rfl)⟩ hl.1 rfl (Nat.le_of_ble_eq_true rfl) ⟨Nat.zero_le _, Nat.zero_le _⟩ wdX11_turn_12 (fun r Ma4 H locs hp w => ?_)
    rcases hp with ⟨⟨hb3, rfl⟩ | ⟨hb3, rfl⟩, hMe⟩
    · rw [hMe] at w
      refine z_if_eq (tgt := 31) hx hb (by omega) wdX11_turn_15 (by decide) (fun c5 => False.elim (by omega)) (fun c5 => ?_)
      refine lv_aload_n hx hb wdX11_turn_18 rfl (lv_at hl 0 rfl) ?_
      refine f_11_4 F w (a := 0) rfl wtb_214 wdX11_turn_19 ?_
      refine f_9_4 F w (a := 44) rfl wtb_240 wdX11_turn_22 ?_
      refine lv_iload_n hx hb wdX11_turn_25 rfl (lv_at hl 1 rfl) ?_
      refine g_iald F w (a := 45) rfl (j := k9) (ix_n (by omega)) (by omega) wdX11_turn_26 ?_
      have hK5 := (hKL k9 (by omega)).1
      refine r_val (v := (zI (((o.2.1 k9) : Nat) : Int))) (hW.2.2.2.2.1 k9 (by omega)) ?_
      refine lv_iload_n hx hb wdX11_turn_27 rfl (lv_at hl 2 rfl) ?_
      refine z_icmp_ne (tgt := 33) hx hb (by omega) (by omega) wdX11_turn_28 (by decide) (fun c6 => ?_) (fun c6 => ?_)
      · obtain ⟨un, rfl⟩ : ∃ n9 : Nat, u9 = (n9 : Int) := ⟨Int.toNat u9, by omega⟩
        refine lv_aload_n hx hb wdX11_turn_33 rfl (lv_at hl 0 rfl) ?_
        refine k_Vv F w (As := []) (rest := []) (a := 0) (kd_lt (a := 0) (show kd 0 = (11, 0, 0) from rfl) (by decide)) (sh_11 rfl _ _) rfl (g_beginAct hS) wgv_X11_123 whv_X11_beginAct ⟨(Nat.le_of_ble_eq_true rfl), (Nat.le_of_ble_eq_true rfl)⟩ hl.1 rfl (Nat.le_of_ble_eq_true rfl) ⟨Nat.zero_le _, Nat.zero_le _⟩ wdX11_turn_34 (fun Ma7 H locs hp w => ?_)
        rcases hp with ⟨hS1, hB1⟩
        have hC1 : CW Ma7 44 q hv ed o := hS1.t
        have hW1 : isW Ma7 44 o.1 q hv ed o.2.1 o.2.2 := hC1.1
        refine lv_aload_n hx hb wdX11_turn_37 rfl (lv_at hl 0 rfl) ?_
        refine f_11_4 F w (a := 0) rfl wtb_214 wdX11_turn_38 ?_
        refine f_9_4 F w (a := 44) rfl wtb_240 wdX11_turn_41 ?_
        refine lv_iload_n hx hb wdX11_turn_44 rfl (lv_at hl 1 rfl) ?_
        refine g_iald F w (a := 45) rfl (j := k9) (ix_n (by omega)) (by omega) wdX11_turn_45 ?_
        have hK7 := (hKL k9 (by omega)).1
        refine r_val (v := (zI (((o.2.1 k9) : Nat) : Int))) (hW1.2.2.2.2.1 k9 (by omega)) ?_
        refine lv_istore_n (lv' := [(3, .int (zI (((o.2.1 k9) : Nat) : Int))), (0, .ref (B + 0)), (1, .int (zI (k9 : Int))), (2, .int (zI (un : Int)))]) hx hb wdX11_turn_46 rfl hl (by decide) rfl (fun ls hl => ?_)
        refine lv_aload_n hx hb wdX11_turn_47 rfl (lv_at hl 1 rfl) ?_
        refine f_11_4 F w (a := 0) rfl wtb_214 wdX11_turn_48 ?_
        refine f_9_4 F w (a := 44) rfl wtb_240 wdX11_turn_51 ?_
        refine lv_iload_n hx hb wdX11_turn_54 rfl (lv_at hl 2 rfl) ?_
        refine lv_iload_n hx hb wdX11_turn_55 rfl (lv_at hl 3 rfl) ?_
        refine g_iast F w (a := 45) rfl (j := k9) (ix_n (by omega)) (by omega) wdX11_turn_56 (fun H locs w => ?_)
        refine lv_iload_n hx hb wdX11_turn_57 rfl (lv_at hl 0 rfl) ?_
        exact e_i F w hr hlocks (Or.inl ⟨_, acI_y (by show 0 ≤ (k9 : Int) ∧ (k9 : Int) < (o.1 : Int) ∧ 0 ≤ (un : Int) ∧ (un : Int) ≤ 2 ∧ (o.2.1 k9 : Int) ≠ (un : Int); omega), rfl, hS1.told (wkindW hW1).2 ⟨(wkindW hW1).1, okW_kind hC1.2.1 (by omega), hC1.2.2⟩, FA.of hB1 (wkindW hW1).2⟩) wdX11_turn_58
      · refine lv_iconst (v := zI (-1)) hx hb wdX11_turn_31 rfl ?_
        exact e_i F w hr hlocks (Or.inr ⟨acI_n (by show ¬ (0 ≤ (k9 : Int) ∧ (k9 : Int) < (o.1 : Int) ∧ 0 ≤ u9 ∧ u9 ≤ 2 ∧ (o.2.1 k9 : Int) ≠ u9); omega), rfl, rfl⟩) wdX11_turn_32
    · rw [hMe] at w
      refine z_if_eq (tgt := 31) hx hb (by omega) wdX11_turn_15 (by decide) (fun c8 => ?_) (fun c8 => False.elim (by omega))
      refine lv_iconst (v := zI (-1)) hx hb wdX11_turn_31 rfl ?_
      exact e_i F w hr hlocks (Or.inr ⟨acI_n (by show ¬ (0 ≤ (k9 : Int) ∧ (k9 : Int) < (o.1 : Int) ∧ 0 ≤ u9 ∧ u9 ≤ 2 ∧ (o.2.1 k9 : Int) ≠ u9); omega), rfl, rfl⟩) wdX11_turn_32
  · rw [hMe] at w
    refine z_if_eq (tgt := 31) hx hb (by omega) wdX11_turn_8 (by decide) (fun c9 => ?_) (fun c9 => False.elim (by omega))
    refine lv_iconst (v := zI (-1)) hx hb wdX11_turn_31 rfl ?_
    exact e_i F w hr hlocks (Or.inr ⟨acI_n (fun h9 => nk9 ⟨h9.1, h9.2.1⟩), rfl, rfl⟩) wdX11_turn_32
theorem wdX11_grow_0 : decode cX11_grow 0 = .ok (.aload_n 0, 1) := dq0 kk_42 (by decide +kernel)
theorem wdX11_grow_1 : decode cX11_grow 1 = .ok (.getfield 43, 3) := dqV kk_180 (by decide +kernel)
theorem wdX11_grow_4 : decode cX11_grow 4 = .ok (.getfield 150, 3) := dqV kk_180 (by decide +kernel)
theorem wtb_241 : Cond.fieldLink "ToneLines" 150 "ToneLines$Word" "syllables" "I" ∈ TB := tbm (tc1 (List.mem_of_getElem? (i := 139) rfl)) rfl
theorem wdX11_grow_7 : decode cX11_grow 7 = .ok (.bipush 12, 2) := dqS kk_16 (by decide +kernel)
theorem wdX11_grow_9 : decode cX11_grow 9 = .ok (.if_icmp .lt 5, 3) := dqT kk_161 (by decide +kernel)
theorem wdX11_grow_14 : decode cX11_grow 14 = .ok (.aload_n 0, 1) := dq0 kk_42 (by decide +kernel)
theorem wdX11_grow_15 : decode cX11_grow 15 = .ok (.invokevirtual 123, 3) := dqV kk_182 (by decide +kernel)
theorem wdX11_grow_18 : decode cX11_grow 18 = .ok (.aload_n 0, 1) := dq0 kk_42 (by decide +kernel)
theorem wdX11_grow_19 : decode cX11_grow 19 = .ok (.getfield 43, 3) := dqV kk_180 (by decide +kernel)
theorem wdX11_grow_22 : decode cX11_grow 22 = .ok (.iload_n 1, 1) := dq0 kk_27 (by decide +kernel)
theorem wdX11_grow_23 : decode cX11_grow 23 = .ok (.iload_n 2, 1) := dq0 kk_28 (by decide +kernel)
theorem wdX11_grow_24 : decode cX11_grow 24 = .ok (.invokevirtual 153, 3) := dqV kk_182 (by decide +kernel)
theorem wtk_X9_addSyllable : Cond.code yX9_addSyllable cX9_addSyllable 3 none ∈ TB := tbm (tc2 (List.mem_of_getElem? (i := 222) rfl)) rfl
theorem wgc_X9_addSyllable : GoodIn TB (cw yX9_addSyllable cX9_addSyllable 3 none) := goodIn_c2 wtk_X9_addSyllable
theorem wtb_242 : Cond.methodLink "ToneLines" 153 yX9_addSyllable ∈ TB := tbm (tc3 (List.mem_of_getElem? (i := 181) rfl)) rfl
theorem wtb_243 : Cond.instanceMethod yX9_addSyllable ∈ TB := tbm (tc2 (List.mem_of_getElem? (i := 220) rfl)) rfl
theorem wtb_244 : Cond.selects "ToneLines$Word" yX9_addSyllable yX9_addSyllable ∈ TB := tbm (tc2 (List.mem_of_getElem? (i := 221) rfl)) rfl
theorem wgv_X11_153 : GoodIn TB (wsV RX11 153 RX9 yX9_addSyllable (cw yX9_addSyllable cX9_addSyllable 3 none)) := goodIn_4 wtb_242 wtb_243 wtb_244 wtb_3 wgc_X9_addSyllable
theorem whv_X9_addSyllable : yX9_addSyllable.cls = RX9 ∧ yX9_addSyllable.cls ≠ "java/lang/invoke/MethodHandle" ∧ yX9_addSyllable.cls ≠ "java/lang/invoke/VarHandle" ∧ (parseMethodDescriptor yX9_addSyllable.desc).map (fun d => d.parameters.length) = some 2 := by decide +kernel
theorem wdX11_grow_27 : decode cX11_grow 27 = .ok (.iconst 1, 1) := dq0 kk_4 (by decide +kernel)
theorem wdX11_grow_28 : decode cX11_grow 28 = .ok (.ireturn, 1) := dq0 kk_172 (by decide +kernel)
theorem wdX11_grow_12 : decode cX11_grow 12 = .ok (.iconst 0, 1) := dq0 kk_3 (by decide +kernel)
theorem wdX11_grow_13 : decode cX11_grow 13 = .ok (.ireturn, 1) := dq0 kk_172 (by decide +kernel)
set_option maxRecDepth 4000 in
theorem g_grow {l : Launch} {D : va_G} {B : Nat} {cy : Nat → ClassId} {M : Mem} {Ps : Nat → Nat → Int} {mr rd k q hv ed : Nat} {o : Wo} {Hs : Nat → Fw} (hS : CS M Ps mr (q, hv, ed, o) rd Hs k) {b1 b2 : Nat} (hb1 : b1 = 0 ∨ b1 = 1) (hb2 : b2 = 0 ∨ b2 = 1) : Ci l D B cy yX11_grow cX11_grow 3 (some .boolean) 4 102 [.ref (B + 0), .int (zI (b1 : Int)), .int (zI (b2 : Int))] M (fun r M1 => AQ Ps mr Hs k (q, hv, ed, o) (acGrow b1 b2 (q, hv, ed, o)) 1 0 M r M1) := by
  refine s_any (by decide) (Nat.le_of_ble_eq_true rfl) ?_
  intro p e s m below meth c ls F hr hlocks w hl
  have F : CallFix p m c cX11_grow 3 s _ TB RX11 := F
  have hx := F.1
  have hb := F.2.1
  have hl : lv_has ls 3 [(0, .ref (B + 0)), (1, .int (zI (b1 : Int))), (2, .int (zI (b2 : Int)))] := hl
  have hm8 := hS.1.2.1
  have hC : CW M 44 q hv ed o := hS.t
  have hW : isW M 44 o.1 q hv ed o.2.1 o.2.2 := hC.1
  have hwf := hC.wf
  have hKL := hwf.2.2.2.2
  have hn12 := hwf.1
  have hq12 := hwf.2.1
  have hhv := hwf.2.2.1
  have hed := hwf.2.2.2.1
  refine lv_aload_n hx hb wdX11_grow_0 rfl (lv_at hl 0 rfl) ?_
  refine f_11_4 F w (a := 0) rfl wtb_214 wdX11_grow_1 ?_
  refine f_9_1 F w (a := 44) rfl wtb_241 wdX11_grow_4 ?_
  refine r_val (v := (zI (q : Int))) (hW.2.1) ?_
  refine lv_bipush (v := zI 12) hx hb wdX11_grow_7 (by decide) ?_
  refine z_icmp_lt (tgt := 14) hx hb (by omega) (by omega) wdX11_grow_9 (by decide) (fun c1 => ?_) (fun c1 => ?_)
  · refine lv_aload_n hx hb wdX11_grow_14 rfl (lv_at hl 0 rfl) ?_
    refine k_Vv F w (As := []) (rest := []) (a := 0) (kd_lt (a := 0) (show kd 0 = (11, 0, 0) from rfl) (by decide)) (sh_11 rfl _ _) rfl (g_beginAct hS) wgv_X11_123 whv_X11_beginAct ⟨(Nat.le_of_ble_eq_true rfl), (Nat.le_of_ble_eq_true rfl)⟩ hl.1 rfl (Nat.le_of_ble_eq_true rfl) ⟨Nat.zero_le _, Nat.zero_le _⟩ wdX11_grow_15 (fun Ma2 H locs hp w => ?_)
    rcases hp with ⟨hS1, hB1⟩
    have hC1 : CW Ma2 44 q hv ed o := hS1.t
    have hW1 : isW Ma2 44 o.1 q hv ed o.2.1 o.2.2 := hC1.1
    refine lv_aload_n hx hb wdX11_grow_18 rfl (lv_at hl 0 rfl) ?_
    refine f_11_4 F w (a := 0) rfl wtb_214 wdX11_grow_19 ?_
    refine lv_iload_n hx hb wdX11_grow_22 rfl (lv_at hl 1 rfl) ?_
    refine lv_iload_n hx hb wdX11_grow_23 rfl (lv_at hl 2 rfl) ?_
    refine k_Vv F w (As := [.int (zI (b1 : Int)), .int (zI (b2 : Int))]) (rest := []) (a := 44) (kd_lt (a := 44) (show kd 44 = (9, 0, 0) from rfl) (by decide)) (sh_9 rfl _ _) rfl (s_X9_addSyllable (a := 44) rfl hW1 hC1.wf (x := b1) (y := b2) (by omega) hb1 hb2) wgv_X11_153 whv_X9_addSyllable ⟨(Nat.le_of_ble_eq_true rfl), (Nat.le_of_ble_eq_true rfl)⟩ hl.1 rfl (Nat.le_of_ble_eq_true rfl) ⟨Nat.zero_le _, Nat.zero_le _⟩ wdX11_grow_24 (fun Ma3 H locs hp w => ?_)
    rcases hp with ⟨hW2, hF2⟩
    refine lv_iconst (v := zI 1) hx hb wdX11_grow_27 rfl ?_
    exact e_z F w hr hlocks (nar_z (by omega)) (Or.inl ⟨_, acI_y (by show q < 12; omega), rfl, hS1.told hF2 ⟨hW2, okW_q hC1.2.1 (Nat.le_succ q) (by omega), sbit_lt hC1.2.2.1 (by omega), sbit_lt hC1.2.2.2 (by omega)⟩, FA.of hB1 hF2⟩) wdX11_grow_28
  · refine lv_iconst (v := zI 0) hx hb wdX11_grow_12 rfl ?_
    exact e_z F w hr hlocks (nar_z (by omega)) (Or.inr ⟨acI_n (by show ¬ q < 12; omega), rfl, rfl⟩) wdX11_grow_13
theorem wdX11_shrink_0 : decode cX11_shrink 0 = .ok (.aload_n 0, 1) := dq0 kk_42 (by decide +kernel)
theorem wdX11_shrink_1 : decode cX11_shrink 1 = .ok (.getfield 43, 3) := dqV kk_180 (by decide +kernel)
theorem wdX11_shrink_4 : decode cX11_shrink 4 = .ok (.getfield 150, 3) := dqV kk_180 (by decide +kernel)
theorem wdX11_shrink_7 : decode cX11_shrink 7 = .ok (.ifCond .gt 5, 3) := dqT kk_157 (by decide +kernel)
theorem wdX11_shrink_12 : decode cX11_shrink 12 = .ok (.aload_n 0, 1) := dq0 kk_42 (by decide +kernel)
theorem wdX11_shrink_13 : decode cX11_shrink 13 = .ok (.invokevirtual 123, 3) := dqV kk_182 (by decide +kernel)
theorem wdX11_shrink_16 : decode cX11_shrink 16 = .ok (.aload_n 0, 1) := dq0 kk_42 (by decide +kernel)
theorem wdX11_shrink_17 : decode cX11_shrink 17 = .ok (.getfield 43, 3) := dqV kk_180 (by decide +kernel)
theorem wdX11_shrink_20 : decode cX11_shrink 20 = .ok (.invokevirtual 157, 3) := dqV kk_182 (by decide +kernel)
theorem wtk_X9_removeSyllable : Cond.code yX9_removeSyllable cX9_removeSyllable 2 none ∈ TB := tbm (tc3 (List.mem_of_getElem? (i := 189) rfl)) rfl
theorem wgc_X9_removeSyllable : GoodIn TB (cw yX9_removeSyllable cX9_removeSyllable 2 none) := goodIn_c2 wtk_X9_removeSyllable
theorem wtb_245 : Cond.methodLink "ToneLines" 157 yX9_removeSyllable ∈ TB := tbm (tc3 (List.mem_of_getElem? (i := 186) rfl)) rfl
theorem wtb_246 : Cond.instanceMethod yX9_removeSyllable ∈ TB := tbm (tc3 (List.mem_of_getElem? (i := 187) rfl)) rfl
theorem wtb_247 : Cond.selects "ToneLines$Word" yX9_removeSyllable yX9_removeSyllable ∈ TB := tbm (tc3 (List.mem_of_getElem? (i := 188) rfl)) rfl
theorem wgv_X11_157 : GoodIn TB (wsV RX11 157 RX9 yX9_removeSyllable (cw yX9_removeSyllable cX9_removeSyllable 2 none)) := goodIn_4 wtb_245 wtb_246 wtb_247 wtb_3 wgc_X9_removeSyllable
theorem whv_X9_removeSyllable : yX9_removeSyllable.cls = RX9 ∧ yX9_removeSyllable.cls ≠ "java/lang/invoke/MethodHandle" ∧ yX9_removeSyllable.cls ≠ "java/lang/invoke/VarHandle" ∧ (parseMethodDescriptor yX9_removeSyllable.desc).map (fun d => d.parameters.length) = some 0 := by decide +kernel
theorem wdX11_shrink_23 : decode cX11_shrink 23 = .ok (.iconst 1, 1) := dq0 kk_4 (by decide +kernel)
theorem wdX11_shrink_24 : decode cX11_shrink 24 = .ok (.ireturn, 1) := dq0 kk_172 (by decide +kernel)
theorem wdX11_shrink_10 : decode cX11_shrink 10 = .ok (.iconst 0, 1) := dq0 kk_3 (by decide +kernel)
theorem wdX11_shrink_11 : decode cX11_shrink 11 = .ok (.ireturn, 1) := dq0 kk_172 (by decide +kernel)
set_option maxRecDepth 4000 in
theorem g_shrink {l : Launch} {D : va_G} {B : Nat} {cy : Nat → ClassId} {M : Mem} {Ps : Nat → Nat → Int} {mr rd k q hv ed : Nat} {o : Wo} {Hs : Nat → Fw} (hS : CS M Ps mr (q, hv, ed, o) rd Hs k)  : Ci l D B cy yX11_shrink cX11_shrink 1 (some .boolean) 4 102 [.ref (B + 0)] M (fun r M1 => AQ Ps mr Hs k (q, hv, ed, o) (acShrink (q, hv, ed, o)) 1 0 M r M1) := by
  refine s_any (by decide) (Nat.le_of_ble_eq_true rfl) ?_
  intro p e s m below meth c ls F hr hlocks w hl
  have F : CallFix p m c cX11_shrink 1 s _ TB RX11 := F
  have hx := F.1
  have hb := F.2.1
  have hl : lv_has ls 1 [(0, .ref (B + 0))] := hl
  have hm8 := hS.1.2.1
  have hC : CW M 44 q hv ed o := hS.t
  have hW : isW M 44 o.1 q hv ed o.2.1 o.2.2 := hC.1
  have hwf := hC.wf
  have hKL := hwf.2.2.2.2
  have hn12 := hwf.1
  have hq12 := hwf.2.1
  have hhv := hwf.2.2.1
  have hed := hwf.2.2.2.1
  refine lv_aload_n hx hb wdX11_shrink_0 rfl (lv_at hl 0 rfl) ?_
  refine f_11_4 F w (a := 0) rfl wtb_214 wdX11_shrink_1 ?_
  refine f_9_1 F w (a := 44) rfl wtb_241 wdX11_shrink_4 ?_
  refine r_val (v := (zI (q : Int))) (hW.2.1) ?_
  refine z_if_gt (tgt := 12) hx hb (by omega) wdX11_shrink_7 (by decide) (fun c1 => ?_) (fun c1 => ?_)
  · refine lv_aload_n hx hb wdX11_shrink_12 rfl (lv_at hl 0 rfl) ?_
    refine k_Vv F w (As := []) (rest := []) (a := 0) (kd_lt (a := 0) (show kd 0 = (11, 0, 0) from rfl) (by decide)) (sh_11 rfl _ _) rfl (g_beginAct hS) wgv_X11_123 whv_X11_beginAct ⟨(Nat.le_of_ble_eq_true rfl), (Nat.le_of_ble_eq_true rfl)⟩ hl.1 rfl (Nat.le_of_ble_eq_true rfl) ⟨Nat.zero_le _, Nat.zero_le _⟩ wdX11_shrink_13 (fun Ma2 H locs hp w => ?_)
    rcases hp with ⟨hS1, hB1⟩
    have hC1 : CW Ma2 44 q hv ed o := hS1.t
    have hW1 : isW Ma2 44 o.1 q hv ed o.2.1 o.2.2 := hC1.1
    refine lv_aload_n hx hb wdX11_shrink_16 rfl (lv_at hl 0 rfl) ?_
    refine f_11_4 F w (a := 0) rfl wtb_214 wdX11_shrink_17 ?_
    refine k_Vv F w (As := []) (rest := []) (a := 44) (kd_lt (a := 44) (show kd 44 = (9, 0, 0) from rfl) (by decide)) (sh_9 rfl _ _) rfl (g_removeSyllable (a := 44) rfl hC1 (by omega)) wgv_X11_157 whv_X9_removeSyllable ⟨(Nat.le_of_ble_eq_true rfl), (Nat.le_of_ble_eq_true rfl)⟩ hl.1 rfl (Nat.le_of_ble_eq_true rfl) ⟨Nat.zero_le _, Nat.zero_le _⟩ wdX11_shrink_20 (fun Ma3 H locs hp w => ?_)
    rcases hp with ⟨hW2, hF2⟩
    refine lv_iconst (v := zI 1) hx hb wdX11_shrink_23 rfl ?_
    exact e_z F w hr hlocks (nar_z (by omega)) (Or.inl ⟨_, acI_y (by show 0 < q; omega), rfl, hS1.told hF2 ⟨hW2, ⟨hC1.2.1.1, Nat.le_trans (Nat.sub_le _ _) hC1.2.1.2.1, fun k8 hk8 => ⟨(hC1.2.1.2.2 k8 hk8).1, shL_ok (by omega) (fun k7 hk7 => (hC1.2.1.2.2 k7 hk7).2) k8 hk8⟩⟩, hC1.2.2⟩, FA.of hB1 hF2⟩) wdX11_shrink_24
  · refine lv_iconst (v := zI 0) hx hb wdX11_shrink_10 rfl ?_
    exact e_z F w hr hlocks (nar_z (by omega)) (Or.inr ⟨acI_n (by show ¬ 0 < q; omega), rfl, rfl⟩) wdX11_shrink_11
theorem wdX11_mark_0 : decode cX11_mark 0 = .ok (.aload_n 0, 1) := dq0 kk_42 (by decide +kernel)
theorem wdX11_mark_1 : decode cX11_mark 1 = .ok (.getfield 43, 3) := dqV kk_180 (by decide +kernel)
theorem wdX11_mark_4 : decode cX11_mark 4 = .ok (.iload_n 1, 1) := dq0 kk_27 (by decide +kernel)
theorem wdX11_mark_5 : decode cX11_mark 5 = .ok (.invokevirtual 160, 3) := dqV kk_182 (by decide +kernel)
theorem wtk_X9_hasSyllable : Cond.code yX9_hasSyllable cX9_hasSyllable 2 (some .boolean) ∈ TB := tk_X9_hasSyllable
theorem wgc_X9_hasSyllable : GoodIn TB (cw yX9_hasSyllable cX9_hasSyllable 2 (some .boolean)) := goodIn_c2 wtk_X9_hasSyllable
theorem wtb_248 : Cond.methodLink "ToneLines" 160 yX9_hasSyllable ∈ TB := tbm (tc3 (List.mem_of_getElem? (i := 194) rfl)) rfl
theorem wtb_249 : Cond.instanceMethod yX9_hasSyllable ∈ TB := tb_9
theorem wtb_250 : Cond.selects "ToneLines$Word" yX9_hasSyllable yX9_hasSyllable ∈ TB := tb_10
theorem wgv_X11_160 : GoodIn TB (wsV RX11 160 RX9 yX9_hasSyllable (cw yX9_hasSyllable cX9_hasSyllable 2 (some .boolean))) := goodIn_4 wtb_248 wtb_249 wtb_250 wtb_3 wgc_X9_hasSyllable
theorem whv_X9_hasSyllable : yX9_hasSyllable.cls = RX9 ∧ yX9_hasSyllable.cls ≠ "java/lang/invoke/MethodHandle" ∧ yX9_hasSyllable.cls ≠ "java/lang/invoke/VarHandle" ∧ (parseMethodDescriptor yX9_hasSyllable.desc).map (fun d => d.parameters.length) = some 1 := hv_X9_hasSyllable
theorem wdX11_mark_8 : decode cX11_mark 8 = .ok (.ifCond .ne 5, 3) := dqT kk_154 (by decide +kernel)
theorem wdX11_mark_13 : decode cX11_mark 13 = .ok (.aload_n 0, 1) := dq0 kk_42 (by decide +kernel)
theorem wdX11_mark_14 : decode cX11_mark 14 = .ok (.getfield 43, 3) := dqV kk_180 (by decide +kernel)
theorem wdX11_mark_17 : decode cX11_mark 17 = .ok (.iload_n 1, 1) := dq0 kk_27 (by decide +kernel)
theorem wdX11_mark_18 : decode cX11_mark 18 = .ok (.invokevirtual 163, 3) := dqV kk_182 (by decide +kernel)
theorem wtb_251 : Cond.methodLink "ToneLines" 163 yX9_isHeavy ∈ TB := tbm (tc3 (List.mem_of_getElem? (i := 195) rfl)) rfl
theorem wgv_X11_163 : GoodIn TB (wsV RX11 163 RX9 yX9_isHeavy (cw yX9_isHeavy cX9_isHeavy 2 (some .boolean))) := goodIn_4 wtb_251 wtb_10 wtb_11 wtb_3 wgc_X9_isHeavy
theorem wdX11_mark_21 : decode cX11_mark 21 = .ok (.iload_n 2, 1) := dq0 kk_28 (by decide +kernel)
theorem wdX11_mark_22 : decode cX11_mark 22 = .ok (.if_icmp .ne 17, 3) := dqT kk_160 (by decide +kernel)
theorem wdX11_mark_39 : decode cX11_mark 39 = .ok (.aload_n 0, 1) := dq0 kk_42 (by decide +kernel)
theorem wdX11_mark_40 : decode cX11_mark 40 = .ok (.invokevirtual 123, 3) := dqV kk_182 (by decide +kernel)
theorem wdX11_mark_43 : decode cX11_mark 43 = .ok (.aload_n 0, 1) := dq0 kk_42 (by decide +kernel)
theorem wdX11_mark_44 : decode cX11_mark 44 = .ok (.getfield 43, 3) := dqV kk_180 (by decide +kernel)
theorem wdX11_mark_47 : decode cX11_mark 47 = .ok (.iload_n 1, 1) := dq0 kk_27 (by decide +kernel)
theorem wdX11_mark_48 : decode cX11_mark 48 = .ok (.iload_n 2, 1) := dq0 kk_28 (by decide +kernel)
theorem wdX11_mark_49 : decode cX11_mark 49 = .ok (.iload_n 3, 1) := dq0 kk_29 (by decide +kernel)
theorem wdX11_mark_50 : decode cX11_mark 50 = .ok (.invokevirtual 169, 3) := dqV kk_182 (by decide +kernel)
theorem wtk_X9_setSyllable : Cond.code yX9_setSyllable cX9_setSyllable 5 none ∈ TB := tk_X9_setSyllable
theorem wgc_X9_setSyllable : GoodIn TB (cw yX9_setSyllable cX9_setSyllable 5 none) := goodIn_c2 wtk_X9_setSyllable
theorem wtb_252 : Cond.methodLink "ToneLines" 169 yX9_setSyllable ∈ TB := tbm (tc3 (List.mem_of_getElem? (i := 203) rfl)) rfl
theorem wtb_253 : Cond.instanceMethod yX9_setSyllable ∈ TB := tb_27
theorem wtb_254 : Cond.selects "ToneLines$Word" yX9_setSyllable yX9_setSyllable ∈ TB := tb_28
theorem wgv_X11_169 : GoodIn TB (wsV RX11 169 RX9 yX9_setSyllable (cw yX9_setSyllable cX9_setSyllable 5 none)) := goodIn_4 wtb_252 wtb_253 wtb_254 wtb_3 wgc_X9_setSyllable
theorem whv_X9_setSyllable : yX9_setSyllable.cls = RX9 ∧ yX9_setSyllable.cls ≠ "java/lang/invoke/MethodHandle" ∧ yX9_setSyllable.cls ≠ "java/lang/invoke/VarHandle" ∧ (parseMethodDescriptor yX9_setSyllable.desc).map (fun d => d.parameters.length) = some 3 := hv_X9_setSyllable
theorem wdX11_mark_53 : decode cX11_mark 53 = .ok (.iconst 1, 1) := dq0 kk_4 (by decide +kernel)
theorem wdX11_mark_54 : decode cX11_mark 54 = .ok (.ireturn, 1) := dq0 kk_172 (by decide +kernel)
theorem wdX11_mark_25 : decode cX11_mark 25 = .ok (.aload_n 0, 1) := dq0 kk_42 (by decide +kernel)
theorem wdX11_mark_26 : decode cX11_mark 26 = .ok (.getfield 43, 3) := dqV kk_180 (by decide +kernel)
theorem wdX11_mark_29 : decode cX11_mark 29 = .ok (.iload_n 1, 1) := dq0 kk_27 (by decide +kernel)
theorem wdX11_mark_30 : decode cX11_mark 30 = .ok (.invokevirtual 166, 3) := dqV kk_182 (by decide +kernel)
theorem wtk_X9_hasEdge : Cond.code yX9_hasEdge cX9_hasEdge 2 (some .boolean) ∈ TB := tk_X9_hasEdge
theorem wgc_X9_hasEdge : GoodIn TB (cw yX9_hasEdge cX9_hasEdge 2 (some .boolean)) := goodIn_c2 wtk_X9_hasEdge
theorem wtb_255 : Cond.methodLink "ToneLines" 166 yX9_hasEdge ∈ TB := tbm (tc3 (List.mem_of_getElem? (i := 199) rfl)) rfl
theorem wtb_256 : Cond.instanceMethod yX9_hasEdge ∈ TB := tb_99
theorem wtb_257 : Cond.selects "ToneLines$Word" yX9_hasEdge yX9_hasEdge ∈ TB := tb_100
theorem wgv_X11_166 : GoodIn TB (wsV RX11 166 RX9 yX9_hasEdge (cw yX9_hasEdge cX9_hasEdge 2 (some .boolean))) := goodIn_4 wtb_255 wtb_256 wtb_257 wtb_3 wgc_X9_hasEdge
theorem whv_X9_hasEdge : yX9_hasEdge.cls = RX9 ∧ yX9_hasEdge.cls ≠ "java/lang/invoke/MethodHandle" ∧ yX9_hasEdge.cls ≠ "java/lang/invoke/VarHandle" ∧ (parseMethodDescriptor yX9_hasEdge.desc).map (fun d => d.parameters.length) = some 1 := hv_X9_hasEdge
theorem wdX11_mark_33 : decode cX11_mark 33 = .ok (.iload_n 3, 1) := dq0 kk_29 (by decide +kernel)
theorem wdX11_mark_34 : decode cX11_mark 34 = .ok (.if_icmp .ne 5, 3) := dqT kk_160 (by decide +kernel)
theorem wdX11_mark_37 : decode cX11_mark 37 = .ok (.iconst 0, 1) := dq0 kk_3 (by decide +kernel)
theorem wdX11_mark_38 : decode cX11_mark 38 = .ok (.ireturn, 1) := dq0 kk_172 (by decide +kernel)
theorem wdX11_mark_11 : decode cX11_mark 11 = .ok (.iconst 0, 1) := dq0 kk_3 (by decide +kernel)
theorem wdX11_mark_12 : decode cX11_mark 12 = .ok (.ireturn, 1) := dq0 kk_172 (by decide +kernel)
set_option maxRecDepth 4000 in
theorem g_mark {l : Launch} {D : va_G} {B : Nat} {cy : Nat → ClassId} {M : Mem} {Ps : Nat → Nat → Int} {mr rd k q hv ed : Nat} {o : Wo} {Hs : Nat → Fw} (hS : CS M Ps mr (q, hv, ed, o) rd Hs k) {u9 : Int} (hu9 : rg u9) {b1 b2 : Nat} (hb1 : b1 = 0 ∨ b1 = 1) (hb2 : b2 = 0 ∨ b2 = 1) : Ci l D B cy yX11_mark cX11_mark 4 (some .boolean) 4 102 [.ref (B + 0), .int (zI u9), .int (zI (b1 : Int)), .int (zI (b2 : Int))] M (fun r M1 => AQ Ps mr Hs k (q, hv, ed, o) (acMark u9 b1 b2 (q, hv, ed, o)) 1 0 M r M1) := by
  refine s_any (by decide) (Nat.le_of_ble_eq_true rfl) ?_
  intro p e s m below meth c ls F hr hlocks w hl
  have F : CallFix p m c cX11_mark 4 s _ TB RX11 := F
  have hx := F.1
  have hb := F.2.1
  have hl : lv_has ls 4 [(0, .ref (B + 0)), (1, .int (zI u9)), (2, .int (zI (b1 : Int))), (3, .int (zI (b2 : Int)))] := hl
  have hm8 := hS.1.2.1
  have hC : CW M 44 q hv ed o := hS.t
  have hW : isW M 44 o.1 q hv ed o.2.1 o.2.2 := hC.1
  have hwf := hC.wf
  have hKL := hwf.2.2.2.2
  have hn12 := hwf.1
  have hq12 := hwf.2.1
  have hhv := hwf.2.2.1
  have hed := hwf.2.2.2.1
  refine lv_aload_n hx hb wdX11_mark_0 rfl (lv_at hl 0 rfl) ?_
  refine f_11_4 F w (a := 0) rfl wtb_214 wdX11_mark_1 ?_
  refine lv_iload_n hx hb wdX11_mark_4 rfl (lv_at hl 1 rfl) ?_
  refine k_Vi F w (As := [.int (zI u9)]) (rest := []) (a := 44) (kd_lt (a := 44) (show kd 44 = (9, 0, 0) from rfl) (by decide)) (sh_9 rfl _ _) rfl (s_X9_hasSyllable (a := 44) rfl hW hwf (by omega)) wgv_X11_160 whv_X9_hasSyllable ⟨(Nat.le_of_ble_eq_true rfl), (Nat.le_of_ble_eq_true rfl)⟩ hl.1 rfl (Nat.le_of_ble_eq_true rfl) ⟨Nat.zero_le _, Nat.zero_le _⟩ wdX11_mark_5 (fun r Ma1 H locs hp w => ?_)
  rcases hp with ⟨⟨k9, rfl, hk9, rfl⟩ | ⟨nk9, rfl⟩, hMe⟩
  · rw [hMe] at w
    refine z_if_ne (tgt := 13) hx hb (by omega) wdX11_mark_8 (by decide) (fun c2 => ?_) (fun c2 => False.elim (by omega))
    refine lv_aload_n hx hb wdX11_mark_13 rfl (lv_at hl 0 rfl) ?_
    refine f_11_4 F w (a := 0) rfl wtb_214 wdX11_mark_14 ?_
    refine lv_iload_n hx hb wdX11_mark_17 rfl (lv_at hl 1 rfl) ?_
    refine k_Vi F w (As := [.int (zI (k9 : Int))]) (rest := []) (a := 44) (kd_lt (a := 44) (show kd 44 = (9, 0, 0) from rfl) (by decide)) (sh_9 rfl _ _) rfl (s_X9_isHeavy (a := 44) rfl hW hwf (by omega)) wgv_X11_163 whv_X9_isHeavy ⟨(Nat.le_of_ble_eq_true rfl), (Nat.le_of_ble_eq_true rfl)⟩ hl.1 rfl (Nat.le_of_ble_eq_true rfl) ⟨Nat.zero_le _, Nat.zero_le _⟩ wdX11_mark_18 (fun r Ma3 H locs hp w => ?_)
    rcases hp with ⟨⟨k7, e7, h7, b7, rfl⟩ | ⟨b7, rfl⟩, hMe⟩
    · obtain rfl : k9 = k7 := by omega
      rw [hMe] at w
      refine lv_iload_n hx hb wdX11_mark_21 rfl (lv_at hl 2 rfl) ?_
      refine z_icmp_ne (tgt := 39) hx hb (by omega) (by omega) wdX11_mark_22 (by decide) (fun c4 => ?_) (fun c4 => ?_)
      · refine lv_aload_n hx hb wdX11_mark_39 rfl (lv_at hl 0 rfl) ?_
        refine k_Vv F w (As := []) (rest := []) (a := 0) (kd_lt (a := 0) (show kd 0 = (11, 0, 0) from rfl) (by decide)) (sh_11 rfl _ _) rfl (g_beginAct hS) wgv_X11_123 whv_X11_beginAct ⟨(Nat.le_of_ble_eq_true rfl), (Nat.le_of_ble_eq_true rfl)⟩ hl.1 rfl (Nat.le_of_ble_eq_true rfl) ⟨Nat.zero_le _, Nat.zero_le _⟩ wdX11_mark_40 (fun Ma5 H locs hp w => ?_)
        rcases hp with ⟨hS1, hB1⟩
        have hC1 : CW Ma5 44 q hv ed o := hS1.t
        have hW1 : isW Ma5 44 o.1 q hv ed o.2.1 o.2.2 := hC1.1
        refine lv_aload_n hx hb wdX11_mark_43 rfl (lv_at hl 0 rfl) ?_
        refine f_11_4 F w (a := 0) rfl wtb_214 wdX11_mark_44 ?_
        refine lv_iload_n hx hb wdX11_mark_47 rfl (lv_at hl 1 rfl) ?_
        refine lv_iload_n hx hb wdX11_mark_48 rfl (lv_at hl 2 rfl) ?_
        refine lv_iload_n hx hb wdX11_mark_49 rfl (lv_at hl 3 rfl) ?_
        refine k_Vv F w (As := [.int (zI (k9 : Int)), .int (zI (b1 : Int)), .int (zI (b2 : Int))]) (rest := []) (a := 44) (kd_lt (a := 44) (show kd 44 = (9, 0, 0) from rfl) (by decide)) (sh_9 rfl _ _) rfl (s_X9_setSyllable (a := 44) rfl hW1 hC1.wf (j := k9) (x := b1) (y := b2) (by omega) hb1 hb2) wgv_X11_169 whv_X9_setSyllable ⟨(Nat.le_of_ble_eq_true rfl), (Nat.le_of_ble_eq_true rfl)⟩ hl.1 rfl (Nat.le_of_ble_eq_true rfl) ⟨Nat.zero_le _, Nat.zero_le _⟩ wdX11_mark_50 (fun Ma6 H locs hp w => ?_)
        rcases hp with ⟨hW2, hF2⟩
        refine lv_iconst (v := zI 1) hx hb wdX11_mark_53 rfl ?_
        exact e_z F w hr hlocks (nar_z (by omega)) (Or.inl ⟨_, acI_y ⟨by show 0 ≤ (k9 : Int); omega, by show (k9 : Int) < (q : Int); omega, fun h9 => tb_hn b7 (by omega) h9.1⟩, rfl, hS1.told hF2 ⟨hW2, hC1.2.1, sbit_lt hC1.2.2.1 (by omega), sbit_lt hC1.2.2.2 (by omega)⟩, FA.of hB1 hF2⟩) wdX11_mark_54
      · refine lv_aload_n hx hb wdX11_mark_25 rfl (lv_at hl 0 rfl) ?_
        refine f_11_4 F w (a := 0) rfl wtb_214 wdX11_mark_26 ?_
        refine lv_iload_n hx hb wdX11_mark_29 rfl (lv_at hl 1 rfl) ?_
        refine k_Vi F w (As := [.int (zI (k9 : Int))]) (rest := []) (a := 44) (kd_lt (a := 44) (show kd 44 = (9, 0, 0) from rfl) (by decide)) (sh_9 rfl _ _) rfl (s_X9_hasEdge (a := 44) rfl hW hwf (by omega)) wgv_X11_166 whv_X9_hasEdge ⟨(Nat.le_of_ble_eq_true rfl), (Nat.le_of_ble_eq_true rfl)⟩ hl.1 rfl (Nat.le_of_ble_eq_true rfl) ⟨Nat.zero_le _, Nat.zero_le _⟩ wdX11_mark_30 (fun r Ma7 H locs hp w => ?_)
        rcases hp with ⟨⟨k8, e8, h8, b8, rfl⟩ | ⟨b8, rfl⟩, hMe⟩
        · obtain rfl : k9 = k8 := by omega
          rw [hMe] at w
          refine lv_iload_n hx hb wdX11_mark_33 rfl (lv_at hl 3 rfl) ?_
          refine z_icmp_ne (tgt := 39) hx hb (by omega) (by omega) wdX11_mark_34 (by decide) (fun c8 => ?_) (fun c8 => ?_)
          · refine lv_aload_n hx hb wdX11_mark_39 rfl (lv_at hl 0 rfl) ?_
            refine k_Vv F w (As := []) (rest := []) (a := 0) (kd_lt (a := 0) (show kd 0 = (11, 0, 0) from rfl) (by decide)) (sh_11 rfl _ _) rfl (g_beginAct hS) wgv_X11_123 whv_X11_beginAct ⟨(Nat.le_of_ble_eq_true rfl), (Nat.le_of_ble_eq_true rfl)⟩ hl.1 rfl (Nat.le_of_ble_eq_true rfl) ⟨Nat.zero_le _, Nat.zero_le _⟩ wdX11_mark_40 (fun Ma9 H locs hp w => ?_)
            rcases hp with ⟨hS1, hB1⟩
            have hC1 : CW Ma9 44 q hv ed o := hS1.t
            have hW1 : isW Ma9 44 o.1 q hv ed o.2.1 o.2.2 := hC1.1
            refine lv_aload_n hx hb wdX11_mark_43 rfl (lv_at hl 0 rfl) ?_
            refine f_11_4 F w (a := 0) rfl wtb_214 wdX11_mark_44 ?_
            refine lv_iload_n hx hb wdX11_mark_47 rfl (lv_at hl 1 rfl) ?_
            refine lv_iload_n hx hb wdX11_mark_48 rfl (lv_at hl 2 rfl) ?_
            refine lv_iload_n hx hb wdX11_mark_49 rfl (lv_at hl 3 rfl) ?_
            refine k_Vv F w (As := [.int (zI (k9 : Int)), .int (zI (b1 : Int)), .int (zI (b2 : Int))]) (rest := []) (a := 44) (kd_lt (a := 44) (show kd 44 = (9, 0, 0) from rfl) (by decide)) (sh_9 rfl _ _) rfl (s_X9_setSyllable (a := 44) rfl hW1 hC1.wf (j := k9) (x := b1) (y := b2) (by omega) hb1 hb2) wgv_X11_169 whv_X9_setSyllable ⟨(Nat.le_of_ble_eq_true rfl), (Nat.le_of_ble_eq_true rfl)⟩ hl.1 rfl (Nat.le_of_ble_eq_true rfl) ⟨Nat.zero_le _, Nat.zero_le _⟩ wdX11_mark_50 (fun Ma10 H locs hp w => ?_)
            rcases hp with ⟨hW2, hF2⟩
            refine lv_iconst (v := zI 1) hx hb wdX11_mark_53 rfl ?_
            exact e_z F w hr hlocks (nar_z (by omega)) (Or.inl ⟨_, acI_y ⟨by show 0 ≤ (k9 : Int); omega, by show (k9 : Int) < (q : Int); omega, fun h9 => tb_hn b8 (by omega) h9.2⟩, rfl, hS1.told hF2 ⟨hW2, hC1.2.1, sbit_lt hC1.2.2.1 (by omega), sbit_lt hC1.2.2.2 (by omega)⟩, FA.of hB1 hF2⟩) wdX11_mark_54
          · refine lv_iconst (v := zI 0) hx hb wdX11_mark_37 rfl ?_
            exact e_z F w hr hlocks (nar_z (by omega)) (Or.inr ⟨acI_n (fun h9 => h9.2.2 ⟨tb_h b7 (by omega), tb_h b8 (by omega)⟩), rfl, rfl⟩) wdX11_mark_38
        · replace b8 : ¬ ed.testBit k9 = true := fun h8 => b8 ⟨k9, rfl, hk9, h8⟩
          rw [hMe] at w
          refine lv_iload_n hx hb wdX11_mark_33 rfl (lv_at hl 3 rfl) ?_
          refine z_icmp_ne (tgt := 39) hx hb (by omega) (by omega) wdX11_mark_34 (by decide) (fun c11 => ?_) (fun c11 => ?_)
          · refine lv_aload_n hx hb wdX11_mark_39 rfl (lv_at hl 0 rfl) ?_
            refine k_Vv F w (As := []) (rest := []) (a := 0) (kd_lt (a := 0) (show kd 0 = (11, 0, 0) from rfl) (by decide)) (sh_11 rfl _ _) rfl (g_beginAct hS) wgv_X11_123 whv_X11_beginAct ⟨(Nat.le_of_ble_eq_true rfl), (Nat.le_of_ble_eq_true rfl)⟩ hl.1 rfl (Nat.le_of_ble_eq_true rfl) ⟨Nat.zero_le _, Nat.zero_le _⟩ wdX11_mark_40 (fun Ma12 H locs hp w => ?_)
            rcases hp with ⟨hS1, hB1⟩
            have hC1 : CW Ma12 44 q hv ed o := hS1.t
            have hW1 : isW Ma12 44 o.1 q hv ed o.2.1 o.2.2 := hC1.1
            refine lv_aload_n hx hb wdX11_mark_43 rfl (lv_at hl 0 rfl) ?_
            refine f_11_4 F w (a := 0) rfl wtb_214 wdX11_mark_44 ?_
            refine lv_iload_n hx hb wdX11_mark_47 rfl (lv_at hl 1 rfl) ?_
            refine lv_iload_n hx hb wdX11_mark_48 rfl (lv_at hl 2 rfl) ?_
            refine lv_iload_n hx hb wdX11_mark_49 rfl (lv_at hl 3 rfl) ?_
            refine k_Vv F w (As := [.int (zI (k9 : Int)), .int (zI (b1 : Int)), .int (zI (b2 : Int))]) (rest := []) (a := 44) (kd_lt (a := 44) (show kd 44 = (9, 0, 0) from rfl) (by decide)) (sh_9 rfl _ _) rfl (s_X9_setSyllable (a := 44) rfl hW1 hC1.wf (j := k9) (x := b1) (y := b2) (by omega) hb1 hb2) wgv_X11_169 whv_X9_setSyllable ⟨(Nat.le_of_ble_eq_true rfl), (Nat.le_of_ble_eq_true rfl)⟩ hl.1 rfl (Nat.le_of_ble_eq_true rfl) ⟨Nat.zero_le _, Nat.zero_le _⟩ wdX11_mark_50 (fun Ma13 H locs hp w => ?_)
            rcases hp with ⟨hW2, hF2⟩
            refine lv_iconst (v := zI 1) hx hb wdX11_mark_53 rfl ?_
            exact e_z F w hr hlocks (nar_z (by omega)) (Or.inl ⟨_, acI_y ⟨by show 0 ≤ (k9 : Int); omega, by show (k9 : Int) < (q : Int); omega, fun h9 => tb_nn b8 (by omega) h9.2⟩, rfl, hS1.told hF2 ⟨hW2, hC1.2.1, sbit_lt hC1.2.2.1 (by omega), sbit_lt hC1.2.2.2 (by omega)⟩, FA.of hB1 hF2⟩) wdX11_mark_54
          · refine lv_iconst (v := zI 0) hx hb wdX11_mark_37 rfl ?_
            exact e_z F w hr hlocks (nar_z (by omega)) (Or.inr ⟨acI_n (fun h9 => h9.2.2 ⟨tb_h b7 (by omega), tb_n b8 (by omega)⟩), rfl, rfl⟩) wdX11_mark_38
    · replace b7 : ¬ hv.testBit k9 = true := fun h8 => b7 ⟨k9, rfl, hk9, h8⟩
      rw [hMe] at w
      refine lv_iload_n hx hb wdX11_mark_21 rfl (lv_at hl 2 rfl) ?_
      refine z_icmp_ne (tgt := 39) hx hb (by omega) (by omega) wdX11_mark_22 (by decide) (fun c14 => ?_) (fun c14 => ?_)
      · refine lv_aload_n hx hb wdX11_mark_39 rfl (lv_at hl 0 rfl) ?_
        refine k_Vv F w (As := []) (rest := []) (a := 0) (kd_lt (a := 0) (show kd 0 = (11, 0, 0) from rfl) (by decide)) (sh_11 rfl _ _) rfl (g_beginAct hS) wgv_X11_123 whv_X11_beginAct ⟨(Nat.le_of_ble_eq_true rfl), (Nat.le_of_ble_eq_true rfl)⟩ hl.1 rfl (Nat.le_of_ble_eq_true rfl) ⟨Nat.zero_le _, Nat.zero_le _⟩ wdX11_mark_40 (fun Ma15 H locs hp w => ?_)
        rcases hp with ⟨hS1, hB1⟩
        have hC1 : CW Ma15 44 q hv ed o := hS1.t
        have hW1 : isW Ma15 44 o.1 q hv ed o.2.1 o.2.2 := hC1.1
        refine lv_aload_n hx hb wdX11_mark_43 rfl (lv_at hl 0 rfl) ?_
        refine f_11_4 F w (a := 0) rfl wtb_214 wdX11_mark_44 ?_
        refine lv_iload_n hx hb wdX11_mark_47 rfl (lv_at hl 1 rfl) ?_
        refine lv_iload_n hx hb wdX11_mark_48 rfl (lv_at hl 2 rfl) ?_
        refine lv_iload_n hx hb wdX11_mark_49 rfl (lv_at hl 3 rfl) ?_
        refine k_Vv F w (As := [.int (zI (k9 : Int)), .int (zI (b1 : Int)), .int (zI (b2 : Int))]) (rest := []) (a := 44) (kd_lt (a := 44) (show kd 44 = (9, 0, 0) from rfl) (by decide)) (sh_9 rfl _ _) rfl (s_X9_setSyllable (a := 44) rfl hW1 hC1.wf (j := k9) (x := b1) (y := b2) (by omega) hb1 hb2) wgv_X11_169 whv_X9_setSyllable ⟨(Nat.le_of_ble_eq_true rfl), (Nat.le_of_ble_eq_true rfl)⟩ hl.1 rfl (Nat.le_of_ble_eq_true rfl) ⟨Nat.zero_le _, Nat.zero_le _⟩ wdX11_mark_50 (fun Ma16 H locs hp w => ?_)
        rcases hp with ⟨hW2, hF2⟩
        refine lv_iconst (v := zI 1) hx hb wdX11_mark_53 rfl ?_
        exact e_z F w hr hlocks (nar_z (by omega)) (Or.inl ⟨_, acI_y ⟨by show 0 ≤ (k9 : Int); omega, by show (k9 : Int) < (q : Int); omega, fun h9 => tb_nn b7 (by omega) h9.1⟩, rfl, hS1.told hF2 ⟨hW2, hC1.2.1, sbit_lt hC1.2.2.1 (by omega), sbit_lt hC1.2.2.2 (by omega)⟩, FA.of hB1 hF2⟩) wdX11_mark_54
      · refine lv_aload_n hx hb wdX11_mark_25 rfl (lv_at hl 0 rfl) ?_
        refine f_11_4 F w (a := 0) rfl wtb_214 wdX11_mark_26 ?_
        refine lv_iload_n hx hb wdX11_mark_29 rfl (lv_at hl 1 rfl) ?_
        refine k_Vi F w (As := [.int (zI (k9 : Int))]) (rest := []) (a := 44) (kd_lt (a := 44) (show kd 44 = (9, 0, 0) from rfl) (by decide)) (sh_9 rfl _ _) rfl (s_X9_hasEdge (a := 44) rfl hW hwf (by omega)) wgv_X11_166 whv_X9_hasEdge ⟨(Nat.le_of_ble_eq_true rfl), (Nat.le_of_ble_eq_true rfl)⟩ hl.1 rfl (Nat.le_of_ble_eq_true rfl) ⟨Nat.zero_le _, Nat.zero_le _⟩ wdX11_mark_30 (fun r Ma17 H locs hp w => ?_)
        rcases hp with ⟨⟨k8, e8, h8, b8, rfl⟩ | ⟨b8, rfl⟩, hMe⟩
        · obtain rfl : k9 = k8 := by omega
          rw [hMe] at w
          refine lv_iload_n hx hb wdX11_mark_33 rfl (lv_at hl 3 rfl) ?_
          refine z_icmp_ne (tgt := 39) hx hb (by omega) (by omega) wdX11_mark_34 (by decide) (fun c18 => ?_) (fun c18 => ?_)
          · refine lv_aload_n hx hb wdX11_mark_39 rfl (lv_at hl 0 rfl) ?_
            refine k_Vv F w (As := []) (rest := []) (a := 0) (kd_lt (a := 0) (show kd 0 = (11, 0, 0) from rfl) (by decide)) (sh_11 rfl _ _) rfl (g_beginAct hS) wgv_X11_123 whv_X11_beginAct ⟨(Nat.le_of_ble_eq_true rfl), (Nat.le_of_ble_eq_true rfl)⟩ hl.1 rfl (Nat.le_of_ble_eq_true rfl) ⟨Nat.zero_le _, Nat.zero_le _⟩ wdX11_mark_40 (fun Ma19 H locs hp w => ?_)
            rcases hp with ⟨hS1, hB1⟩
            have hC1 : CW Ma19 44 q hv ed o := hS1.t
            have hW1 : isW Ma19 44 o.1 q hv ed o.2.1 o.2.2 := hC1.1
            refine lv_aload_n hx hb wdX11_mark_43 rfl (lv_at hl 0 rfl) ?_
            refine f_11_4 F w (a := 0) rfl wtb_214 wdX11_mark_44 ?_
            refine lv_iload_n hx hb wdX11_mark_47 rfl (lv_at hl 1 rfl) ?_
            refine lv_iload_n hx hb wdX11_mark_48 rfl (lv_at hl 2 rfl) ?_
            refine lv_iload_n hx hb wdX11_mark_49 rfl (lv_at hl 3 rfl) ?_
            refine k_Vv F w (As := [.int (zI (k9 : Int)), .int (zI (b1 : Int)), .int (zI (b2 : Int))]) (rest := []) (a := 44) (kd_lt (a := 44) (show kd 44 = (9, 0, 0) from rfl) (by decide)) (sh_9 rfl _ _) rfl (s_X9_setSyllable (a := 44) rfl hW1 hC1.wf (j := k9) (x := b1) (y := b2) (by omega) hb1 hb2) wgv_X11_169 whv_X9_setSyllable ⟨(Nat.le_of_ble_eq_true rfl), (Nat.le_of_ble_eq_true rfl)⟩ hl.1 rfl (Nat.le_of_ble_eq_true rfl) ⟨Nat.zero_le _, Nat.zero_le _⟩ wdX11_mark_50 (fun Ma20 H locs hp w => ?_)
            rcases hp with ⟨hW2, hF2⟩
            refine lv_iconst (v := zI 1) hx hb wdX11_mark_53 rfl ?_
            exact e_z F w hr hlocks (nar_z (by omega)) (Or.inl ⟨_, acI_y ⟨by show 0 ≤ (k9 : Int); omega, by show (k9 : Int) < (q : Int); omega, fun h9 => tb_hn b8 (by omega) h9.2⟩, rfl, hS1.told hF2 ⟨hW2, hC1.2.1, sbit_lt hC1.2.2.1 (by omega), sbit_lt hC1.2.2.2 (by omega)⟩, FA.of hB1 hF2⟩) wdX11_mark_54
          · refine lv_iconst (v := zI 0) hx hb wdX11_mark_37 rfl ?_
            exact e_z F w hr hlocks (nar_z (by omega)) (Or.inr ⟨acI_n (fun h9 => h9.2.2 ⟨tb_n b7 (by omega), tb_h b8 (by omega)⟩), rfl, rfl⟩) wdX11_mark_38
        · replace b8 : ¬ ed.testBit k9 = true := fun h8 => b8 ⟨k9, rfl, hk9, h8⟩
          rw [hMe] at w
          refine lv_iload_n hx hb wdX11_mark_33 rfl (lv_at hl 3 rfl) ?_
          refine z_icmp_ne (tgt := 39) hx hb (by omega) (by omega) wdX11_mark_34 (by decide) (fun c21 => ?_) (fun c21 => ?_)
          · refine lv_aload_n hx hb wdX11_mark_39 rfl (lv_at hl 0 rfl) ?_
            refine k_Vv F w (As := []) (rest := []) (a := 0) (kd_lt (a := 0) (show kd 0 = (11, 0, 0) from rfl) (by decide)) (sh_11 rfl _ _) rfl (g_beginAct hS) wgv_X11_123 whv_X11_beginAct ⟨(Nat.le_of_ble_eq_true rfl), (Nat.le_of_ble_eq_true rfl)⟩ hl.1 rfl (Nat.le_of_ble_eq_true rfl) ⟨Nat.zero_le _, Nat.zero_le _⟩ wdX11_mark_40 (fun Ma22 H locs hp w => ?_)
            rcases hp with ⟨hS1, hB1⟩
            have hC1 : CW Ma22 44 q hv ed o := hS1.t
            have hW1 : isW Ma22 44 o.1 q hv ed o.2.1 o.2.2 := hC1.1
            refine lv_aload_n hx hb wdX11_mark_43 rfl (lv_at hl 0 rfl) ?_
            refine f_11_4 F w (a := 0) rfl wtb_214 wdX11_mark_44 ?_
            refine lv_iload_n hx hb wdX11_mark_47 rfl (lv_at hl 1 rfl) ?_
            refine lv_iload_n hx hb wdX11_mark_48 rfl (lv_at hl 2 rfl) ?_
            refine lv_iload_n hx hb wdX11_mark_49 rfl (lv_at hl 3 rfl) ?_
            refine k_Vv F w (As := [.int (zI (k9 : Int)), .int (zI (b1 : Int)), .int (zI (b2 : Int))]) (rest := []) (a := 44) (kd_lt (a := 44) (show kd 44 = (9, 0, 0) from rfl) (by decide)) (sh_9 rfl _ _) rfl (s_X9_setSyllable (a := 44) rfl hW1 hC1.wf (j := k9) (x := b1) (y := b2) (by omega) hb1 hb2) wgv_X11_169 whv_X9_setSyllable ⟨(Nat.le_of_ble_eq_true rfl), (Nat.le_of_ble_eq_true rfl)⟩ hl.1 rfl (Nat.le_of_ble_eq_true rfl) ⟨Nat.zero_le _, Nat.zero_le _⟩ wdX11_mark_50 (fun Ma23 H locs hp w => ?_)
            rcases hp with ⟨hW2, hF2⟩
            refine lv_iconst (v := zI 1) hx hb wdX11_mark_53 rfl ?_
            exact e_z F w hr hlocks (nar_z (by omega)) (Or.inl ⟨_, acI_y ⟨by show 0 ≤ (k9 : Int); omega, by show (k9 : Int) < (q : Int); omega, fun h9 => tb_nn b8 (by omega) h9.2⟩, rfl, hS1.told hF2 ⟨hW2, hC1.2.1, sbit_lt hC1.2.2.1 (by omega), sbit_lt hC1.2.2.2 (by omega)⟩, FA.of hB1 hF2⟩) wdX11_mark_54
          · refine lv_iconst (v := zI 0) hx hb wdX11_mark_37 rfl ?_
            exact e_z F w hr hlocks (nar_z (by omega)) (Or.inr ⟨acI_n (fun h9 => h9.2.2 ⟨tb_n b7 (by omega), tb_n b8 (by omega)⟩), rfl, rfl⟩) wdX11_mark_38
  · rw [hMe] at w
    refine z_if_ne (tgt := 13) hx hb (by omega) wdX11_mark_8 (by decide) (fun c24 => False.elim (by omega)) (fun c24 => ?_)
    refine lv_iconst (v := zI 0) hx hb wdX11_mark_11 rfl ?_
    exact e_z F w hr hlocks (nar_z (by omega)) (Or.inr ⟨acI_n (fun h9 => nk9 ⟨h9.1, h9.2.1⟩), rfl, rfl⟩) wdX11_mark_12
