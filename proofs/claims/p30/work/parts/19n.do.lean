-- the reference's turns, in one form
theorem Cv_mono {l : Launch} {D : va_G} {B : Nat} {cy : Nat → ClassId} {y : MethodName} {cc : ByteArray} {n : Nat} {fr lo fr2 lo2 : Nat} {av : List Value} {M : Mem} {post post2 : Mem → Prop} (h : Cv l D B cy y cc n fr2 lo2 av M post2) (hf : fr2 ≤ fr) (hl : lo2 ≤ lo) (hp : ∀ M1, post2 M1 → post M1) : Cv l D B cy y cc n fr lo av M post := by
  intro p e ha hcs hk s m args below hfr happ hP hK
  obtain ⟨a1, a2, a3, a4, a5, a6, a7, a8⟩ := (Spec.appliesLoose_iff hfr).mp happ
  obtain ⟨n0, o0, w0, r0, e0, ⟨⟨u, ho1, hp1, hw1⟩, hF1⟩, hL1⟩ := h p e ha hcs hk s m args below hfr ((Spec.appliesLoose_iff hfr).mpr ⟨a1, a2, a3, a4, a5, a6, room_le2 hf hl a7, a8⟩) hP hK
  exact ⟨n0, o0, w0, r0, e0, ⟨⟨u, ho1, hp u hp1, hw1⟩, hF1⟩, hL1⟩
theorem spF_0 {q ed t x n9 : Nat} {o : Wo} (h0 : o.2.2 t = 0) : spF q ed t x n9 o = (o, 0) := by unfold spF; rw [if_pos h0]
theorem spF_1 {q ed t x n9 : Nat} {o : Wo} (h0 : o.2.2 t ≠ 0) : spF q ed t x n9 o = ((o.1, o.2.1, (spr o.1 q ed t x n9 o.2.2).1), (spr o.1 q ed t x n9 o.2.2).2) := by unfold spF; rw [if_neg h0]
theorem ctF_0 {t y : Nat} {o : Wo} (h0 : o.2.2 t = 0) : ctF t y o = (o, 0) := by unfold ctF; rw [if_pos h0]
theorem ctF_1 {t y : Nat} {o : Wo} (h0 : o.2.2 t ≠ 0) : ctF t y o = ((o.1, o.2.1, updF o.2.2 t (andn (o.2.2 t) (2 ^ fex y (o.2.2 t)))), 1) := by unfold ctF; rw [if_neg h0]
theorem drF_1 {t : Nat} {o : Wo} (h0 : o.2.2 t = 0) : drF t o = ((o.1 - 1, remF o.2.1 t, remF o.2.2 t), 1) := by unfold drF; rw [if_pos h0]
theorem drF_0 {t : Nat} {o : Wo} (h0 : o.2.2 t ≠ 0) : drF t o = (o, 0) := by unfold drF; rw [if_neg h0]
theorem hig_nx : ∀ m, m < 4096 → m ≠ 0 → hig m + 1 < 12 → hig (m ||| 2 ^ (hig m + 1)) = hig m + 1 ∧ andn (m ||| 2 ^ (hig m + 1)) (2 ^ (hig m + 1)) = m := hig_nx_f
theorem low_nx : ∀ m, m < 4096 → m ≠ 0 → 1 ≤ low m → low (m ||| 2 ^ (low m - 1)) = low m - 1 ∧ andn (m ||| 2 ^ (low m - 1)) (2 ^ (low m - 1)) = m := low_nx_f
theorem upd2 {L : Nat → Nat} {t v b : Nat} : updF (updF L t v) t b = updF L t b := by
  funext k
  simp only [updF]
  by_cases h : k = t
  · simp [h]
  · simp [h]
theorem spr_one {n q ed t x j : Nat} {L : Nat → Nat} (h : stpP n q ed L t x j) : spr n q ed t x 1 L = (updF L t (L t ||| 2 ^ j), 1) := spr_y (k := 0) h
/-- a shift that came: the line that was the last one goes -/
theorem shF_r {q ed t x j : Nat} {o : Wo} (hk : okW q o) (ht : t < o.1) (h0 : o.2.2 t ≠ 0) (hx : x = 0 ∨ x = 1) (h : stpP o.1 q ed o.2.2 t x j) : shF q ed t x o = ((o.1, o.2.1, updF o.2.2 t (andn (o.2.2 t ||| 2 ^ j) (2 ^ ext x (o.2.2 t)))), 2) := by
  have e1 : spF q ed t x 1 o = ((o.1, o.2.1, updF o.2.2 t (o.2.2 t ||| 2 ^ j)), 1) := by rw [spF_1 h0, spr_one h]
  have hm := hk.lt ht
  have hj := h.1
  have hq := h.2.1
  have hq12 := hk.2.1
  have e2 : ext x (o.2.2 t ||| 2 ^ j) = j ∧ andn (o.2.2 t ||| 2 ^ j) (2 ^ j) = o.2.2 t := by
    rcases hx with hx | hx
    · subst hx
      rw [if_pos rfl, higI_nz h0] at hj
      have e : j = hig (o.2.2 t) + 1 := by omega
      have := hig_nx _ hm h0 (by omega)
      rw [← e] at this
      exact this
    · subst hx
      rw [if_neg (by decide), lowI_nz h0] at hj
      have e : j = low (o.2.2 t) - 1 := by omega
      have := low_nx _ hm h0 (by omega)
      rw [← e] at this
      exact this
  refine shF_1 e1 (by decide) (dd := 1) ?_
  have e3 : andn (updF o.2.2 t (o.2.2 t ||| 2 ^ j) t) (2 ^ ext x (updF o.2.2 t (o.2.2 t ||| 2 ^ j) t)) = o.2.2 t := by rw [updF_t, e2.1, e2.2]
  rw [lv_y (by show andn (updF o.2.2 t (o.2.2 t ||| 2 ^ j) t) (2 ^ ext x (updF o.2.2 t (o.2.2 t ||| 2 ^ j) t)) ≠ 0; rw [e3]; exact h0)]
  show ((o.1, o.2.1, updF (updF o.2.2 t (o.2.2 t ||| 2 ^ j)) t (andn (updF o.2.2 t (o.2.2 t ||| 2 ^ j) t) (2 ^ ext x (andn (updF o.2.2 t (o.2.2 t ||| 2 ^ j) t) (2 ^ ext x (updF o.2.2 t (o.2.2 t ||| 2 ^ j) t)))))), 1) = _
  rw [e3, upd2, updF_t]
theorem shF_rn {q ed t x : Nat} {o : Wo} (h0 : o.2.2 t ≠ 0) (h : ∀ j, ¬ stpP o.1 q ed o.2.2 t x j) : shF q ed t x o = (o, 0) := shF_0 (by rw [spF_1 h0, spr_n h])
theorem fuF_n : ∀ (k t : Nat) (o : Wo), (fuF k t o).1.1 ≤ o.1
  | 0, _, o => Nat.le_refl _
  | k + 1, t, o => by
    by_cases h : t + 1 < o.1 ∧ o.2.1 (t + 1) = o.2.1 t
    · rw [fu_y h.1 h.2]
      have h1 := fuF_n k t (fuO t o)
      have h2 : (fuO t o).1 = o.1 - 1 := rfl
      show (fuF k t (fuO t o)).1.1 ≤ o.1
      omega
    · rw [fu_n h]; exact Nat.le_refl _
theorem dkF_n1 {q t x : Nat} {o : Wo} : (dkF q t x o).1.1 = o.1 := by
  by_cases h : ∃ s9, dkC q o t x s9
  · obtain ⟨s9, h⟩ := h; rw [dkF_y h]
  · rw [dkF_n (fun s9 q9 => h ⟨s9, q9⟩)]
theorem trV_n {v x y n9 q ed t : Nat} {o : Wo} (hv : 1 ≤ v ∧ v ≤ 7) : (trV v x y n9 q ed t o).1.1 ≤ o.1 ∧ (v = 5 → 0 < (trV v x y n9 q ed t o).2 → (trV v x y n9 q ed t o).1.1 = o.1 - 1) := by
  rcases (show v = 1 ∨ v = 2 ∨ v = 3 ∨ v = 4 ∨ v = 5 ∨ v = 6 ∨ v = 7 by omega) with h | h | h | h | h | h | h <;> subst h
  · rw [trV_1]
    exact ⟨Nat.le_of_eq (spF_n (Prod.eta _).symm), fun h => absurd h (by decide)⟩
  · rw [trV_2]
    refine ⟨?_, fun h => absurd h (by decide)⟩
    have h1 : (spF q ed t x 1 o).1.1 = o.1 := spF_n (Prod.eta _).symm
    unfold shF
    by_cases h : (spF q ed t x 1 o).2 = 0
    · rw [if_pos h]; exact Nat.le_of_eq h1
    · rw [if_neg h]
      show (lvF t x (spF q ed t x 1 o).1).1.1 ≤ o.1
      by_cases h2 : andn ((spF q ed t x 1 o).1.2.2 t) (2 ^ ext x ((spF q ed t x 1 o).1.2.2 t)) = 0
      · rw [lv_n h2]; exact Nat.le_of_eq h1
      · rw [lv_y h2]; exact Nat.le_of_eq h1
  · rw [trV_3]
    refine ⟨?_, fun h => absurd h (by decide)⟩
    by_cases h : o.2.2 t = 0
    · rw [ctF_0 h]; exact Nat.le_refl _
    · rw [ctF_1 h]; exact Nat.le_refl _
  · rw [trV_4]
    refine ⟨?_, fun h => absurd h (by decide)⟩
    by_cases h : o.2.2 t = 0
    · rw [dkG_0 h, dkF_n1]; exact Nat.le_refl _
    · rw [dkG_1 h]; exact Nat.le_refl _
  · rw [trV_5]
    by_cases h : o.2.2 t = 0
    · rw [drF_1 h]; exact ⟨Nat.sub_le _ _, fun _ _ => rfl⟩
    · rw [drF_0 h]; exact ⟨Nat.le_refl _, fun _ h9 => absurd h9 (Nat.lt_irrefl 0)⟩
  · rw [trV_6]
    exact ⟨fuF_n _ _ _, fun h => absurd h (by decide)⟩
  · rw [trV_7]
    refine ⟨?_, fun h => absurd h (by decide)⟩
    by_cases h : turnP o.2.1 t n9
    · rw [tuF_y h]; exact Nat.le_refl _
    · rw [tuF_n h]; exact Nat.le_refl _
theorem trT_b {P : Nat → Int} {v x y n9 q hv ed t dd : Nat} {o o2 : Wo} (hv1 : 1 ≤ v ∧ v ≤ 7) (h : trT P v x y n9 q hv ed t o = (o2, dd)) : o2.1 ≤ o.1 ∧ (v = 5 → 0 < dd → o2.1 = o.1 - 1) := by
  by_cases hc : trC P q hv t o
  · rw [trT_y hc] at h
    have := trV_n (x := x) (y := y) (n9 := n9) (q := q) (ed := ed) (t := t) (o := o) hv1
    rw [h] at this
    exact this
  · rw [trT_n hc] at h
    have e1 : o = o2 := congrArg Prod.fst h
    have e2 : 0 = dd := congrArg Prod.snd h
    subst e1; subst e2
    exact ⟨Nat.le_refl _, fun _ h9 => absurd h9 (Nat.lt_irrefl 0)⟩
theorem lkP_1 {n q x i : Nat} {L : Nat → Nat} : (lkP n q x L (i + 1)).1 = linkL n (lkP n q x L i).1 x (ixd x q i) := by rw [lkP]
theorem lkP_2 {n q x i : Nat} {L : Nat → Nat} : (lkP n q x L (i + 1)).2 = (lkP n q x L i).2 + linkC n (lkP n q x L i).1 x (ixd x q i) := by rw [lkP]
section RTurns
variable {l : Launch} {D : va_G} {B : Nat} {cy : Nat → ClassId} {M : Mem} {q hv ed : Nat} {o : Wo} {z9 : Int}
theorem r_spreads (hR : RW M q hv ed o z9) {t x n9 : Nat} (ht : t < o.1) (hx : x = 0 ∨ x = 1) (hn : n9 ≤ 9) (h0 : o.2.2 t ≠ 0) : Cv l D B cy yX12_spreads cX12_spreads 6 4 90 [.ref (B + 146), .int (zI (t : Int)), .int (zI (x : Int)), .int (zI (n9 : Int))] M (fun M1 => RQ q hv ed (spF q ed t x n9 o) 9 z9 M M1) := by
  have hs := spr_ok (n := o.1) (q := q) (ed := ed) (t := t) (x := x) n9 o.2.2 (fun k hk => (hR.2.1.2.2 k hk).2)
  have fin : ∀ (M1 : Mem), (isR M1 148 o.1 q hv ed o.2.1 (spr o.1 q ed t x n9 o.2.2).1 ∧ wf o.1 q hv ed o.2.1 (spr o.1 q ed t x n9 o.2.2).1 ∧ M1.1 146 3 = zI (z9 + ((spr o.1 q ed t x n9 o.2.2).2 : Int)) ∧ FrC M1 M) → RQ q hv ed (spF q ed t x n9 o) 9 z9 M M1 := fun M1 hp =>
    ⟨_, _, spF_1 h0, ⟨hp.1, ⟨hR.2.1.1, hR.2.1.2.1, fun k hk => ⟨(hR.2.1.2.2 k hk).1, hs.1 k hk⟩⟩, hR.2.2.1, hR.2.2.2.1, hp.2.2.1⟩, hp.2.2.2, Nat.le_trans hs.2 hn⟩
  rcases hx with hx | hx
  · exact Cv_mono (s_X12_spreads_0 hR.1 hR.wf hR.2.2.2.2 ht hx hn) (by decide) (by decide) fin
  · exact Cv_mono (s_X12_spreads_1 hR.1 hR.wf hR.2.2.2.2 ht hx hn) (by decide) (by decide) fin
theorem r_shifts (hR : RW M q hv ed o z9) {t x : Nat} (ht : t < o.1) (hx : x = 0 ∨ x = 1) (h0 : o.2.2 t ≠ 0) : Cv l D B cy yX12_shifts cX12_shifts 4 4 90 [.ref (B + 146), .int (zI (t : Int)), .int (zI (x : Int))] M (fun M1 => RQ q hv ed (shF q ed t x o) 2 z9 M M1) := by
  have fin : ∀ (M1 : Mem), ((∃ j, stpP o.1 q ed o.2.2 t x j ∧ isR M1 148 o.1 q hv ed o.2.1 (updF o.2.2 t (andn (o.2.2 t ||| 2 ^ j) (2 ^ (ext x (o.2.2 t))))) ∧ M1.1 146 3 = zI (z9 + 2) ∧ FrC M1 M) ∨ ((∀ j, ¬ stpP o.1 q ed o.2.2 t x j) ∧ M1 = M)) → RQ q hv ed (shF q ed t x o) 2 z9 M M1 := fun M1 hp => by
    rcases hp with ⟨j, h1, h2, h3, h4⟩ | ⟨h1, h2⟩
    · exact ⟨_, _, shF_r hR.2.1 ht h0 hx h1, ⟨h2, okW_line hR.2.1 (andn_lt (or_ltq (hR.2.1.2.2 t ht).2 h1.2.1)), hR.2.2.1, hR.2.2.2.1, h3⟩, h4, Nat.le_refl _⟩
    · rw [h2]; exact RQ.id hR (shF_rn h0 h1)
  rcases hx with hx | hx
  · subst hx; exact Cv_mono (s_X12_shifts_0 hR.1 hR.wf hR.2.2.2.2 ht rfl h0) (by decide) (by decide) fin
  · subst hx; exact Cv_mono (s_X12_shifts_1 hR.1 hR.wf hR.2.2.2.2 ht rfl h0) (by decide) (by decide) fin
theorem r_turns (hR : RW M q hv ed o z9) {t x : Nat} (ht : t < o.1) (hx : x ≤ 2) : Cv l D B cy yX12_turns cX12_turns 3 0 0 [.ref (B + 146), .int (zI (t : Int)), .int (zI (x : Int))] M (fun M1 => RQ q hv ed (tuF t x o) 1 z9 M M1) := by
  refine Cv_mono (s_X12_turns hR.1 hR.wf hR.2.2.2.2 ht hx) (by decide) (by decide) (fun M1 hp => ?_)
  rcases hp with ⟨h1, h2, h3, h4⟩ | ⟨h1, h2⟩
  · exact ⟨_, _, tuF_y h1, ⟨h2, okW_kind hR.2.1 hx, hR.2.2.1, hR.2.2.2.1, h3⟩, h4, Nat.le_refl _⟩
  · rw [h2]; exact RQ.id hR (tuF_n h1)
theorem r_docks (hR : RW M q hv ed o z9) {t x : Nat} (ht : t < o.1) (hx : x = 0 ∨ x = 1) (h0 : o.2.2 t = 0) : Cv l D B cy yX12_docks cX12_docks 5 3 66 [.ref (B + 146), .int (zI (t : Int)), .int (zI (x : Int))] M (fun M1 => RQ q hv ed (dkG q t x o) 1 z9 M M1) := by
  rcases hx with hx | hx
  · exact Cv_mono (s_X12_docks_0 hR ht hx h0) (by decide) (by decide) (fun M1 hp => hp)
  · exact Cv_mono (s_X12_docks_1 hR ht hx h0) (by decide) (by decide) (fun M1 hp => hp)
end RTurns
/-- the turn of a tone in the reference: whether it has gone, too -/
def RT (v q hv ed : Nat) (f : Wo × Nat) (z : Int) (M : Mem) (r : Int32) (M1 : Mem) : Prop := ∃ o1 cc, f = (o1, cc) ∧ RW M1 q hv ed o1 (z + ((cc : Nat) : Int)) ∧ FrC M1 M ∧ cc ≤ 157 ∧ ((r = zI 1 ∧ v = 5 ∧ 0 < cc) ∨ (r = zI 0 ∧ ¬ (v = 5 ∧ 0 < cc)))
theorem RT.of {v q hv ed bd : Nat} {f g : Wo × Nat} {M M1 : Mem} {z : Int} (h : RQ q hv ed g bd z M M1) (e : f = g) (hb : bd ≤ 157) (hv5 : v ≠ 5) : RT v q hv ed f z M (zI 0) M1 := by
  obtain ⟨o1, cc, h1, h2, h3, h4⟩ := h
  exact ⟨o1, cc, e.trans h1, h2, h3, Nat.le_trans h4 hb, Or.inr ⟨rfl, fun h9 => hv5 h9.1⟩⟩
theorem RT.id {v q hv ed : Nat} {f : Wo × Nat} {M : Mem} {o : Wo} {z : Int} (h : RW M q hv ed o z) (e : f = (o, 0)) : RT v q hv ed f z M (zI 0) M := ⟨o, 0, e, h.e rfl (by omega), FrC.rf, Nat.zero_le _, Or.inr ⟨rfl, fun h9 => absurd h9.2 (Nat.lt_irrefl 0)⟩⟩
theorem wdX12_treats_0 : decode cX12_treats 0 = .ok (.bipush 8, 2) := dqS kk_16 (by decide +kernel)
theorem wdX12_treats_2 : decode cX12_treats 2 = .ok (.iload_n 1, 1) := dq0 kk_27 (by decide +kernel)
theorem wdX12_treats_3 : decode cX12_treats 3 = .ok (.imul, 1) := dq0 kk_104 (by decide +kernel)
theorem wdX12_treats_4 : decode cX12_treats 4 = .ok (.istore_n 3, 1) := dq0 kk_62 (by decide +kernel)
theorem wdX12_treats_5 : decode cX12_treats 5 = .ok (.aload_n 0, 1) := dq0 kk_42 (by decide +kernel)
theorem wdX12_treats_6 : decode cX12_treats 6 = .ok (.getfield 17, 3) := dqV kk_180 (by decide +kernel)
theorem wdX12_treats_9 : decode cX12_treats 9 = .ok (.iconst 1, 1) := dq0 kk_4 (by decide +kernel)
theorem wdX12_treats_10 : decode cX12_treats 10 = .ok (.iload_n 2, 1) := dq0 kk_28 (by decide +kernel)
theorem wdX12_treats_11 : decode cX12_treats 11 = .ok (.iadd, 1) := dq0 kk_96 (by decide +kernel)
theorem wdX12_treats_12 : decode cX12_treats 12 = .ok (.iaload, 1) := dq0 kk_46 (by decide +kernel)
theorem wdX12_treats_13 : decode cX12_treats 13 = .ok (.aload_n 0, 1) := dq0 kk_42 (by decide +kernel)
theorem wdX12_treats_14 : decode cX12_treats 14 = .ok (.getfield 20, 3) := dqV kk_180 (by decide +kernel)
theorem wdX12_treats_17 : decode cX12_treats 17 = .ok (.iload_n 3, 1) := dq0 kk_29 (by decide +kernel)
theorem wdX12_treats_18 : decode cX12_treats 18 = .ok (.iconst 2, 1) := dq0 kk_5 (by decide +kernel)
theorem wdX12_treats_19 : decode cX12_treats 19 = .ok (.iadd, 1) := dq0 kk_96 (by decide +kernel)
theorem wdX12_treats_20 : decode cX12_treats 20 = .ok (.iaload, 1) := dq0 kk_46 (by decide +kernel)
theorem wdX12_treats_21 : decode cX12_treats 21 = .ok (.invokestatic 79, 3) := dqV kk_184 (by decide +kernel)
theorem wdX12_treats_24 : decode cX12_treats 24 = .ok (.ifCond .eq 12, 3) := dqT kk_153 (by decide +kernel)
theorem wdX12_treats_27 : decode cX12_treats 27 = .ok (.aload_n 0, 1) := dq0 kk_42 (by decide +kernel)
theorem wdX12_treats_28 : decode cX12_treats 28 = .ok (.iload_n 1, 1) := dq0 kk_27 (by decide +kernel)
theorem wdX12_treats_29 : decode cX12_treats 29 = .ok (.iload_n 2, 1) := dq0 kk_28 (by decide +kernel)
theorem wdX12_treats_30 : decode cX12_treats 30 = .ok (.invokevirtual 116, 3) := dqV kk_182 (by decide +kernel)
theorem wtk_X12_passes : Cond.code yX12_passes cX12_passes 4 (some .boolean) ∈ TB := tbm (tc6 (List.mem_of_getElem? (i := 101) rfl)) rfl
theorem wgc_X12_passes : GoodIn TB (cw yX12_passes cX12_passes 4 (some .boolean)) := goodIn_c2 wtk_X12_passes
theorem wtb_138 : Cond.methodLink "ToneLinesModel" 116 yX12_passes ∈ TB := tbm (tc6 (List.mem_of_getElem? (i := 98) rfl)) rfl
theorem wtb_139 : Cond.instanceMethod yX12_passes ∈ TB := tbm (tc6 (List.mem_of_getElem? (i := 100) rfl)) rfl
theorem wtb_140 : Cond.selects "ToneLinesModel" yX12_passes yX12_passes ∈ TB := tbp (List.mem_of_getElem? (i := 62) rfl) rfl
theorem wgv_X12_116 : GoodIn TB (wsV RX12 116 RX12 yX12_passes (cw yX12_passes cX12_passes 4 (some .boolean))) := goodIn_4 wtb_138 wtb_139 wtb_140 wtb_105 wgc_X12_passes
theorem whv_X12_passes : yX12_passes.cls = RX12 ∧ yX12_passes.cls ≠ "java/lang/invoke/MethodHandle" ∧ yX12_passes.cls ≠ "java/lang/invoke/VarHandle" ∧ (parseMethodDescriptor yX12_passes.desc).map (fun d => d.parameters.length) = some 2 := by decide +kernel
theorem wdX12_treats_33 : decode cX12_treats 33 = .ok (.ifCond .ne 5, 3) := dqT kk_154 (by decide +kernel)
theorem wdX12_treats_38 : decode cX12_treats 38 = .ok (.aload_n 0, 1) := dq0 kk_42 (by decide +kernel)
theorem wdX12_treats_39 : decode cX12_treats 39 = .ok (.getfield 20, 3) := dqV kk_180 (by decide +kernel)
theorem wdX12_treats_42 : decode cX12_treats 42 = .ok (.iload_n 3, 1) := dq0 kk_29 (by decide +kernel)
theorem wdX12_treats_43 : decode cX12_treats 43 = .ok (.iconst 4, 1) := dq0 kk_7 (by decide +kernel)
theorem wdX12_treats_44 : decode cX12_treats 44 = .ok (.iadd, 1) := dq0 kk_96 (by decide +kernel)
theorem wdX12_treats_45 : decode cX12_treats 45 = .ok (.iaload, 1) := dq0 kk_46 (by decide +kernel)
theorem wdX12_treats_46 : decode cX12_treats 46 = .ok (.iconst 1, 1) := dq0 kk_4 (by decide +kernel)
theorem wdX12_treats_47 : decode cX12_treats 47 = .ok (.if_icmp .ne 7, 3) := dqT kk_160 (by decide +kernel)
theorem wdX12_treats_54 : decode cX12_treats 54 = .ok (.iconst 0, 1) := dq0 kk_3 (by decide +kernel)
theorem wdX12_treats_55 : decode cX12_treats 55 = .ok (.istore 4, 2) := dqU kk_54 (by decide +kernel)
theorem wdX12_treats_57 : decode cX12_treats 57 = .ok (.aload_n 0, 1) := dq0 kk_42 (by decide +kernel)
theorem wdX12_treats_58 : decode cX12_treats 58 = .ok (.getfield 17, 3) := dqV kk_180 (by decide +kernel)
theorem wdX12_treats_61 : decode cX12_treats 61 = .ok (.bipush 13, 2) := dqS kk_16 (by decide +kernel)
theorem wdX12_treats_63 : decode cX12_treats 63 = .ok (.iload_n 2, 1) := dq0 kk_28 (by decide +kernel)
theorem wdX12_treats_64 : decode cX12_treats 64 = .ok (.iadd, 1) := dq0 kk_96 (by decide +kernel)
theorem wdX12_treats_65 : decode cX12_treats 65 = .ok (.iaload, 1) := dq0 kk_46 (by decide +kernel)
theorem wdX12_treats_66 : decode cX12_treats 66 = .ok (.ifCond .ne 7, 3) := dqT kk_154 (by decide +kernel)
theorem wdX12_treats_73 : decode cX12_treats 73 = .ok (.iconst 0, 1) := dq0 kk_3 (by decide +kernel)
theorem wdX12_treats_74 : decode cX12_treats 74 = .ok (.istore 5, 2) := dqU kk_54 (by decide +kernel)
theorem wdX12_treats_76 : decode cX12_treats 76 = .ok (.aload_n 0, 1) := dq0 kk_42 (by decide +kernel)
theorem wdX12_treats_77 : decode cX12_treats 77 = .ok (.getfield 20, 3) := dqV kk_180 (by decide +kernel)
theorem wdX12_treats_80 : decode cX12_treats 80 = .ok (.iload_n 3, 1) := dq0 kk_29 (by decide +kernel)
theorem wdX12_treats_81 : decode cX12_treats 81 = .ok (.iaload, 1) := dq0 kk_46 (by decide +kernel)
theorem wdX12_treats_82 : decode cX12_treats 82 = .ok (.tableswitch 166 1 6 #[38, 60, 74, 118, 132, 159], 38) := by decide +kernel
theorem wdX12_treats_120 : decode cX12_treats 120 = .ok (.iload 5, 2) := dqU kk_21 (by decide +kernel)
theorem wdX12_treats_122 : decode cX12_treats 122 = .ok (.ifCond .ne 18, 3) := dqT kk_154 (by decide +kernel)
theorem wdX12_treats_125 : decode cX12_treats 125 = .ok (.aload_n 0, 1) := dq0 kk_42 (by decide +kernel)
theorem wdX12_treats_126 : decode cX12_treats 126 = .ok (.iload_n 2, 1) := dq0 kk_28 (by decide +kernel)
theorem wdX12_treats_127 : decode cX12_treats 127 = .ok (.iload 4, 2) := dqU kk_21 (by decide +kernel)
theorem wdX12_treats_129 : decode cX12_treats 129 = .ok (.aload_n 0, 1) := dq0 kk_42 (by decide +kernel)
theorem wdX12_treats_130 : decode cX12_treats 130 = .ok (.getfield 20, 3) := dqV kk_180 (by decide +kernel)
theorem wdX12_treats_133 : decode cX12_treats 133 = .ok (.iload_n 3, 1) := dq0 kk_29 (by decide +kernel)
theorem wdX12_treats_134 : decode cX12_treats 134 = .ok (.iconst 3, 1) := dq0 kk_6 (by decide +kernel)
theorem wdX12_treats_135 : decode cX12_treats 135 = .ok (.iadd, 1) := dq0 kk_96 (by decide +kernel)
theorem wdX12_treats_136 : decode cX12_treats 136 = .ok (.iaload, 1) := dq0 kk_46 (by decide +kernel)
theorem wdX12_treats_137 : decode cX12_treats 137 = .ok (.invokevirtual 119, 3) := dqV kk_182 (by decide +kernel)
theorem wtk_X12_spreads : Cond.code yX12_spreads cX12_spreads 6 none ∈ TB := tbm (tc6 (List.mem_of_getElem? (i := 109) rfl)) rfl
theorem wgc_X12_spreads : GoodIn TB (cw yX12_spreads cX12_spreads 6 none) := goodIn_c2 wtk_X12_spreads
theorem wtb_141 : Cond.methodLink "ToneLinesModel" 119 yX12_spreads ∈ TB := tbm (tc6 (List.mem_of_getElem? (i := 106) rfl)) rfl
theorem wtb_142 : Cond.instanceMethod yX12_spreads ∈ TB := tbm (tc6 (List.mem_of_getElem? (i := 108) rfl)) rfl
theorem wtb_143 : Cond.selects "ToneLinesModel" yX12_spreads yX12_spreads ∈ TB := tbp (List.mem_of_getElem? (i := 64) rfl) rfl
theorem wgv_X12_119 : GoodIn TB (wsV RX12 119 RX12 yX12_spreads (cw yX12_spreads cX12_spreads 6 none)) := goodIn_4 wtb_141 wtb_142 wtb_143 wtb_105 wgc_X12_spreads
theorem whv_X12_spreads : yX12_spreads.cls = RX12 ∧ yX12_spreads.cls ≠ "java/lang/invoke/MethodHandle" ∧ yX12_spreads.cls ≠ "java/lang/invoke/VarHandle" ∧ (parseMethodDescriptor yX12_spreads.desc).map (fun d => d.parameters.length) = some 3 := by decide +kernel
theorem wdX12_treats_140 : decode cX12_treats 140 = .ok (.iconst 0, 1) := dq0 kk_3 (by decide +kernel)
theorem wdX12_treats_141 : decode cX12_treats 141 = .ok (.ireturn, 1) := dq0 kk_172 (by decide +kernel)
theorem wdX12_treats_142 : decode cX12_treats 142 = .ok (.iload 5, 2) := dqU kk_21 (by decide +kernel)
theorem wdX12_treats_144 : decode cX12_treats 144 = .ok (.ifCond .ne 10, 3) := dqT kk_154 (by decide +kernel)
theorem wdX12_treats_147 : decode cX12_treats 147 = .ok (.aload_n 0, 1) := dq0 kk_42 (by decide +kernel)
theorem wdX12_treats_148 : decode cX12_treats 148 = .ok (.iload_n 2, 1) := dq0 kk_28 (by decide +kernel)
theorem wdX12_treats_149 : decode cX12_treats 149 = .ok (.iload 4, 2) := dqU kk_21 (by decide +kernel)
theorem wdX12_treats_151 : decode cX12_treats 151 = .ok (.invokevirtual 123, 3) := dqV kk_182 (by decide +kernel)
theorem wtk_X12_shifts : Cond.code yX12_shifts cX12_shifts 4 none ∈ TB := tbm (tc6 (List.mem_of_getElem? (i := 117) rfl)) rfl
theorem wgc_X12_shifts : GoodIn TB (cw yX12_shifts cX12_shifts 4 none) := goodIn_c2 wtk_X12_shifts
theorem wtb_144 : Cond.methodLink "ToneLinesModel" 123 yX12_shifts ∈ TB := tbm (tc6 (List.mem_of_getElem? (i := 114) rfl)) rfl
theorem wtb_145 : Cond.instanceMethod yX12_shifts ∈ TB := tbm (tc6 (List.mem_of_getElem? (i := 116) rfl)) rfl
theorem wtb_146 : Cond.selects "ToneLinesModel" yX12_shifts yX12_shifts ∈ TB := tbp (List.mem_of_getElem? (i := 66) rfl) rfl
theorem wgv_X12_123 : GoodIn TB (wsV RX12 123 RX12 yX12_shifts (cw yX12_shifts cX12_shifts 4 none)) := goodIn_4 wtb_144 wtb_145 wtb_146 wtb_105 wgc_X12_shifts
theorem whv_X12_shifts : yX12_shifts.cls = RX12 ∧ yX12_shifts.cls ≠ "java/lang/invoke/MethodHandle" ∧ yX12_shifts.cls ≠ "java/lang/invoke/VarHandle" ∧ (parseMethodDescriptor yX12_shifts.desc).map (fun d => d.parameters.length) = some 2 := by decide +kernel
theorem wdX12_treats_154 : decode cX12_treats 154 = .ok (.iconst 0, 1) := dq0 kk_3 (by decide +kernel)
theorem wdX12_treats_155 : decode cX12_treats 155 = .ok (.ireturn, 1) := dq0 kk_172 (by decide +kernel)
theorem wdX12_treats_156 : decode cX12_treats 156 = .ok (.iload 5, 2) := dqU kk_21 (by decide +kernel)
theorem wdX12_treats_158 : decode cX12_treats 158 = .ok (.ifCond .ne 40, 3) := dqT kk_154 (by decide +kernel)
theorem wdX12_treats_161 : decode cX12_treats 161 = .ok (.aload_n 0, 1) := dq0 kk_42 (by decide +kernel)
theorem wdX12_treats_162 : decode cX12_treats 162 = .ok (.iload_n 2, 1) := dq0 kk_28 (by decide +kernel)
theorem wdX12_treats_163 : decode cX12_treats 163 = .ok (.iload 4, 2) := dqU kk_21 (by decide +kernel)
theorem wdX12_treats_165 : decode cX12_treats 165 = .ok (.ifCond .eq 18, 3) := dqT kk_153 (by decide +kernel)
theorem wdX12_treats_183 : decode cX12_treats 183 = .ok (.aload_n 0, 1) := dq0 kk_42 (by decide +kernel)
theorem wdX12_treats_184 : decode cX12_treats 184 = .ok (.getfield 17, 3) := dqV kk_180 (by decide +kernel)
theorem wdX12_treats_187 : decode cX12_treats 187 = .ok (.bipush 13, 2) := dqS kk_16 (by decide +kernel)
theorem wdX12_treats_189 : decode cX12_treats 189 = .ok (.iload_n 2, 1) := dq0 kk_28 (by decide +kernel)
theorem wdX12_treats_190 : decode cX12_treats 190 = .ok (.iadd, 1) := dq0 kk_96 (by decide +kernel)
theorem wdX12_treats_191 : decode cX12_treats 191 = .ok (.iaload, 1) := dq0 kk_46 (by decide +kernel)
theorem wdX12_treats_192 : decode cX12_treats 192 = .ok (.invokestatic 63, 3) := dqV kk_184 (by decide +kernel)
theorem wdX12_treats_195 : decode cX12_treats 195 = .ok (.invokevirtual 102, 3) := dqV kk_182 (by decide +kernel)
theorem wdX12_treats_198 : decode cX12_treats 198 = .ok (.iconst 0, 1) := dq0 kk_3 (by decide +kernel)
theorem wdX12_treats_199 : decode cX12_treats 199 = .ok (.ireturn, 1) := dq0 kk_172 (by decide +kernel)
theorem wdX12_treats_168 : decode cX12_treats 168 = .ok (.aload_n 0, 1) := dq0 kk_42 (by decide +kernel)
theorem wdX12_treats_169 : decode cX12_treats 169 = .ok (.getfield 17, 3) := dqV kk_180 (by decide +kernel)
theorem wdX12_treats_172 : decode cX12_treats 172 = .ok (.bipush 13, 2) := dqS kk_16 (by decide +kernel)
theorem wdX12_treats_174 : decode cX12_treats 174 = .ok (.iload_n 2, 1) := dq0 kk_28 (by decide +kernel)
theorem wdX12_treats_175 : decode cX12_treats 175 = .ok (.iadd, 1) := dq0 kk_96 (by decide +kernel)
theorem wdX12_treats_176 : decode cX12_treats 176 = .ok (.iaload, 1) := dq0 kk_46 (by decide +kernel)
theorem wdX12_treats_177 : decode cX12_treats 177 = .ok (.invokestatic 59, 3) := dqV kk_184 (by decide +kernel)
theorem wdX12_treats_180 : decode cX12_treats 180 = .ok (.goto 15, 3) := dqT kk_167 (by decide +kernel)
theorem wdX12_treats_200 : decode cX12_treats 200 = .ok (.iload 5, 2) := dqU kk_21 (by decide +kernel)
theorem wdX12_treats_202 : decode cX12_treats 202 = .ok (.ifCond .eq 10, 3) := dqT kk_153 (by decide +kernel)
theorem wdX12_treats_212 : decode cX12_treats 212 = .ok (.iconst 0, 1) := dq0 kk_3 (by decide +kernel)
theorem wdX12_treats_213 : decode cX12_treats 213 = .ok (.ireturn, 1) := dq0 kk_172 (by decide +kernel)
theorem wdX12_treats_214 : decode cX12_treats 214 = .ok (.iload 5, 2) := dqU kk_21 (by decide +kernel)
theorem wdX12_treats_216 : decode cX12_treats 216 = .ok (.ifCond .ne 5, 3) := dqT kk_154 (by decide +kernel)
theorem wdX12_treats_219 : decode cX12_treats 219 = .ok (.iconst 0, 1) := dq0 kk_3 (by decide +kernel)
theorem wdX12_treats_220 : decode cX12_treats 220 = .ok (.ireturn, 1) := dq0 kk_172 (by decide +kernel)
theorem wdX12_treats_241 : decode cX12_treats 241 = .ok (.aload_n 0, 1) := dq0 kk_42 (by decide +kernel)
theorem wdX12_treats_242 : decode cX12_treats 242 = .ok (.iload_n 2, 1) := dq0 kk_28 (by decide +kernel)
theorem wdX12_treats_243 : decode cX12_treats 243 = .ok (.invokevirtual 130, 3) := dqV kk_182 (by decide +kernel)
theorem wtk_X12_fuses : Cond.code yX12_fuses cX12_fuses 3 none ∈ TB := tbm (tc6 (List.mem_of_getElem? (i := 125) rfl)) rfl
theorem wgc_X12_fuses : GoodIn TB (cw yX12_fuses cX12_fuses 3 none) := goodIn_c2 wtk_X12_fuses
theorem wtb_147 : Cond.methodLink "ToneLinesModel" 130 yX12_fuses ∈ TB := tbm (tc6 (List.mem_of_getElem? (i := 122) rfl)) rfl
theorem wtb_148 : Cond.instanceMethod yX12_fuses ∈ TB := tbm (tc6 (List.mem_of_getElem? (i := 124) rfl)) rfl
theorem wtb_149 : Cond.selects "ToneLinesModel" yX12_fuses yX12_fuses ∈ TB := tbp (List.mem_of_getElem? (i := 68) rfl) rfl
theorem wgv_X12_130 : GoodIn TB (wsV RX12 130 RX12 yX12_fuses (cw yX12_fuses cX12_fuses 3 none)) := goodIn_4 wtb_147 wtb_148 wtb_149 wtb_105 wgc_X12_fuses
theorem whv_X12_fuses : yX12_fuses.cls = RX12 ∧ yX12_fuses.cls ≠ "java/lang/invoke/MethodHandle" ∧ yX12_fuses.cls ≠ "java/lang/invoke/VarHandle" ∧ (parseMethodDescriptor yX12_fuses.desc).map (fun d => d.parameters.length) = some 1 := by decide +kernel
theorem wdX12_treats_246 : decode cX12_treats 246 = .ok (.iconst 0, 1) := dq0 kk_3 (by decide +kernel)
theorem wdX12_treats_247 : decode cX12_treats 247 = .ok (.ireturn, 1) := dq0 kk_172 (by decide +kernel)
theorem wdX12_treats_248 : decode cX12_treats 248 = .ok (.aload_n 0, 1) := dq0 kk_42 (by decide +kernel)
theorem wdX12_treats_249 : decode cX12_treats 249 = .ok (.iload_n 2, 1) := dq0 kk_28 (by decide +kernel)
theorem wdX12_treats_250 : decode cX12_treats 250 = .ok (.aload_n 0, 1) := dq0 kk_42 (by decide +kernel)
theorem wdX12_treats_251 : decode cX12_treats 251 = .ok (.getfield 20, 3) := dqV kk_180 (by decide +kernel)
theorem wdX12_treats_254 : decode cX12_treats 254 = .ok (.iload_n 3, 1) := dq0 kk_29 (by decide +kernel)
theorem wdX12_treats_255 : decode cX12_treats 255 = .ok (.iconst 3, 1) := dq0 kk_6 (by decide +kernel)
theorem wdX12_treats_256 : decode cX12_treats 256 = .ok (.iadd, 1) := dq0 kk_96 (by decide +kernel)
theorem wdX12_treats_257 : decode cX12_treats 257 = .ok (.iaload, 1) := dq0 kk_46 (by decide +kernel)
theorem wdX12_treats_258 : decode cX12_treats 258 = .ok (.invokevirtual 134, 3) := dqV kk_182 (by decide +kernel)
theorem wtk_X12_turns : Cond.code yX12_turns cX12_turns 3 none ∈ TB := tbm (tc6 (List.mem_of_getElem? (i := 129) rfl)) rfl
theorem wgc_X12_turns : GoodIn TB (cw yX12_turns cX12_turns 3 none) := goodIn_c2 wtk_X12_turns
theorem wtb_150 : Cond.methodLink "ToneLinesModel" 134 yX12_turns ∈ TB := tbm (tc6 (List.mem_of_getElem? (i := 126) rfl)) rfl
theorem wtb_151 : Cond.instanceMethod yX12_turns ∈ TB := tbm (tc6 (List.mem_of_getElem? (i := 128) rfl)) rfl
theorem wtb_152 : Cond.selects "ToneLinesModel" yX12_turns yX12_turns ∈ TB := tbp (List.mem_of_getElem? (i := 69) rfl) rfl
theorem wgv_X12_134 : GoodIn TB (wsV RX12 134 RX12 yX12_turns (cw yX12_turns cX12_turns 3 none)) := goodIn_4 wtb_150 wtb_151 wtb_152 wtb_105 wgc_X12_turns
theorem whv_X12_turns : yX12_turns.cls = RX12 ∧ yX12_turns.cls ≠ "java/lang/invoke/MethodHandle" ∧ yX12_turns.cls ≠ "java/lang/invoke/VarHandle" ∧ (parseMethodDescriptor yX12_turns.desc).map (fun d => d.parameters.length) = some 2 := by decide +kernel
theorem wdX12_treats_261 : decode cX12_treats 261 = .ok (.iconst 0, 1) := dq0 kk_3 (by decide +kernel)
theorem wdX12_treats_262 : decode cX12_treats 262 = .ok (.ireturn, 1) := dq0 kk_172 (by decide +kernel)
theorem wdX12_treats_69 : decode cX12_treats 69 = .ok (.iconst 1, 1) := dq0 kk_4 (by decide +kernel)
theorem wdX12_treats_70 : decode cX12_treats 70 = .ok (.goto 4, 3) := dqT kk_167 (by decide +kernel)
theorem wdX12_treats_205 : decode cX12_treats 205 = .ok (.aload_n 0, 1) := dq0 kk_42 (by decide +kernel)
theorem wdX12_treats_206 : decode cX12_treats 206 = .ok (.iload_n 2, 1) := dq0 kk_28 (by decide +kernel)
theorem wdX12_treats_207 : decode cX12_treats 207 = .ok (.iload 4, 2) := dqU kk_21 (by decide +kernel)
theorem wdX12_treats_209 : decode cX12_treats 209 = .ok (.invokevirtual 127, 3) := dqV kk_182 (by decide +kernel)
theorem wtk_X12_docks : Cond.code yX12_docks cX12_docks 5 none ∈ TB := tbm (tc6 (List.mem_of_getElem? (i := 121) rfl)) rfl
theorem wgc_X12_docks : GoodIn TB (cw yX12_docks cX12_docks 5 none) := goodIn_c2 wtk_X12_docks
theorem wtb_153 : Cond.methodLink "ToneLinesModel" 127 yX12_docks ∈ TB := tbm (tc6 (List.mem_of_getElem? (i := 118) rfl)) rfl
theorem wtb_154 : Cond.instanceMethod yX12_docks ∈ TB := tbm (tc6 (List.mem_of_getElem? (i := 120) rfl)) rfl
theorem wtb_155 : Cond.selects "ToneLinesModel" yX12_docks yX12_docks ∈ TB := tbp (List.mem_of_getElem? (i := 67) rfl) rfl
theorem wgv_X12_127 : GoodIn TB (wsV RX12 127 RX12 yX12_docks (cw yX12_docks cX12_docks 5 none)) := goodIn_4 wtb_153 wtb_154 wtb_155 wtb_105 wgc_X12_docks
theorem whv_X12_docks : yX12_docks.cls = RX12 ∧ yX12_docks.cls ≠ "java/lang/invoke/MethodHandle" ∧ yX12_docks.cls ≠ "java/lang/invoke/VarHandle" ∧ (parseMethodDescriptor yX12_docks.desc).map (fun d => d.parameters.length) = some 2 := by decide +kernel
theorem wdX12_treats_221 : decode cX12_treats 221 = .ok (.aload_n 0, 1) := dq0 kk_42 (by decide +kernel)
theorem wdX12_treats_222 : decode cX12_treats 222 = .ok (.getfield 17, 3) := dqV kk_180 (by decide +kernel)
theorem wdX12_treats_225 : decode cX12_treats 225 = .ok (.iload_n 2, 1) := dq0 kk_28 (by decide +kernel)
theorem wdX12_treats_226 : decode cX12_treats 226 = .ok (.invokestatic 108, 3) := dqV kk_184 (by decide +kernel)
theorem wdX12_treats_229 : decode cX12_treats 229 = .ok (.aload_n 0, 1) := dq0 kk_42 (by decide +kernel)
theorem wdX12_treats_230 : decode cX12_treats 230 = .ok (.dup, 1) := dq0 kk_89 (by decide +kernel)
theorem wdX12_treats_231 : decode cX12_treats 231 = .ok (.getfield 66, 3) := dqV kk_180 (by decide +kernel)
theorem wdX12_treats_234 : decode cX12_treats 234 = .ok (.iconst 1, 1) := dq0 kk_4 (by decide +kernel)
theorem wdX12_treats_235 : decode cX12_treats 235 = .ok (.iadd, 1) := dq0 kk_96 (by decide +kernel)
theorem wdX12_treats_236 : decode cX12_treats 236 = .ok (.putfield 66, 3) := dqV kk_181 (by decide +kernel)
theorem wdX12_treats_239 : decode cX12_treats 239 = .ok (.iconst 1, 1) := dq0 kk_4 (by decide +kernel)
theorem wdX12_treats_240 : decode cX12_treats 240 = .ok (.ireturn, 1) := dq0 kk_172 (by decide +kernel)
theorem wdX12_treats_50 : decode cX12_treats 50 = .ok (.iconst 1, 1) := dq0 kk_4 (by decide +kernel)
theorem wdX12_treats_51 : decode cX12_treats 51 = .ok (.goto 4, 3) := dqT kk_167 (by decide +kernel)
theorem wdX12_treats_36 : decode cX12_treats 36 = .ok (.iconst 0, 1) := dq0 kk_3 (by decide +kernel)
theorem wdX12_treats_37 : decode cX12_treats 37 = .ok (.ireturn, 1) := dq0 kk_172 (by decide +kernel)
set_option maxRecDepth 4000 in
theorem s_X12_treats {l : Launch} {D : va_G} {B : Nat} {cy : Nat → ClassId} {M : Mem} {q hv ed : Nat} {o : Wo} {z9 : Int} (hR : RW M q hv ed o z9) {r v : Nat} {P : Nat → Int} (hr8 : r < 8) (hV : isV M r P) (hG : okG P) (hv0 : P 0 = (v : Int)) (hv1 : 1 ≤ v ∧ v ≤ 7) {t : Nat} (ht : t < o.1) : Ci l D B cy yX12_treats cX12_treats 6 (some .boolean) 5 115 [.ref (B + 146), .int (zI (r : Int)), .int (zI (t : Int))] M (fun r M1 => RT v q hv ed (trT P v (lfP P) (sdP P) (Int.toNat (P 3)) q hv ed t o) z9 M r M1) := by
  refine s_any (by decide) (Nat.le_of_ble_eq_true rfl) ?_
  intro p e s m below meth c ls F hr hlocks w hl
  have F : CallFix p m c cX12_treats 6 s _ TB RX12 := F
  have hx := F.1
  have hb := F.2.1
  have hl : lv_has ls 6 [(0, .ref (B + 146)), (1, .int (zI (r : Int))), (2, .int (zI (t : Int)))] := hl
  have hW := hR.1
  have hwf := hR.wf
  have hKL := hwf.2.2.2.2
  have hn12 := hwf.1
  have hq12 := hwf.2.1
  have hhv := hwf.2.2.1
  have hed := hwf.2.2.2.1
  have hc := hR.2.2.2.2
  have hP := hG.1
  have hg := hG.2.1
  have hz5 := hG.2.2
  have hP0 := hP 0 (by decide)
  have hP1 := hP 1 (by decide)
  have hP2 := hP 2 (by decide)
  have hP3 := hP 3 (by decide)
  have hP4 := hP 4 (by decide)
  have hP5 := hP 5 (by decide)
  have hP6 := hP 6 (by decide)
  have hP7 := hP 7 (by decide)
  have hsd := sd8 P
  have hlf := lf8 P
  refine lv_bipush (v := zI 8) hx hb wdX12_treats_0 (by decide) ?_
  refine lv_iload_n hx hb wdX12_treats_2 rfl (lv_at hl 1 rfl) ?_
  refine z_imul (z := (((8 * r) : Nat) : Int)) hx hb wdX12_treats_3 (by omega) ?_
  refine lv_istore_n (lv' := [(3, .int (zI (((8 * r) : Nat) : Int))), (0, .ref (B + 146)), (1, .int (zI (r : Int))), (2, .int (zI (t : Int)))]) hx hb wdX12_treats_4 rfl hl (by decide) rfl (fun ls hl => ?_)
  refine lv_aload_n hx hb wdX12_treats_5 rfl (lv_at hl 1 rfl) ?_
  refine f_12_2 F w (a := 146) rfl wtb_102 wdX12_treats_6 ?_
  refine lv_iconst (v := zI 1) hx hb wdX12_treats_9 rfl ?_
  refine lv_iload_n hx hb wdX12_treats_10 rfl (lv_at hl 3 rfl) ?_
  refine z_iadd (z := (((1 + t) : Nat) : Int)) hx hb wdX12_treats_11 (by omega) ?_
  refine g_iald F w (a := 148) rfl (j := (1 + t)) (ix_n (by omega)) (by omega) wdX12_treats_12 ?_
  have hK0 := (hKL t (by omega)).1
  refine r_val (v := (zI (((o.2.1 t) : Nat) : Int))) (hW.2.2.2.2.1 t (by omega)) ?_
  refine lv_aload_n hx hb wdX12_treats_13 rfl (lv_at hl 1 rfl) ?_
  refine f_12_4 F w (a := 146) rfl wtb_114 wdX12_treats_14 ?_
  refine lv_iload_n hx hb wdX12_treats_17 rfl (lv_at hl 0 rfl) ?_
  refine lv_iconst (v := zI 2) hx hb wdX12_treats_18 rfl ?_
  refine z_iadd (z := ((((8 * r) + 2) : Nat) : Int)) hx hb wdX12_treats_19 (by omega) ?_
  refine g_iald F w (a := 149) rfl (j := ((8 * r) + 2)) (ix_n (by omega)) (by omega) wdX12_treats_20 ?_
  refine r_val (v := (zI (P 2))) (hV 2 (by decide)) ?_
  refine k_Si F w (As := [.int (zI (((o.2.1 t) : Nat) : Int)), .int (zI (P 2))]) (rest := []) (s_X12_fits (x9 := (((o.2.1 t) : Nat) : Int)) (y9 := (P 2)) (by omega) (by omega)) wgs_X12_79 whs_X12_fits ⟨(Nat.le_of_ble_eq_true rfl), (Nat.le_of_ble_eq_true rfl)⟩ hl.1 rfl (Nat.le_of_ble_eq_true rfl) ⟨Nat.zero_le _, Nat.zero_le _⟩ wdX12_treats_21 (fun r Ma2 H locs hp w => ?_)
  rcases hp with ⟨⟨hb1, rfl⟩ | ⟨hb1, rfl⟩, hMe⟩
  · rw [hMe] at w
    refine z_if_eq (tgt := 36) hx hb (by omega) wdX12_treats_24 (by decide) (fun c3 => False.elim (by omega)) (fun c3 => ?_)
    refine lv_aload_n hx hb wdX12_treats_27 rfl (lv_at hl 1 rfl) ?_
    refine lv_iload_n hx hb wdX12_treats_28 rfl (lv_at hl 2 rfl) ?_
    refine lv_iload_n hx hb wdX12_treats_29 rfl (lv_at hl 3 rfl) ?_
    refine k_Vi F w (As := [.int (zI (r : Int)), .int (zI (t : Int))]) (rest := []) (a := 146) (kd_lt (a := 146) (show kd 146 = (12, 0, 0) from rfl) (by decide)) (sh_12 rfl _ _) rfl (s_X12_passes hR hr8 hV hP hz5 (t := t) ht) wgv_X12_116 whv_X12_passes ⟨(Nat.le_of_ble_eq_true rfl), (Nat.le_of_ble_eq_true rfl)⟩ hl.1 rfl (Nat.le_of_ble_eq_true rfl) ⟨Nat.zero_le _, Nat.zero_le _⟩ wdX12_treats_30 (fun r Ma5 H locs hp w => ?_)
    rcases hp with ⟨⟨hb4, rfl⟩ | ⟨hb4, rfl⟩, hMe⟩
    · rw [hMe] at w
      refine z_if_ne (tgt := 38) hx hb (by omega) wdX12_treats_33 (by decide) (fun c6 => ?_) (fun c6 => False.elim (by omega))
      refine lv_aload_n hx hb wdX12_treats_38 rfl (lv_at hl 1 rfl) ?_
      refine f_12_4 F w (a := 146) rfl wtb_114 wdX12_treats_39 ?_
      refine lv_iload_n hx hb wdX12_treats_42 rfl (lv_at hl 0 rfl) ?_
      refine lv_iconst (v := zI 4) hx hb wdX12_treats_43 rfl ?_
      refine z_iadd (z := ((((8 * r) + 4) : Nat) : Int)) hx hb wdX12_treats_44 (by omega) ?_
      refine g_iald F w (a := 149) rfl (j := ((8 * r) + 4)) (ix_n (by omega)) (by omega) wdX12_treats_45 ?_
      refine r_val (v := (zI (P 4))) (hV 4 (by decide)) ?_
      refine lv_iconst (v := zI 1) hx hb wdX12_treats_46 rfl ?_
      refine z_icmp_ne (tgt := 54) hx hb (by omega) (by omega) wdX12_treats_47 (by decide) (fun c7 => ?_) (fun c7 => ?_)
      · refine lv_iconst (v := zI 0) hx hb wdX12_treats_54 rfl ?_
        refine r_val (v := zI ((sdP P : Nat) : Int)) (congrArg zI (by omega)) ?_
        refine lv_istore (lv' := [(4, .int (zI (((sdP P) : Nat) : Int))), (3, .int (zI (((8 * r) : Nat) : Int))), (0, .ref (B + 146)), (1, .int (zI (r : Int))), (2, .int (zI (t : Int)))]) hx hb wdX12_treats_55 hl (by decide) rfl (fun ls hl => ?_)
        refine lv_aload_n hx hb wdX12_treats_57 rfl (lv_at hl 2 rfl) ?_
        refine f_12_2 F w (a := 146) rfl wtb_102 wdX12_treats_58 ?_
        refine lv_bipush (v := zI 13) hx hb wdX12_treats_61 (by decide) ?_
        refine lv_iload_n hx hb wdX12_treats_63 rfl (lv_at hl 4 rfl) ?_
        refine z_iadd (z := (((13 + t) : Nat) : Int)) hx hb wdX12_treats_64 (by omega) ?_
        refine g_iald F w (a := 148) rfl (j := (13 + t)) (ix_n (by omega)) (by omega) wdX12_treats_65 ?_
        have hL7 := (hKL t (by omega)).2
        refine r_val (v := (zI (((o.2.2 t) : Nat) : Int))) (hW.2.2.2.2.2 t (by omega)) ?_
        refine z_if_ne (tgt := 73) hx hb (by omega) wdX12_treats_66 (by decide) (fun c8 => ?_) (fun c8 => ?_)
        · refine lv_iconst (v := zI 0) hx hb wdX12_treats_73 rfl ?_
          have h0t : o.2.2 t ≠ 0 := by omega
          refine lv_istore (lv' := [(5, .int (zI 0)), (4, .int (zI (((sdP P) : Nat) : Int))), (3, .int (zI (((8 * r) : Nat) : Int))), (0, .ref (B + 146)), (1, .int (zI (r : Int))), (2, .int (zI (t : Int)))]) hx hb wdX12_treats_74 hl (by decide) rfl (fun ls hl => ?_)
          refine lv_aload_n hx hb wdX12_treats_76 rfl (lv_at hl 3 rfl) ?_
          refine f_12_4 F w (a := 146) rfl wtb_114 wdX12_treats_77 ?_
          refine lv_iload_n hx hb wdX12_treats_80 rfl (lv_at hl 2 rfl) ?_
          refine g_iald F w (a := 149) rfl (j := (8 * r)) (ix_n (by omega)) (by omega) wdX12_treats_81 ?_
          refine r_val (v := (zI (P 0))) (hV 0 (by decide)) ?_
          rcases (show ((P 0) : Int) = 1 ∨ ((P 0) : Int) = 2 ∨ ((P 0) : Int) = 3 ∨ ((P 0) : Int) = 4 ∨ ((P 0) : Int) = 5 ∨ ((P 0) : Int) = 6 ∨ ((P 0) ≠ 1 ∧ (P 0) ≠ 2 ∧ (P 0) ≠ 3 ∧ (P 0) ≠ 4 ∧ (P 0) ≠ 5 ∧ (P 0) ≠ 6) by omega) with c9 | c9 | c9 | c9 | c9 | c9 | c9
          · refine r_val (v := zI 1) (congrArg zI c9) ?_
            refine lv_tableIn (tgt := 120) hx hb wdX12_treats_82 (by decide) (by decide) (off := 38) rfl (by decide) ?_
            refine lv_iload hx hb wdX12_treats_120 (lv_at hl 0 rfl) ?_
            refine z_if_ne (tgt := 140) hx hb (by omega) wdX12_treats_122 (by decide) (fun c10 => False.elim (by omega)) (fun c10 => ?_)
            refine lv_aload_n hx hb wdX12_treats_125 rfl (lv_at hl 3 rfl) ?_
            refine lv_iload_n hx hb wdX12_treats_126 rfl (lv_at hl 5 rfl) ?_
            refine lv_iload hx hb wdX12_treats_127 (lv_at hl 1 rfl) ?_
            refine lv_aload_n hx hb wdX12_treats_129 rfl (lv_at hl 3 rfl) ?_
            refine f_12_4 F w (a := 146) rfl wtb_114 wdX12_treats_130 ?_
            refine lv_iload_n hx hb wdX12_treats_133 rfl (lv_at hl 2 rfl) ?_
            refine lv_iconst (v := zI 3) hx hb wdX12_treats_134 rfl ?_
            refine z_iadd (z := ((((8 * r) + 3) : Nat) : Int)) hx hb wdX12_treats_135 (by omega) ?_
            refine g_iald F w (a := 149) rfl (j := ((8 * r) + 3)) (ix_n (by omega)) (by omega) wdX12_treats_136 ?_
            refine r_val (v := (zI (P 3))) (hV 3 (by decide)) ?_
            refine r_val (v := (zI (((Int.toNat (P 3)) : Nat) : Int))) (congrArg zI (by omega)) ?_
            refine k_Vv F w (As := [.int (zI (t : Int)), .int (zI (((sdP P) : Nat) : Int)), .int (zI (((Int.toNat (P 3)) : Nat) : Int))]) (rest := []) (a := 146) (kd_lt (a := 146) (show kd 146 = (12, 0, 0) from rfl) (by decide)) (sh_12 rfl _ _) rfl (r_spreads hR (t := t) (x := sdP P) (n9 := Int.toNat (P 3)) ht (by omega) (by omega) h0t) wgv_X12_119 whv_X12_spreads ⟨(Nat.le_of_ble_eq_true rfl), (Nat.le_of_ble_eq_true rfl)⟩ hl.1 rfl (Nat.le_of_ble_eq_true rfl) ⟨Nat.zero_le _, Nat.zero_le _⟩ wdX12_treats_137 (fun Ma11 H locs hp w => ?_)
            have hq10 := hp
            refine lv_iconst (v := zI 0) hx hb wdX12_treats_140 rfl ?_
            obtain rfl : v = 1 := by omega
            exact e_z F w hr hlocks (nar_z (by omega)) (RT.of hq10 (((trT_y ⟨by have h8 := hb1; omega, hb4⟩).trans (trV_1 (x := lfP P) (y := sdP P) (n9 := Int.toNat (P 3)) (q := q) (ed := ed))).trans (show spF q ed t (lfP P) (Int.toNat (P 3)) o = spF q ed t (sdP P) (Int.toNat (P 3)) o from (by rw [show lfP P = sdP P by omega]))) (by decide) (by decide)) wdX12_treats_141
          · refine r_val (v := zI 2) (congrArg zI c9) ?_
            refine lv_tableIn (tgt := 142) hx hb wdX12_treats_82 (by decide) (by decide) (off := 60) rfl (by decide) ?_
            refine lv_iload hx hb wdX12_treats_142 (lv_at hl 0 rfl) ?_
            refine z_if_ne (tgt := 154) hx hb (by omega) wdX12_treats_144 (by decide) (fun c12 => False.elim (by omega)) (fun c12 => ?_)
            refine lv_aload_n hx hb wdX12_treats_147 rfl (lv_at hl 3 rfl) ?_
            refine lv_iload_n hx hb wdX12_treats_148 rfl (lv_at hl 5 rfl) ?_
            refine lv_iload hx hb wdX12_treats_149 (lv_at hl 1 rfl) ?_
            refine k_Vv F w (As := [.int (zI (t : Int)), .int (zI (((sdP P) : Nat) : Int))]) (rest := []) (a := 146) (kd_lt (a := 146) (show kd 146 = (12, 0, 0) from rfl) (by decide)) (sh_12 rfl _ _) rfl (r_shifts hR (t := t) (x := sdP P) ht (by omega) h0t) wgv_X12_123 whv_X12_shifts ⟨(Nat.le_of_ble_eq_true rfl), (Nat.le_of_ble_eq_true rfl)⟩ hl.1 rfl (Nat.le_of_ble_eq_true rfl) ⟨Nat.zero_le _, Nat.zero_le _⟩ wdX12_treats_151 (fun Ma13 H locs hp w => ?_)
            have hq12 := hp
            refine lv_iconst (v := zI 0) hx hb wdX12_treats_154 rfl ?_
            obtain rfl : v = 2 := by omega
            exact e_z F w hr hlocks (nar_z (by omega)) (RT.of hq12 (((trT_y ⟨by have h8 := hb1; omega, hb4⟩).trans (trV_2 (x := lfP P) (y := sdP P) (n9 := Int.toNat (P 3)) (q := q) (ed := ed))).trans (show shF q ed t (lfP P) o = shF q ed t (sdP P) o from (by rw [show lfP P = sdP P by omega]))) (by decide) (by decide)) wdX12_treats_155
          · refine r_val (v := zI 3) (congrArg zI c9) ?_
            refine lv_tableIn (tgt := 156) hx hb wdX12_treats_82 (by decide) (by decide) (off := 74) rfl (by decide) ?_
            refine lv_iload hx hb wdX12_treats_156 (lv_at hl 0 rfl) ?_
            refine z_if_ne (tgt := 198) hx hb (by omega) wdX12_treats_158 (by decide) (fun c14 => False.elim (by omega)) (fun c14 => ?_)
            refine lv_aload_n hx hb wdX12_treats_161 rfl (lv_at hl 3 rfl) ?_
            refine lv_iload_n hx hb wdX12_treats_162 rfl (lv_at hl 5 rfl) ?_
            refine lv_iload hx hb wdX12_treats_163 (lv_at hl 1 rfl) ?_
            refine z_if_eq (tgt := 183) hx hb (by omega) wdX12_treats_165 (by decide) (fun c15 => ?_) (fun c15 => ?_)
            · refine lv_aload_n hx hb wdX12_treats_183 rfl (lv_at hl 3 rfl) ?_
              refine f_12_2 F w (a := 146) rfl wtb_102 wdX12_treats_184 ?_
              refine lv_bipush (v := zI 13) hx hb wdX12_treats_187 (by decide) ?_
              refine lv_iload_n hx hb wdX12_treats_189 rfl (lv_at hl 5 rfl) ?_
              refine z_iadd (z := (((13 + t) : Nat) : Int)) hx hb wdX12_treats_190 (by omega) ?_
              refine g_iald F w (a := 148) rfl (j := (13 + t)) (ix_n (by omega)) (by omega) wdX12_treats_191 ?_
              have hL15 := (hKL t (by omega)).2
              refine r_val (v := (zI (((o.2.2 t) : Nat) : Int))) (hW.2.2.2.2.2 t (by omega)) ?_
              refine x_Si F w (As := [.int (zI (((o.2.2 t) : Nat) : Int))]) (rest := [.int (zI (t : Int)), .ref (B + 146)]) (s_X12_firstOf (m9 := (o.2.2 t)) (by omega)) wgs_X12_63 whs_X12_firstOf ⟨(Nat.le_of_ble_eq_true rfl), (Nat.le_of_ble_eq_true rfl)⟩ hl.1 rfl (Nat.le_of_ble_eq_true rfl) ⟨Nat.zero_le _, Nat.zero_le _⟩ wdX12_treats_192 (fun H locs w => ?_)
              have hw15 := lowI_rg (o.2.2 t) (by omega)
              refine r_val (v := zI ((fex (sdP P) (o.2.2 t) : Nat) : Int)) (congrArg zI (fex_l (by omega) h0t)) ?_
              have hfx := fex_t (x := sdP P) (hR.2.1.lt ht) h0t
              refine k_Vv F w (As := [.int (zI (t : Int)), .int (zI (((fex (sdP P) (o.2.2 t)) : Nat) : Int))]) (rest := []) (a := 146) (kd_lt (a := 146) (show kd 146 = (12, 0, 0) from rfl) (by decide)) (sh_12 rfl _ _) rfl (s_X12_goes hW hwf hc (t := t) (j := (fex (sdP P) (o.2.2 t))) ht (by omega)) wgv_X12_102 whv_X12_goes ⟨(Nat.le_of_ble_eq_true rfl), (Nat.le_of_ble_eq_true rfl)⟩ hl.1 rfl (Nat.le_of_ble_eq_true rfl) ⟨Nat.zero_le _, Nat.zero_le _⟩ wdX12_treats_195 (fun Ma17 H locs hp w => ?_)
              rcases hp with ⟨hW2, hc2, hF2⟩
              refine lv_iconst (v := zI 0) hx hb wdX12_treats_198 rfl ?_
              obtain rfl : v = 3 := by omega
              exact e_z F w hr hlocks (nar_z (by omega)) (⟨_, _, ((trT_y ⟨by have h8 := hb1; omega, hb4⟩).trans (trV_3 (x := lfP P) (y := sdP P) (n9 := Int.toNat (P 3)) (q := q) (ed := ed))).trans (ctF_1 h0t), ⟨hW2, okW_line hR.2.1 (andn_lt (hR.2.1.2.2 t ht).2), hhv, hed, hc2⟩, hF2, by decide, Or.inr ⟨rfl, fun h9 => absurd h9.1 (by decide)⟩⟩) wdX12_treats_199
            · refine lv_aload_n hx hb wdX12_treats_168 rfl (lv_at hl 3 rfl) ?_
              refine f_12_2 F w (a := 146) rfl wtb_102 wdX12_treats_169 ?_
              refine lv_bipush (v := zI 13) hx hb wdX12_treats_172 (by decide) ?_
              refine lv_iload_n hx hb wdX12_treats_174 rfl (lv_at hl 5 rfl) ?_
              refine z_iadd (z := (((13 + t) : Nat) : Int)) hx hb wdX12_treats_175 (by omega) ?_
              refine g_iald F w (a := 148) rfl (j := (13 + t)) (ix_n (by omega)) (by omega) wdX12_treats_176 ?_
              have hL17 := (hKL t (by omega)).2
              refine r_val (v := (zI (((o.2.2 t) : Nat) : Int))) (hW.2.2.2.2.2 t (by omega)) ?_
              refine x_Si F w (As := [.int (zI (((o.2.2 t) : Nat) : Int))]) (rest := [.int (zI (t : Int)), .ref (B + 146)]) (s_X12_lastOf (m9 := (o.2.2 t)) (by omega)) wgs_X12_59 whs_X12_lastOf ⟨(Nat.le_of_ble_eq_true rfl), (Nat.le_of_ble_eq_true rfl)⟩ hl.1 rfl (Nat.le_of_ble_eq_true rfl) ⟨Nat.zero_le _, Nat.zero_le _⟩ wdX12_treats_177 (fun H locs w => ?_)
              have hw17 := higI_rg (o.2.2 t) (by omega)
              refine r_val (v := zI ((fex (sdP P) (o.2.2 t) : Nat) : Int)) (congrArg zI (fex_h (by omega) (by omega) h0t)) ?_
              have hfx := fex_t (x := sdP P) (hR.2.1.lt ht) h0t
              refine lv_goto (tgt := 195) hx hb wdX12_treats_180 (by decide) ?_
              refine k_Vv F w (As := [.int (zI (t : Int)), .int (zI (((fex (sdP P) (o.2.2 t)) : Nat) : Int))]) (rest := []) (a := 146) (kd_lt (a := 146) (show kd 146 = (12, 0, 0) from rfl) (by decide)) (sh_12 rfl _ _) rfl (s_X12_goes hW hwf hc (t := t) (j := (fex (sdP P) (o.2.2 t))) ht (by omega)) wgv_X12_102 whv_X12_goes ⟨(Nat.le_of_ble_eq_true rfl), (Nat.le_of_ble_eq_true rfl)⟩ hl.1 rfl (Nat.le_of_ble_eq_true rfl) ⟨Nat.zero_le _, Nat.zero_le _⟩ wdX12_treats_195 (fun Ma19 H locs hp w => ?_)
              rcases hp with ⟨hW2, hc2, hF2⟩
              refine lv_iconst (v := zI 0) hx hb wdX12_treats_198 rfl ?_
              obtain rfl : v = 3 := by omega
              exact e_z F w hr hlocks (nar_z (by omega)) (⟨_, _, ((trT_y ⟨by have h8 := hb1; omega, hb4⟩).trans (trV_3 (x := lfP P) (y := sdP P) (n9 := Int.toNat (P 3)) (q := q) (ed := ed))).trans (ctF_1 h0t), ⟨hW2, okW_line hR.2.1 (andn_lt (hR.2.1.2.2 t ht).2), hhv, hed, hc2⟩, hF2, by decide, Or.inr ⟨rfl, fun h9 => absurd h9.1 (by decide)⟩⟩) wdX12_treats_199
          · refine r_val (v := zI 4) (congrArg zI c9) ?_
            refine lv_tableIn (tgt := 200) hx hb wdX12_treats_82 (by decide) (by decide) (off := 118) rfl (by decide) ?_
            refine lv_iload hx hb wdX12_treats_200 (lv_at hl 0 rfl) ?_
            refine z_if_eq (tgt := 212) hx hb (by omega) wdX12_treats_202 (by decide) (fun c20 => ?_) (fun c20 => False.elim (by omega))
            refine lv_iconst (v := zI 0) hx hb wdX12_treats_212 rfl ?_
            obtain rfl : v = 4 := by omega
            exact e_z F w hr hlocks (nar_z (by omega)) (RT.id hR ((((trT_y ⟨by have h8 := hb1; omega, hb4⟩).trans (trV_4 (x := lfP P) (y := sdP P) (n9 := Int.toNat (P 3)) (q := q) (ed := ed))).trans (show dkG q t (lfP P) o = dkG q t (sdP P) o from (by rw [show lfP P = sdP P by omega]))).trans (dkG_1 h0t))) wdX12_treats_213
          · refine r_val (v := zI 5) (congrArg zI c9) ?_
            refine lv_tableIn (tgt := 214) hx hb wdX12_treats_82 (by decide) (by decide) (off := 132) rfl (by decide) ?_
            refine lv_iload hx hb wdX12_treats_214 (lv_at hl 0 rfl) ?_
            refine z_if_ne (tgt := 221) hx hb (by omega) wdX12_treats_216 (by decide) (fun c21 => False.elim (by omega)) (fun c21 => ?_)
            refine lv_iconst (v := zI 0) hx hb wdX12_treats_219 rfl ?_
            obtain rfl : v = 5 := by omega
            exact e_z F w hr hlocks (nar_z (by omega)) (RT.id hR (((trT_y ⟨by have h8 := hb1; omega, hb4⟩).trans (trV_5 (x := lfP P) (y := sdP P) (n9 := Int.toNat (P 3)) (q := q) (ed := ed))).trans (drF_0 h0t))) wdX12_treats_220
          · refine r_val (v := zI 6) (congrArg zI c9) ?_
            refine lv_tableIn (tgt := 241) hx hb wdX12_treats_82 (by decide) (by decide) (off := 159) rfl (by decide) ?_
            refine lv_aload_n hx hb wdX12_treats_241 rfl (lv_at hl 3 rfl) ?_
            refine lv_iload_n hx hb wdX12_treats_242 rfl (lv_at hl 5 rfl) ?_
            refine k_Vv F w (As := [.int (zI (t : Int))]) (rest := []) (a := 146) (kd_lt (a := 146) (show kd 146 = (12, 0, 0) from rfl) (by decide)) (sh_12 rfl _ _) rfl (s_X12_fuses hR (t := t) ht) wgv_X12_130 whv_X12_fuses ⟨(Nat.le_of_ble_eq_true rfl), (Nat.le_of_ble_eq_true rfl)⟩ hl.1 rfl (Nat.le_of_ble_eq_true rfl) ⟨Nat.zero_le _, Nat.zero_le _⟩ wdX12_treats_243 (fun Ma22 H locs hp w => ?_)
            have hq21 := hp
            refine lv_iconst (v := zI 0) hx hb wdX12_treats_246 rfl ?_
            obtain rfl : v = 6 := by omega
            exact e_z F w hr hlocks (nar_z (by omega)) (RT.of hq21 ((trT_y ⟨by have h8 := hb1; omega, hb4⟩).trans (trV_6 (x := lfP P) (y := sdP P) (n9 := Int.toNat (P 3)) (q := q) (ed := ed))) (by decide) (by decide)) wdX12_treats_247
          · refine lv_tableOut (tgt := 248) hx hb wdX12_treats_82 (by rw [zI_toInt (by omega)]; omega) (by decide) ?_
            refine lv_aload_n hx hb wdX12_treats_248 rfl (lv_at hl 3 rfl) ?_
            refine lv_iload_n hx hb wdX12_treats_249 rfl (lv_at hl 5 rfl) ?_
            refine lv_aload_n hx hb wdX12_treats_250 rfl (lv_at hl 3 rfl) ?_
            refine f_12_4 F w (a := 146) rfl wtb_114 wdX12_treats_251 ?_
            refine lv_iload_n hx hb wdX12_treats_254 rfl (lv_at hl 2 rfl) ?_
            refine lv_iconst (v := zI 3) hx hb wdX12_treats_255 rfl ?_
            refine z_iadd (z := ((((8 * r) + 3) : Nat) : Int)) hx hb wdX12_treats_256 (by omega) ?_
            refine g_iald F w (a := 149) rfl (j := ((8 * r) + 3)) (ix_n (by omega)) (by omega) wdX12_treats_257 ?_
            refine r_val (v := (zI (P 3))) (hV 3 (by decide)) ?_
            refine r_val (v := (zI (((Int.toNat (P 3)) : Nat) : Int))) (congrArg zI (by omega)) ?_
            refine k_Vv F w (As := [.int (zI (t : Int)), .int (zI (((Int.toNat (P 3)) : Nat) : Int))]) (rest := []) (a := 146) (kd_lt (a := 146) (show kd 146 = (12, 0, 0) from rfl) (by decide)) (sh_12 rfl _ _) rfl (r_turns hR (t := t) (x := Int.toNat (P 3)) ht (by omega)) wgv_X12_134 whv_X12_turns ⟨(Nat.le_of_ble_eq_true rfl), (Nat.le_of_ble_eq_true rfl)⟩ hl.1 rfl (Nat.le_of_ble_eq_true rfl) ⟨Nat.zero_le _, Nat.zero_le _⟩ wdX12_treats_258 (fun Ma23 H locs hp w => ?_)
            have hq22 := hp
            refine lv_iconst (v := zI 0) hx hb wdX12_treats_261 rfl ?_
            obtain rfl : v = 7 := by omega
            exact e_z F w hr hlocks (nar_z (by omega)) (RT.of hq22 ((trT_y ⟨by have h8 := hb1; omega, hb4⟩).trans (trV_7 (x := lfP P) (y := sdP P) (n9 := Int.toNat (P 3)) (q := q) (ed := ed))) (by decide) (by decide)) wdX12_treats_262
        · refine lv_iconst (v := zI 1) hx hb wdX12_treats_69 rfl ?_
          refine lv_goto (tgt := 74) hx hb wdX12_treats_70 (by decide) ?_
          have h0t : o.2.2 t = 0 := by omega
          refine lv_istore (lv' := [(5, .int (zI 1)), (4, .int (zI (((sdP P) : Nat) : Int))), (3, .int (zI (((8 * r) : Nat) : Int))), (0, .ref (B + 146)), (1, .int (zI (r : Int))), (2, .int (zI (t : Int)))]) hx hb wdX12_treats_74 hl (by decide) rfl (fun ls hl => ?_)
          refine lv_aload_n hx hb wdX12_treats_76 rfl (lv_at hl 3 rfl) ?_
          refine f_12_4 F w (a := 146) rfl wtb_114 wdX12_treats_77 ?_
          refine lv_iload_n hx hb wdX12_treats_80 rfl (lv_at hl 2 rfl) ?_
          refine g_iald F w (a := 149) rfl (j := (8 * r)) (ix_n (by omega)) (by omega) wdX12_treats_81 ?_
          refine r_val (v := (zI (P 0))) (hV 0 (by decide)) ?_
          rcases (show ((P 0) : Int) = 1 ∨ ((P 0) : Int) = 2 ∨ ((P 0) : Int) = 3 ∨ ((P 0) : Int) = 4 ∨ ((P 0) : Int) = 5 ∨ ((P 0) : Int) = 6 ∨ ((P 0) ≠ 1 ∧ (P 0) ≠ 2 ∧ (P 0) ≠ 3 ∧ (P 0) ≠ 4 ∧ (P 0) ≠ 5 ∧ (P 0) ≠ 6) by omega) with c24 | c24 | c24 | c24 | c24 | c24 | c24
          · refine r_val (v := zI 1) (congrArg zI c24) ?_
            refine lv_tableIn (tgt := 120) hx hb wdX12_treats_82 (by decide) (by decide) (off := 38) rfl (by decide) ?_
            refine lv_iload hx hb wdX12_treats_120 (lv_at hl 0 rfl) ?_
            refine z_if_ne (tgt := 140) hx hb (by omega) wdX12_treats_122 (by decide) (fun c25 => ?_) (fun c25 => False.elim (by omega))
            refine lv_iconst (v := zI 0) hx hb wdX12_treats_140 rfl ?_
            obtain rfl : v = 1 := by omega
            exact e_z F w hr hlocks (nar_z (by omega)) (RT.id hR ((((trT_y ⟨by have h8 := hb1; omega, hb4⟩).trans (trV_1 (x := lfP P) (y := sdP P) (n9 := Int.toNat (P 3)) (q := q) (ed := ed))).trans (show spF q ed t (lfP P) (Int.toNat (P 3)) o = spF q ed t (sdP P) (Int.toNat (P 3)) o from (by rw [show lfP P = sdP P by omega]))).trans (spF_0 h0t))) wdX12_treats_141
          · refine r_val (v := zI 2) (congrArg zI c24) ?_
            refine lv_tableIn (tgt := 142) hx hb wdX12_treats_82 (by decide) (by decide) (off := 60) rfl (by decide) ?_
            refine lv_iload hx hb wdX12_treats_142 (lv_at hl 0 rfl) ?_
            refine z_if_ne (tgt := 154) hx hb (by omega) wdX12_treats_144 (by decide) (fun c26 => ?_) (fun c26 => False.elim (by omega))
            refine lv_iconst (v := zI 0) hx hb wdX12_treats_154 rfl ?_
            obtain rfl : v = 2 := by omega
            exact e_z F w hr hlocks (nar_z (by omega)) (RT.id hR ((((trT_y ⟨by have h8 := hb1; omega, hb4⟩).trans (trV_2 (x := lfP P) (y := sdP P) (n9 := Int.toNat (P 3)) (q := q) (ed := ed))).trans (show shF q ed t (lfP P) o = shF q ed t (sdP P) o from (by rw [show lfP P = sdP P by omega]))).trans (shF_0 (spF_0 h0t)))) wdX12_treats_155
          · refine r_val (v := zI 3) (congrArg zI c24) ?_
            refine lv_tableIn (tgt := 156) hx hb wdX12_treats_82 (by decide) (by decide) (off := 74) rfl (by decide) ?_
            refine lv_iload hx hb wdX12_treats_156 (lv_at hl 0 rfl) ?_
            refine z_if_ne (tgt := 198) hx hb (by omega) wdX12_treats_158 (by decide) (fun c27 => ?_) (fun c27 => False.elim (by omega))
            refine lv_iconst (v := zI 0) hx hb wdX12_treats_198 rfl ?_
            obtain rfl : v = 3 := by omega
            exact e_z F w hr hlocks (nar_z (by omega)) (RT.id hR (((trT_y ⟨by have h8 := hb1; omega, hb4⟩).trans (trV_3 (x := lfP P) (y := sdP P) (n9 := Int.toNat (P 3)) (q := q) (ed := ed))).trans (ctF_0 h0t))) wdX12_treats_199
          · refine r_val (v := zI 4) (congrArg zI c24) ?_
            refine lv_tableIn (tgt := 200) hx hb wdX12_treats_82 (by decide) (by decide) (off := 118) rfl (by decide) ?_
            refine lv_iload hx hb wdX12_treats_200 (lv_at hl 0 rfl) ?_
            refine z_if_eq (tgt := 212) hx hb (by omega) wdX12_treats_202 (by decide) (fun c28 => False.elim (by omega)) (fun c28 => ?_)
            refine lv_aload_n hx hb wdX12_treats_205 rfl (lv_at hl 3 rfl) ?_
            refine lv_iload_n hx hb wdX12_treats_206 rfl (lv_at hl 5 rfl) ?_
            refine lv_iload hx hb wdX12_treats_207 (lv_at hl 1 rfl) ?_
            refine k_Vv F w (As := [.int (zI (t : Int)), .int (zI (((sdP P) : Nat) : Int))]) (rest := []) (a := 146) (kd_lt (a := 146) (show kd 146 = (12, 0, 0) from rfl) (by decide)) (sh_12 rfl _ _) rfl (r_docks hR (t := t) (x := sdP P) ht (by omega) h0t) wgv_X12_127 whv_X12_docks ⟨(Nat.le_of_ble_eq_true rfl), (Nat.le_of_ble_eq_true rfl)⟩ hl.1 rfl (Nat.le_of_ble_eq_true rfl) ⟨Nat.zero_le _, Nat.zero_le _⟩ wdX12_treats_209 (fun Ma29 H locs hp w => ?_)
            have hq28 := hp
            refine lv_iconst (v := zI 0) hx hb wdX12_treats_212 rfl ?_
            obtain rfl : v = 4 := by omega
            exact e_z F w hr hlocks (nar_z (by omega)) (RT.of hq28 (((trT_y ⟨by have h8 := hb1; omega, hb4⟩).trans (trV_4 (x := lfP P) (y := sdP P) (n9 := Int.toNat (P 3)) (q := q) (ed := ed))).trans (show dkG q t (lfP P) o = dkG q t (sdP P) o from (by rw [show lfP P = sdP P by omega]))) (by decide) (by decide)) wdX12_treats_213
          · refine r_val (v := zI 5) (congrArg zI c24) ?_
            refine lv_tableIn (tgt := 214) hx hb wdX12_treats_82 (by decide) (by decide) (off := 132) rfl (by decide) ?_
            refine lv_iload hx hb wdX12_treats_214 (lv_at hl 0 rfl) ?_
            refine z_if_ne (tgt := 221) hx hb (by omega) wdX12_treats_216 (by decide) (fun c30 => ?_) (fun c30 => False.elim (by omega))
            refine lv_aload_n hx hb wdX12_treats_221 rfl (lv_at hl 3 rfl) ?_
            refine f_12_2 F w (a := 146) rfl wtb_102 wdX12_treats_222 ?_
            refine lv_iload_n hx hb wdX12_treats_225 rfl (lv_at hl 5 rfl) ?_
            refine k_Sv F w (As := [.ref (B + 148), .int (zI (t : Int))]) (rest := []) (s_X12_remove (a := 148) rfl hW hwf (t := t) ht) wgs_X12_108 whs_X12_remove ⟨(Nat.le_of_ble_eq_true rfl), (Nat.le_of_ble_eq_true rfl)⟩ hl.1 rfl (Nat.le_of_ble_eq_true rfl) ⟨Nat.zero_le _, Nat.zero_le _⟩ wdX12_treats_226 (fun Ma31 H locs hp w => ?_)
            rcases hp with ⟨hW2, hF2⟩
            refine lv_aload_n hx hb wdX12_treats_229 rfl (lv_at hl 3 rfl) ?_
            refine lv_dup hx hb wdX12_treats_230 rfl ?_
            refine f_12_3 F w (a := 146) rfl wtb_125 wdX12_treats_231 ?_
            refine r_val (v := (zI z9)) (((congrFun (hF2.1 146 (by decide)) 3).trans hc)) ?_
            refine lv_iconst (v := zI 1) hx hb wdX12_treats_234 rfl ?_
            refine z_iadd (z := (z9 + 1)) hx hb wdX12_treats_235 (by omega) ?_
            refine u_12_3 F w (a := 146) rfl wtb_125 wdX12_treats_236 (fun H locs w => ?_)
            refine lv_iconst (v := zI 1) hx hb wdX12_treats_239 rfl ?_
            obtain rfl : v = 5 := by omega
            exact e_z F w hr hlocks (nar_z (by omega)) (⟨_, _, ((trT_y ⟨by have h8 := hb1; omega, hb4⟩).trans (trV_5 (x := lfP P) (y := sdP P) (n9 := Int.toNat (P 3)) (q := q) (ed := ed))).trans (drF_1 h0t), ⟨isR.c3 hW2, okW_rem hR.2.1 ht, hhv, hed, st_at.trans (congrArg zI (by omega))⟩, FrC.tr (FrC.of1 hF2) FrC.c3, by decide, Or.inl ⟨rfl, rfl, by decide⟩⟩) wdX12_treats_240
          · refine r_val (v := zI 6) (congrArg zI c24) ?_
            refine lv_tableIn (tgt := 241) hx hb wdX12_treats_82 (by decide) (by decide) (off := 159) rfl (by decide) ?_
            refine lv_aload_n hx hb wdX12_treats_241 rfl (lv_at hl 3 rfl) ?_
            refine lv_iload_n hx hb wdX12_treats_242 rfl (lv_at hl 5 rfl) ?_
            refine k_Vv F w (As := [.int (zI (t : Int))]) (rest := []) (a := 146) (kd_lt (a := 146) (show kd 146 = (12, 0, 0) from rfl) (by decide)) (sh_12 rfl _ _) rfl (s_X12_fuses hR (t := t) ht) wgv_X12_130 whv_X12_fuses ⟨(Nat.le_of_ble_eq_true rfl), (Nat.le_of_ble_eq_true rfl)⟩ hl.1 rfl (Nat.le_of_ble_eq_true rfl) ⟨Nat.zero_le _, Nat.zero_le _⟩ wdX12_treats_243 (fun Ma32 H locs hp w => ?_)
            have hq31 := hp
            refine lv_iconst (v := zI 0) hx hb wdX12_treats_246 rfl ?_
            obtain rfl : v = 6 := by omega
            exact e_z F w hr hlocks (nar_z (by omega)) (RT.of hq31 ((trT_y ⟨by have h8 := hb1; omega, hb4⟩).trans (trV_6 (x := lfP P) (y := sdP P) (n9 := Int.toNat (P 3)) (q := q) (ed := ed))) (by decide) (by decide)) wdX12_treats_247
          · refine lv_tableOut (tgt := 248) hx hb wdX12_treats_82 (by rw [zI_toInt (by omega)]; omega) (by decide) ?_
            refine lv_aload_n hx hb wdX12_treats_248 rfl (lv_at hl 3 rfl) ?_
            refine lv_iload_n hx hb wdX12_treats_249 rfl (lv_at hl 5 rfl) ?_
            refine lv_aload_n hx hb wdX12_treats_250 rfl (lv_at hl 3 rfl) ?_
            refine f_12_4 F w (a := 146) rfl wtb_114 wdX12_treats_251 ?_
            refine lv_iload_n hx hb wdX12_treats_254 rfl (lv_at hl 2 rfl) ?_
            refine lv_iconst (v := zI 3) hx hb wdX12_treats_255 rfl ?_
            refine z_iadd (z := ((((8 * r) + 3) : Nat) : Int)) hx hb wdX12_treats_256 (by omega) ?_
            refine g_iald F w (a := 149) rfl (j := ((8 * r) + 3)) (ix_n (by omega)) (by omega) wdX12_treats_257 ?_
            refine r_val (v := (zI (P 3))) (hV 3 (by decide)) ?_
            refine r_val (v := (zI (((Int.toNat (P 3)) : Nat) : Int))) (congrArg zI (by omega)) ?_
            refine k_Vv F w (As := [.int (zI (t : Int)), .int (zI (((Int.toNat (P 3)) : Nat) : Int))]) (rest := []) (a := 146) (kd_lt (a := 146) (show kd 146 = (12, 0, 0) from rfl) (by decide)) (sh_12 rfl _ _) rfl (r_turns hR (t := t) (x := Int.toNat (P 3)) ht (by omega)) wgv_X12_134 whv_X12_turns ⟨(Nat.le_of_ble_eq_true rfl), (Nat.le_of_ble_eq_true rfl)⟩ hl.1 rfl (Nat.le_of_ble_eq_true rfl) ⟨Nat.zero_le _, Nat.zero_le _⟩ wdX12_treats_258 (fun Ma33 H locs hp w => ?_)
            have hq32 := hp
            refine lv_iconst (v := zI 0) hx hb wdX12_treats_261 rfl ?_
            obtain rfl : v = 7 := by omega
            exact e_z F w hr hlocks (nar_z (by omega)) (RT.of hq32 ((trT_y ⟨by have h8 := hb1; omega, hb4⟩).trans (trV_7 (x := lfP P) (y := sdP P) (n9 := Int.toNat (P 3)) (q := q) (ed := ed))) (by decide) (by decide)) wdX12_treats_262
      · refine lv_iconst (v := zI 1) hx hb wdX12_treats_50 rfl ?_
        refine lv_goto (tgt := 55) hx hb wdX12_treats_51 (by decide) ?_
        refine r_val (v := zI ((sdP P : Nat) : Int)) (congrArg zI (by omega)) ?_
        refine lv_istore (lv' := [(4, .int (zI (((sdP P) : Nat) : Int))), (3, .int (zI (((8 * r) : Nat) : Int))), (0, .ref (B + 146)), (1, .int (zI (r : Int))), (2, .int (zI (t : Int)))]) hx hb wdX12_treats_55 hl (by decide) rfl (fun ls hl => ?_)
        refine lv_aload_n hx hb wdX12_treats_57 rfl (lv_at hl 2 rfl) ?_
        refine f_12_2 F w (a := 146) rfl wtb_102 wdX12_treats_58 ?_
        refine lv_bipush (v := zI 13) hx hb wdX12_treats_61 (by decide) ?_
        refine lv_iload_n hx hb wdX12_treats_63 rfl (lv_at hl 4 rfl) ?_
        refine z_iadd (z := (((13 + t) : Nat) : Int)) hx hb wdX12_treats_64 (by omega) ?_
        refine g_iald F w (a := 148) rfl (j := (13 + t)) (ix_n (by omega)) (by omega) wdX12_treats_65 ?_
        have hL33 := (hKL t (by omega)).2
        refine r_val (v := (zI (((o.2.2 t) : Nat) : Int))) (hW.2.2.2.2.2 t (by omega)) ?_
        refine z_if_ne (tgt := 73) hx hb (by omega) wdX12_treats_66 (by decide) (fun c34 => ?_) (fun c34 => ?_)
        · refine lv_iconst (v := zI 0) hx hb wdX12_treats_73 rfl ?_
          have h0t : o.2.2 t ≠ 0 := by omega
          refine lv_istore (lv' := [(5, .int (zI 0)), (4, .int (zI (((sdP P) : Nat) : Int))), (3, .int (zI (((8 * r) : Nat) : Int))), (0, .ref (B + 146)), (1, .int (zI (r : Int))), (2, .int (zI (t : Int)))]) hx hb wdX12_treats_74 hl (by decide) rfl (fun ls hl => ?_)
          refine lv_aload_n hx hb wdX12_treats_76 rfl (lv_at hl 3 rfl) ?_
          refine f_12_4 F w (a := 146) rfl wtb_114 wdX12_treats_77 ?_
          refine lv_iload_n hx hb wdX12_treats_80 rfl (lv_at hl 2 rfl) ?_
          refine g_iald F w (a := 149) rfl (j := (8 * r)) (ix_n (by omega)) (by omega) wdX12_treats_81 ?_
          refine r_val (v := (zI (P 0))) (hV 0 (by decide)) ?_
          rcases (show ((P 0) : Int) = 1 ∨ ((P 0) : Int) = 2 ∨ ((P 0) : Int) = 3 ∨ ((P 0) : Int) = 4 ∨ ((P 0) : Int) = 5 ∨ ((P 0) : Int) = 6 ∨ ((P 0) ≠ 1 ∧ (P 0) ≠ 2 ∧ (P 0) ≠ 3 ∧ (P 0) ≠ 4 ∧ (P 0) ≠ 5 ∧ (P 0) ≠ 6) by omega) with c35 | c35 | c35 | c35 | c35 | c35 | c35
          · refine r_val (v := zI 1) (congrArg zI c35) ?_
            refine lv_tableIn (tgt := 120) hx hb wdX12_treats_82 (by decide) (by decide) (off := 38) rfl (by decide) ?_
            refine lv_iload hx hb wdX12_treats_120 (lv_at hl 0 rfl) ?_
            refine z_if_ne (tgt := 140) hx hb (by omega) wdX12_treats_122 (by decide) (fun c36 => False.elim (by omega)) (fun c36 => ?_)
            refine lv_aload_n hx hb wdX12_treats_125 rfl (lv_at hl 3 rfl) ?_
            refine lv_iload_n hx hb wdX12_treats_126 rfl (lv_at hl 5 rfl) ?_
            refine lv_iload hx hb wdX12_treats_127 (lv_at hl 1 rfl) ?_
            refine lv_aload_n hx hb wdX12_treats_129 rfl (lv_at hl 3 rfl) ?_
            refine f_12_4 F w (a := 146) rfl wtb_114 wdX12_treats_130 ?_
            refine lv_iload_n hx hb wdX12_treats_133 rfl (lv_at hl 2 rfl) ?_
            refine lv_iconst (v := zI 3) hx hb wdX12_treats_134 rfl ?_
            refine z_iadd (z := ((((8 * r) + 3) : Nat) : Int)) hx hb wdX12_treats_135 (by omega) ?_
            refine g_iald F w (a := 149) rfl (j := ((8 * r) + 3)) (ix_n (by omega)) (by omega) wdX12_treats_136 ?_
            refine r_val (v := (zI (P 3))) (hV 3 (by decide)) ?_
            refine r_val (v := (zI (((Int.toNat (P 3)) : Nat) : Int))) (congrArg zI (by omega)) ?_
            refine k_Vv F w (As := [.int (zI (t : Int)), .int (zI (((sdP P) : Nat) : Int)), .int (zI (((Int.toNat (P 3)) : Nat) : Int))]) (rest := []) (a := 146) (kd_lt (a := 146) (show kd 146 = (12, 0, 0) from rfl) (by decide)) (sh_12 rfl _ _) rfl (r_spreads hR (t := t) (x := sdP P) (n9 := Int.toNat (P 3)) ht (by omega) (by omega) h0t) wgv_X12_119 whv_X12_spreads ⟨(Nat.le_of_ble_eq_true rfl), (Nat.le_of_ble_eq_true rfl)⟩ hl.1 rfl (Nat.le_of_ble_eq_true rfl) ⟨Nat.zero_le _, Nat.zero_le _⟩ wdX12_treats_137 (fun Ma37 H locs hp w => ?_)
            have hq36 := hp
            refine lv_iconst (v := zI 0) hx hb wdX12_treats_140 rfl ?_
            obtain rfl : v = 1 := by omega
            exact e_z F w hr hlocks (nar_z (by omega)) (RT.of hq36 (((trT_y ⟨by have h8 := hb1; omega, hb4⟩).trans (trV_1 (x := lfP P) (y := sdP P) (n9 := Int.toNat (P 3)) (q := q) (ed := ed))).trans (show spF q ed t (lfP P) (Int.toNat (P 3)) o = spF q ed t (sdP P) (Int.toNat (P 3)) o from (by rw [show lfP P = sdP P by omega]))) (by decide) (by decide)) wdX12_treats_141
          · refine r_val (v := zI 2) (congrArg zI c35) ?_
            refine lv_tableIn (tgt := 142) hx hb wdX12_treats_82 (by decide) (by decide) (off := 60) rfl (by decide) ?_
            refine lv_iload hx hb wdX12_treats_142 (lv_at hl 0 rfl) ?_
            refine z_if_ne (tgt := 154) hx hb (by omega) wdX12_treats_144 (by decide) (fun c38 => False.elim (by omega)) (fun c38 => ?_)
            refine lv_aload_n hx hb wdX12_treats_147 rfl (lv_at hl 3 rfl) ?_
            refine lv_iload_n hx hb wdX12_treats_148 rfl (lv_at hl 5 rfl) ?_
            refine lv_iload hx hb wdX12_treats_149 (lv_at hl 1 rfl) ?_
            refine k_Vv F w (As := [.int (zI (t : Int)), .int (zI (((sdP P) : Nat) : Int))]) (rest := []) (a := 146) (kd_lt (a := 146) (show kd 146 = (12, 0, 0) from rfl) (by decide)) (sh_12 rfl _ _) rfl (r_shifts hR (t := t) (x := sdP P) ht (by omega) h0t) wgv_X12_123 whv_X12_shifts ⟨(Nat.le_of_ble_eq_true rfl), (Nat.le_of_ble_eq_true rfl)⟩ hl.1 rfl (Nat.le_of_ble_eq_true rfl) ⟨Nat.zero_le _, Nat.zero_le _⟩ wdX12_treats_151 (fun Ma39 H locs hp w => ?_)
            have hq38 := hp
            refine lv_iconst (v := zI 0) hx hb wdX12_treats_154 rfl ?_
            obtain rfl : v = 2 := by omega
            exact e_z F w hr hlocks (nar_z (by omega)) (RT.of hq38 (((trT_y ⟨by have h8 := hb1; omega, hb4⟩).trans (trV_2 (x := lfP P) (y := sdP P) (n9 := Int.toNat (P 3)) (q := q) (ed := ed))).trans (show shF q ed t (lfP P) o = shF q ed t (sdP P) o from (by rw [show lfP P = sdP P by omega]))) (by decide) (by decide)) wdX12_treats_155
          · refine r_val (v := zI 3) (congrArg zI c35) ?_
            refine lv_tableIn (tgt := 156) hx hb wdX12_treats_82 (by decide) (by decide) (off := 74) rfl (by decide) ?_
            refine lv_iload hx hb wdX12_treats_156 (lv_at hl 0 rfl) ?_
            refine z_if_ne (tgt := 198) hx hb (by omega) wdX12_treats_158 (by decide) (fun c40 => False.elim (by omega)) (fun c40 => ?_)
            refine lv_aload_n hx hb wdX12_treats_161 rfl (lv_at hl 3 rfl) ?_
            refine lv_iload_n hx hb wdX12_treats_162 rfl (lv_at hl 5 rfl) ?_
            refine lv_iload hx hb wdX12_treats_163 (lv_at hl 1 rfl) ?_
            refine z_if_eq (tgt := 183) hx hb (by omega) wdX12_treats_165 (by decide) (fun c41 => ?_) (fun c41 => ?_)
            · refine lv_aload_n hx hb wdX12_treats_183 rfl (lv_at hl 3 rfl) ?_
              refine f_12_2 F w (a := 146) rfl wtb_102 wdX12_treats_184 ?_
              refine lv_bipush (v := zI 13) hx hb wdX12_treats_187 (by decide) ?_
              refine lv_iload_n hx hb wdX12_treats_189 rfl (lv_at hl 5 rfl) ?_
              refine z_iadd (z := (((13 + t) : Nat) : Int)) hx hb wdX12_treats_190 (by omega) ?_
              refine g_iald F w (a := 148) rfl (j := (13 + t)) (ix_n (by omega)) (by omega) wdX12_treats_191 ?_
              have hL41 := (hKL t (by omega)).2
              refine r_val (v := (zI (((o.2.2 t) : Nat) : Int))) (hW.2.2.2.2.2 t (by omega)) ?_
              refine x_Si F w (As := [.int (zI (((o.2.2 t) : Nat) : Int))]) (rest := [.int (zI (t : Int)), .ref (B + 146)]) (s_X12_firstOf (m9 := (o.2.2 t)) (by omega)) wgs_X12_63 whs_X12_firstOf ⟨(Nat.le_of_ble_eq_true rfl), (Nat.le_of_ble_eq_true rfl)⟩ hl.1 rfl (Nat.le_of_ble_eq_true rfl) ⟨Nat.zero_le _, Nat.zero_le _⟩ wdX12_treats_192 (fun H locs w => ?_)
              have hw41 := lowI_rg (o.2.2 t) (by omega)
              refine r_val (v := zI ((fex (sdP P) (o.2.2 t) : Nat) : Int)) (congrArg zI (fex_l (by omega) h0t)) ?_
              have hfx := fex_t (x := sdP P) (hR.2.1.lt ht) h0t
              refine k_Vv F w (As := [.int (zI (t : Int)), .int (zI (((fex (sdP P) (o.2.2 t)) : Nat) : Int))]) (rest := []) (a := 146) (kd_lt (a := 146) (show kd 146 = (12, 0, 0) from rfl) (by decide)) (sh_12 rfl _ _) rfl (s_X12_goes hW hwf hc (t := t) (j := (fex (sdP P) (o.2.2 t))) ht (by omega)) wgv_X12_102 whv_X12_goes ⟨(Nat.le_of_ble_eq_true rfl), (Nat.le_of_ble_eq_true rfl)⟩ hl.1 rfl (Nat.le_of_ble_eq_true rfl) ⟨Nat.zero_le _, Nat.zero_le _⟩ wdX12_treats_195 (fun Ma43 H locs hp w => ?_)
              rcases hp with ⟨hW2, hc2, hF2⟩
              refine lv_iconst (v := zI 0) hx hb wdX12_treats_198 rfl ?_
              obtain rfl : v = 3 := by omega
              exact e_z F w hr hlocks (nar_z (by omega)) (⟨_, _, ((trT_y ⟨by have h8 := hb1; omega, hb4⟩).trans (trV_3 (x := lfP P) (y := sdP P) (n9 := Int.toNat (P 3)) (q := q) (ed := ed))).trans (ctF_1 h0t), ⟨hW2, okW_line hR.2.1 (andn_lt (hR.2.1.2.2 t ht).2), hhv, hed, hc2⟩, hF2, by decide, Or.inr ⟨rfl, fun h9 => absurd h9.1 (by decide)⟩⟩) wdX12_treats_199
            · refine lv_aload_n hx hb wdX12_treats_168 rfl (lv_at hl 3 rfl) ?_
              refine f_12_2 F w (a := 146) rfl wtb_102 wdX12_treats_169 ?_
              refine lv_bipush (v := zI 13) hx hb wdX12_treats_172 (by decide) ?_
              refine lv_iload_n hx hb wdX12_treats_174 rfl (lv_at hl 5 rfl) ?_
              refine z_iadd (z := (((13 + t) : Nat) : Int)) hx hb wdX12_treats_175 (by omega) ?_
              refine g_iald F w (a := 148) rfl (j := (13 + t)) (ix_n (by omega)) (by omega) wdX12_treats_176 ?_
              have hL43 := (hKL t (by omega)).2
              refine r_val (v := (zI (((o.2.2 t) : Nat) : Int))) (hW.2.2.2.2.2 t (by omega)) ?_
              refine x_Si F w (As := [.int (zI (((o.2.2 t) : Nat) : Int))]) (rest := [.int (zI (t : Int)), .ref (B + 146)]) (s_X12_lastOf (m9 := (o.2.2 t)) (by omega)) wgs_X12_59 whs_X12_lastOf ⟨(Nat.le_of_ble_eq_true rfl), (Nat.le_of_ble_eq_true rfl)⟩ hl.1 rfl (Nat.le_of_ble_eq_true rfl) ⟨Nat.zero_le _, Nat.zero_le _⟩ wdX12_treats_177 (fun H locs w => ?_)
              have hw43 := higI_rg (o.2.2 t) (by omega)
              refine r_val (v := zI ((fex (sdP P) (o.2.2 t) : Nat) : Int)) (congrArg zI (fex_h (by omega) (by omega) h0t)) ?_
              have hfx := fex_t (x := sdP P) (hR.2.1.lt ht) h0t
              refine lv_goto (tgt := 195) hx hb wdX12_treats_180 (by decide) ?_
              refine k_Vv F w (As := [.int (zI (t : Int)), .int (zI (((fex (sdP P) (o.2.2 t)) : Nat) : Int))]) (rest := []) (a := 146) (kd_lt (a := 146) (show kd 146 = (12, 0, 0) from rfl) (by decide)) (sh_12 rfl _ _) rfl (s_X12_goes hW hwf hc (t := t) (j := (fex (sdP P) (o.2.2 t))) ht (by omega)) wgv_X12_102 whv_X12_goes ⟨(Nat.le_of_ble_eq_true rfl), (Nat.le_of_ble_eq_true rfl)⟩ hl.1 rfl (Nat.le_of_ble_eq_true rfl) ⟨Nat.zero_le _, Nat.zero_le _⟩ wdX12_treats_195 (fun Ma45 H locs hp w => ?_)
              rcases hp with ⟨hW2, hc2, hF2⟩
              refine lv_iconst (v := zI 0) hx hb wdX12_treats_198 rfl ?_
              obtain rfl : v = 3 := by omega
              exact e_z F w hr hlocks (nar_z (by omega)) (⟨_, _, ((trT_y ⟨by have h8 := hb1; omega, hb4⟩).trans (trV_3 (x := lfP P) (y := sdP P) (n9 := Int.toNat (P 3)) (q := q) (ed := ed))).trans (ctF_1 h0t), ⟨hW2, okW_line hR.2.1 (andn_lt (hR.2.1.2.2 t ht).2), hhv, hed, hc2⟩, hF2, by decide, Or.inr ⟨rfl, fun h9 => absurd h9.1 (by decide)⟩⟩) wdX12_treats_199
          · refine r_val (v := zI 4) (congrArg zI c35) ?_
            refine lv_tableIn (tgt := 200) hx hb wdX12_treats_82 (by decide) (by decide) (off := 118) rfl (by decide) ?_
            refine lv_iload hx hb wdX12_treats_200 (lv_at hl 0 rfl) ?_
            refine z_if_eq (tgt := 212) hx hb (by omega) wdX12_treats_202 (by decide) (fun c46 => ?_) (fun c46 => False.elim (by omega))
            refine lv_iconst (v := zI 0) hx hb wdX12_treats_212 rfl ?_
            obtain rfl : v = 4 := by omega
            exact e_z F w hr hlocks (nar_z (by omega)) (RT.id hR ((((trT_y ⟨by have h8 := hb1; omega, hb4⟩).trans (trV_4 (x := lfP P) (y := sdP P) (n9 := Int.toNat (P 3)) (q := q) (ed := ed))).trans (show dkG q t (lfP P) o = dkG q t (sdP P) o from (by rw [show lfP P = sdP P by omega]))).trans (dkG_1 h0t))) wdX12_treats_213
          · refine r_val (v := zI 5) (congrArg zI c35) ?_
            refine lv_tableIn (tgt := 214) hx hb wdX12_treats_82 (by decide) (by decide) (off := 132) rfl (by decide) ?_
            refine lv_iload hx hb wdX12_treats_214 (lv_at hl 0 rfl) ?_
            refine z_if_ne (tgt := 221) hx hb (by omega) wdX12_treats_216 (by decide) (fun c47 => False.elim (by omega)) (fun c47 => ?_)
            refine lv_iconst (v := zI 0) hx hb wdX12_treats_219 rfl ?_
            obtain rfl : v = 5 := by omega
            exact e_z F w hr hlocks (nar_z (by omega)) (RT.id hR (((trT_y ⟨by have h8 := hb1; omega, hb4⟩).trans (trV_5 (x := lfP P) (y := sdP P) (n9 := Int.toNat (P 3)) (q := q) (ed := ed))).trans (drF_0 h0t))) wdX12_treats_220
          · refine r_val (v := zI 6) (congrArg zI c35) ?_
            refine lv_tableIn (tgt := 241) hx hb wdX12_treats_82 (by decide) (by decide) (off := 159) rfl (by decide) ?_
            refine lv_aload_n hx hb wdX12_treats_241 rfl (lv_at hl 3 rfl) ?_
            refine lv_iload_n hx hb wdX12_treats_242 rfl (lv_at hl 5 rfl) ?_
            refine k_Vv F w (As := [.int (zI (t : Int))]) (rest := []) (a := 146) (kd_lt (a := 146) (show kd 146 = (12, 0, 0) from rfl) (by decide)) (sh_12 rfl _ _) rfl (s_X12_fuses hR (t := t) ht) wgv_X12_130 whv_X12_fuses ⟨(Nat.le_of_ble_eq_true rfl), (Nat.le_of_ble_eq_true rfl)⟩ hl.1 rfl (Nat.le_of_ble_eq_true rfl) ⟨Nat.zero_le _, Nat.zero_le _⟩ wdX12_treats_243 (fun Ma48 H locs hp w => ?_)
            have hq47 := hp
            refine lv_iconst (v := zI 0) hx hb wdX12_treats_246 rfl ?_
            obtain rfl : v = 6 := by omega
            exact e_z F w hr hlocks (nar_z (by omega)) (RT.of hq47 ((trT_y ⟨by have h8 := hb1; omega, hb4⟩).trans (trV_6 (x := lfP P) (y := sdP P) (n9 := Int.toNat (P 3)) (q := q) (ed := ed))) (by decide) (by decide)) wdX12_treats_247
          · refine lv_tableOut (tgt := 248) hx hb wdX12_treats_82 (by rw [zI_toInt (by omega)]; omega) (by decide) ?_
            refine lv_aload_n hx hb wdX12_treats_248 rfl (lv_at hl 3 rfl) ?_
            refine lv_iload_n hx hb wdX12_treats_249 rfl (lv_at hl 5 rfl) ?_
            refine lv_aload_n hx hb wdX12_treats_250 rfl (lv_at hl 3 rfl) ?_
            refine f_12_4 F w (a := 146) rfl wtb_114 wdX12_treats_251 ?_
            refine lv_iload_n hx hb wdX12_treats_254 rfl (lv_at hl 2 rfl) ?_
            refine lv_iconst (v := zI 3) hx hb wdX12_treats_255 rfl ?_
            refine z_iadd (z := ((((8 * r) + 3) : Nat) : Int)) hx hb wdX12_treats_256 (by omega) ?_
            refine g_iald F w (a := 149) rfl (j := ((8 * r) + 3)) (ix_n (by omega)) (by omega) wdX12_treats_257 ?_
            refine r_val (v := (zI (P 3))) (hV 3 (by decide)) ?_
            refine r_val (v := (zI (((Int.toNat (P 3)) : Nat) : Int))) (congrArg zI (by omega)) ?_
            refine k_Vv F w (As := [.int (zI (t : Int)), .int (zI (((Int.toNat (P 3)) : Nat) : Int))]) (rest := []) (a := 146) (kd_lt (a := 146) (show kd 146 = (12, 0, 0) from rfl) (by decide)) (sh_12 rfl _ _) rfl (r_turns hR (t := t) (x := Int.toNat (P 3)) ht (by omega)) wgv_X12_134 whv_X12_turns ⟨(Nat.le_of_ble_eq_true rfl), (Nat.le_of_ble_eq_true rfl)⟩ hl.1 rfl (Nat.le_of_ble_eq_true rfl) ⟨Nat.zero_le _, Nat.zero_le _⟩ wdX12_treats_258 (fun Ma49 H locs hp w => ?_)
            have hq48 := hp
            refine lv_iconst (v := zI 0) hx hb wdX12_treats_261 rfl ?_
            obtain rfl : v = 7 := by omega
            exact e_z F w hr hlocks (nar_z (by omega)) (RT.of hq48 ((trT_y ⟨by have h8 := hb1; omega, hb4⟩).trans (trV_7 (x := lfP P) (y := sdP P) (n9 := Int.toNat (P 3)) (q := q) (ed := ed))) (by decide) (by decide)) wdX12_treats_262
        · refine lv_iconst (v := zI 1) hx hb wdX12_treats_69 rfl ?_
          refine lv_goto (tgt := 74) hx hb wdX12_treats_70 (by decide) ?_
          have h0t : o.2.2 t = 0 := by omega
          refine lv_istore (lv' := [(5, .int (zI 1)), (4, .int (zI (((sdP P) : Nat) : Int))), (3, .int (zI (((8 * r) : Nat) : Int))), (0, .ref (B + 146)), (1, .int (zI (r : Int))), (2, .int (zI (t : Int)))]) hx hb wdX12_treats_74 hl (by decide) rfl (fun ls hl => ?_)
          refine lv_aload_n hx hb wdX12_treats_76 rfl (lv_at hl 3 rfl) ?_
          refine f_12_4 F w (a := 146) rfl wtb_114 wdX12_treats_77 ?_
          refine lv_iload_n hx hb wdX12_treats_80 rfl (lv_at hl 2 rfl) ?_
          refine g_iald F w (a := 149) rfl (j := (8 * r)) (ix_n (by omega)) (by omega) wdX12_treats_81 ?_
          refine r_val (v := (zI (P 0))) (hV 0 (by decide)) ?_
          rcases (show ((P 0) : Int) = 1 ∨ ((P 0) : Int) = 2 ∨ ((P 0) : Int) = 3 ∨ ((P 0) : Int) = 4 ∨ ((P 0) : Int) = 5 ∨ ((P 0) : Int) = 6 ∨ ((P 0) ≠ 1 ∧ (P 0) ≠ 2 ∧ (P 0) ≠ 3 ∧ (P 0) ≠ 4 ∧ (P 0) ≠ 5 ∧ (P 0) ≠ 6) by omega) with c50 | c50 | c50 | c50 | c50 | c50 | c50
          · refine r_val (v := zI 1) (congrArg zI c50) ?_
            refine lv_tableIn (tgt := 120) hx hb wdX12_treats_82 (by decide) (by decide) (off := 38) rfl (by decide) ?_
            refine lv_iload hx hb wdX12_treats_120 (lv_at hl 0 rfl) ?_
            refine z_if_ne (tgt := 140) hx hb (by omega) wdX12_treats_122 (by decide) (fun c51 => ?_) (fun c51 => False.elim (by omega))
            refine lv_iconst (v := zI 0) hx hb wdX12_treats_140 rfl ?_
            obtain rfl : v = 1 := by omega
            exact e_z F w hr hlocks (nar_z (by omega)) (RT.id hR ((((trT_y ⟨by have h8 := hb1; omega, hb4⟩).trans (trV_1 (x := lfP P) (y := sdP P) (n9 := Int.toNat (P 3)) (q := q) (ed := ed))).trans (show spF q ed t (lfP P) (Int.toNat (P 3)) o = spF q ed t (sdP P) (Int.toNat (P 3)) o from (by rw [show lfP P = sdP P by omega]))).trans (spF_0 h0t))) wdX12_treats_141
          · refine r_val (v := zI 2) (congrArg zI c50) ?_
            refine lv_tableIn (tgt := 142) hx hb wdX12_treats_82 (by decide) (by decide) (off := 60) rfl (by decide) ?_
            refine lv_iload hx hb wdX12_treats_142 (lv_at hl 0 rfl) ?_
            refine z_if_ne (tgt := 154) hx hb (by omega) wdX12_treats_144 (by decide) (fun c52 => ?_) (fun c52 => False.elim (by omega))
            refine lv_iconst (v := zI 0) hx hb wdX12_treats_154 rfl ?_
            obtain rfl : v = 2 := by omega
            exact e_z F w hr hlocks (nar_z (by omega)) (RT.id hR ((((trT_y ⟨by have h8 := hb1; omega, hb4⟩).trans (trV_2 (x := lfP P) (y := sdP P) (n9 := Int.toNat (P 3)) (q := q) (ed := ed))).trans (show shF q ed t (lfP P) o = shF q ed t (sdP P) o from (by rw [show lfP P = sdP P by omega]))).trans (shF_0 (spF_0 h0t)))) wdX12_treats_155
          · refine r_val (v := zI 3) (congrArg zI c50) ?_
            refine lv_tableIn (tgt := 156) hx hb wdX12_treats_82 (by decide) (by decide) (off := 74) rfl (by decide) ?_
            refine lv_iload hx hb wdX12_treats_156 (lv_at hl 0 rfl) ?_
            refine z_if_ne (tgt := 198) hx hb (by omega) wdX12_treats_158 (by decide) (fun c53 => ?_) (fun c53 => False.elim (by omega))
            refine lv_iconst (v := zI 0) hx hb wdX12_treats_198 rfl ?_
            obtain rfl : v = 3 := by omega
            exact e_z F w hr hlocks (nar_z (by omega)) (RT.id hR (((trT_y ⟨by have h8 := hb1; omega, hb4⟩).trans (trV_3 (x := lfP P) (y := sdP P) (n9 := Int.toNat (P 3)) (q := q) (ed := ed))).trans (ctF_0 h0t))) wdX12_treats_199
          · refine r_val (v := zI 4) (congrArg zI c50) ?_
            refine lv_tableIn (tgt := 200) hx hb wdX12_treats_82 (by decide) (by decide) (off := 118) rfl (by decide) ?_
            refine lv_iload hx hb wdX12_treats_200 (lv_at hl 0 rfl) ?_
            refine z_if_eq (tgt := 212) hx hb (by omega) wdX12_treats_202 (by decide) (fun c54 => False.elim (by omega)) (fun c54 => ?_)
            refine lv_aload_n hx hb wdX12_treats_205 rfl (lv_at hl 3 rfl) ?_
            refine lv_iload_n hx hb wdX12_treats_206 rfl (lv_at hl 5 rfl) ?_
            refine lv_iload hx hb wdX12_treats_207 (lv_at hl 1 rfl) ?_
            refine k_Vv F w (As := [.int (zI (t : Int)), .int (zI (((sdP P) : Nat) : Int))]) (rest := []) (a := 146) (kd_lt (a := 146) (show kd 146 = (12, 0, 0) from rfl) (by decide)) (sh_12 rfl _ _) rfl (r_docks hR (t := t) (x := sdP P) ht (by omega) h0t) wgv_X12_127 whv_X12_docks ⟨(Nat.le_of_ble_eq_true rfl), (Nat.le_of_ble_eq_true rfl)⟩ hl.1 rfl (Nat.le_of_ble_eq_true rfl) ⟨Nat.zero_le _, Nat.zero_le _⟩ wdX12_treats_209 (fun Ma55 H locs hp w => ?_)
            have hq54 := hp
            refine lv_iconst (v := zI 0) hx hb wdX12_treats_212 rfl ?_
            obtain rfl : v = 4 := by omega
            exact e_z F w hr hlocks (nar_z (by omega)) (RT.of hq54 (((trT_y ⟨by have h8 := hb1; omega, hb4⟩).trans (trV_4 (x := lfP P) (y := sdP P) (n9 := Int.toNat (P 3)) (q := q) (ed := ed))).trans (show dkG q t (lfP P) o = dkG q t (sdP P) o from (by rw [show lfP P = sdP P by omega]))) (by decide) (by decide)) wdX12_treats_213
          · refine r_val (v := zI 5) (congrArg zI c50) ?_
            refine lv_tableIn (tgt := 214) hx hb wdX12_treats_82 (by decide) (by decide) (off := 132) rfl (by decide) ?_
            refine lv_iload hx hb wdX12_treats_214 (lv_at hl 0 rfl) ?_
            refine z_if_ne (tgt := 221) hx hb (by omega) wdX12_treats_216 (by decide) (fun c56 => ?_) (fun c56 => False.elim (by omega))
            refine lv_aload_n hx hb wdX12_treats_221 rfl (lv_at hl 3 rfl) ?_
            refine f_12_2 F w (a := 146) rfl wtb_102 wdX12_treats_222 ?_
            refine lv_iload_n hx hb wdX12_treats_225 rfl (lv_at hl 5 rfl) ?_
            refine k_Sv F w (As := [.ref (B + 148), .int (zI (t : Int))]) (rest := []) (s_X12_remove (a := 148) rfl hW hwf (t := t) ht) wgs_X12_108 whs_X12_remove ⟨(Nat.le_of_ble_eq_true rfl), (Nat.le_of_ble_eq_true rfl)⟩ hl.1 rfl (Nat.le_of_ble_eq_true rfl) ⟨Nat.zero_le _, Nat.zero_le _⟩ wdX12_treats_226 (fun Ma57 H locs hp w => ?_)
            rcases hp with ⟨hW2, hF2⟩
            refine lv_aload_n hx hb wdX12_treats_229 rfl (lv_at hl 3 rfl) ?_
            refine lv_dup hx hb wdX12_treats_230 rfl ?_
            refine f_12_3 F w (a := 146) rfl wtb_125 wdX12_treats_231 ?_
            refine r_val (v := (zI z9)) (((congrFun (hF2.1 146 (by decide)) 3).trans hc)) ?_
            refine lv_iconst (v := zI 1) hx hb wdX12_treats_234 rfl ?_
            refine z_iadd (z := (z9 + 1)) hx hb wdX12_treats_235 (by omega) ?_
            refine u_12_3 F w (a := 146) rfl wtb_125 wdX12_treats_236 (fun H locs w => ?_)
            refine lv_iconst (v := zI 1) hx hb wdX12_treats_239 rfl ?_
            obtain rfl : v = 5 := by omega
            exact e_z F w hr hlocks (nar_z (by omega)) (⟨_, _, ((trT_y ⟨by have h8 := hb1; omega, hb4⟩).trans (trV_5 (x := lfP P) (y := sdP P) (n9 := Int.toNat (P 3)) (q := q) (ed := ed))).trans (drF_1 h0t), ⟨isR.c3 hW2, okW_rem hR.2.1 ht, hhv, hed, st_at.trans (congrArg zI (by omega))⟩, FrC.tr (FrC.of1 hF2) FrC.c3, by decide, Or.inl ⟨rfl, rfl, by decide⟩⟩) wdX12_treats_240
          · refine r_val (v := zI 6) (congrArg zI c50) ?_
            refine lv_tableIn (tgt := 241) hx hb wdX12_treats_82 (by decide) (by decide) (off := 159) rfl (by decide) ?_
            refine lv_aload_n hx hb wdX12_treats_241 rfl (lv_at hl 3 rfl) ?_
            refine lv_iload_n hx hb wdX12_treats_242 rfl (lv_at hl 5 rfl) ?_
            refine k_Vv F w (As := [.int (zI (t : Int))]) (rest := []) (a := 146) (kd_lt (a := 146) (show kd 146 = (12, 0, 0) from rfl) (by decide)) (sh_12 rfl _ _) rfl (s_X12_fuses hR (t := t) ht) wgv_X12_130 whv_X12_fuses ⟨(Nat.le_of_ble_eq_true rfl), (Nat.le_of_ble_eq_true rfl)⟩ hl.1 rfl (Nat.le_of_ble_eq_true rfl) ⟨Nat.zero_le _, Nat.zero_le _⟩ wdX12_treats_243 (fun Ma58 H locs hp w => ?_)
            have hq57 := hp
            refine lv_iconst (v := zI 0) hx hb wdX12_treats_246 rfl ?_
            obtain rfl : v = 6 := by omega
            exact e_z F w hr hlocks (nar_z (by omega)) (RT.of hq57 ((trT_y ⟨by have h8 := hb1; omega, hb4⟩).trans (trV_6 (x := lfP P) (y := sdP P) (n9 := Int.toNat (P 3)) (q := q) (ed := ed))) (by decide) (by decide)) wdX12_treats_247
          · refine lv_tableOut (tgt := 248) hx hb wdX12_treats_82 (by rw [zI_toInt (by omega)]; omega) (by decide) ?_
            refine lv_aload_n hx hb wdX12_treats_248 rfl (lv_at hl 3 rfl) ?_
            refine lv_iload_n hx hb wdX12_treats_249 rfl (lv_at hl 5 rfl) ?_
            refine lv_aload_n hx hb wdX12_treats_250 rfl (lv_at hl 3 rfl) ?_
            refine f_12_4 F w (a := 146) rfl wtb_114 wdX12_treats_251 ?_
            refine lv_iload_n hx hb wdX12_treats_254 rfl (lv_at hl 2 rfl) ?_
            refine lv_iconst (v := zI 3) hx hb wdX12_treats_255 rfl ?_
            refine z_iadd (z := ((((8 * r) + 3) : Nat) : Int)) hx hb wdX12_treats_256 (by omega) ?_
            refine g_iald F w (a := 149) rfl (j := ((8 * r) + 3)) (ix_n (by omega)) (by omega) wdX12_treats_257 ?_
            refine r_val (v := (zI (P 3))) (hV 3 (by decide)) ?_
            refine r_val (v := (zI (((Int.toNat (P 3)) : Nat) : Int))) (congrArg zI (by omega)) ?_
            refine k_Vv F w (As := [.int (zI (t : Int)), .int (zI (((Int.toNat (P 3)) : Nat) : Int))]) (rest := []) (a := 146) (kd_lt (a := 146) (show kd 146 = (12, 0, 0) from rfl) (by decide)) (sh_12 rfl _ _) rfl (r_turns hR (t := t) (x := Int.toNat (P 3)) ht (by omega)) wgv_X12_134 whv_X12_turns ⟨(Nat.le_of_ble_eq_true rfl), (Nat.le_of_ble_eq_true rfl)⟩ hl.1 rfl (Nat.le_of_ble_eq_true rfl) ⟨Nat.zero_le _, Nat.zero_le _⟩ wdX12_treats_258 (fun Ma59 H locs hp w => ?_)
            have hq58 := hp
            refine lv_iconst (v := zI 0) hx hb wdX12_treats_261 rfl ?_
            obtain rfl : v = 7 := by omega
            exact e_z F w hr hlocks (nar_z (by omega)) (RT.of hq58 ((trT_y ⟨by have h8 := hb1; omega, hb4⟩).trans (trV_7 (x := lfP P) (y := sdP P) (n9 := Int.toNat (P 3)) (q := q) (ed := ed))) (by decide) (by decide)) wdX12_treats_262
    · rw [hMe] at w
      refine z_if_ne (tgt := 38) hx hb (by omega) wdX12_treats_33 (by decide) (fun c60 => False.elim (by omega)) (fun c60 => ?_)
      refine lv_iconst (v := zI 0) hx hb wdX12_treats_36 rfl ?_
      exact e_z F w hr hlocks (nar_z (by omega)) (RT.id hR (trT_n (fun h9 => hb4 h9.2))) wdX12_treats_37
  · rw [hMe] at w
    refine z_if_eq (tgt := 36) hx hb (by omega) wdX12_treats_24 (by decide) (fun c61 => ?_) (fun c61 => False.elim (by omega))
    refine lv_iconst (v := zI 0) hx hb wdX12_treats_36 rfl ?_
    exact e_z F w hr hlocks (nar_z (by omega)) (RT.id hR (trT_n (fun h9 => hb1 (by have h8 := h9.1; omega)))) wdX12_treats_37
