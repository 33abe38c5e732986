-- a rule that was read is like one that can be done
theorem rdC_1 {T : Nat → Nat} {N lo hi k : Nat} {x : Nat × Nat × (Nat → Int)} (g : (rdC T N lo hi k x).1 = 1) : x.1 = 1 := by
  by_cases h : x.1 = 1
  · exact h
  · unfold rdC at g; rw [if_neg h] at g; exact g
theorem rdW_1 {T : Nat → Nat} {N lo : Nat} {x : Nat × Nat × (Nat → Int)} (g : (rdW T N lo x).1 = 1) : x.1 = 1 := by
  by_cases h : x.1 = 1
  · exact h
  · unfold rdW at g; rw [if_neg h] at g; exact g
theorem rdN_1 {T : Nat → Nat} {N : Nat} {x : Nat × Nat × (Nat → Int)} (g : (rdN T N x).1 = 1) : x.1 = 1 ∧ 1 ≤ (rdN T N x).2.2 3 ∧ (rdN T N x).2.2 3 ≤ 9 := by
  by_cases h : x.1 = 1
  · by_cases h2 : dgt T N x.2.1 = -1
    · rw [rdN_n h h2] at g; exact absurd g (by show ¬ (0 : Nat) = 1; decide)
    · rw [rdN_y h h2]
      have h3 := dgt_rg T N x.2.1
      refine ⟨h, ?_, ?_⟩
      · show 1 ≤ updI x.2.2 3 (dgt T N x.2.1) 3
        rw [updI_t]; omega
      · show updI x.2.2 3 (dgt T N x.2.1) 3 ≤ 9
        rw [updI_t]; omega
  · unfold rdN at g; rw [if_neg h] at g; exact absurd g h
theorem rdW_q {T : Nat → Nat} {N lo : Nat} {x : Nat × Nat × (Nat → Int)} : (rdW T N lo x).2.2 = x.2.2 := by
  unfold rdW
  by_cases h : x.1 = 1
  · rw [if_pos h]
    by_cases h1 : tk T N x.2.1 lo lo = 0
    · rw [if_pos h1]
    · rw [if_neg h1]
  · rw [if_neg h]
theorem rdN_q {T : Nat → Nat} {N j : Nat} {x : Nat × Nat × (Nat → Int)} (hj : j ≠ 3) : (rdN T N x).2.2 j = x.2.2 j := by
  unfold rdN
  by_cases h : x.1 = 1
  · rw [if_pos h]
    by_cases h1 : dgt T N x.2.1 = -1
    · rw [if_pos h1]
    · rw [if_neg h1]; exact updI_o hj
  · rw [if_neg h]
theorem rdO_q {T : Nat → Nat} {N lo k j : Nat} {x : Nat × Nat × (Nat → Int)} (hj : j ≠ k) : (rdO T N lo k x).2.2 j = x.2.2 j := by
  unfold rdO
  by_cases h : x.1 = 1 ∧ tk T N x.2.1 lo lo = 0
  · rw [if_pos h]; exact updI_o hj
  · rw [if_neg h]
theorem rdK_q {T : Nat → Nat} {N j : Nat} {v : Int} {x : Nat × Nat × (Nat → Int)} (hj : j ≠ 2) : (rdK T N v x).2.2 j = x.2.2 j := by
  unfold rdK
  by_cases h : v = 0
  · rw [if_pos h]
  · rw [if_neg h]; exact rdC_p hj
theorem rdP_q5 {T : Nat → Nat} {N : Nat} {v : Int} {x : Nat × Nat × (Nat → Int)} : (rdP T N v x).2.2 5 = x.2.2 5 := by
  unfold rdP
  by_cases h8 : v = 8
  · rw [if_pos h8, rdC_p (by decide), rdN_q (by decide)]
  · rw [if_neg h8]
    by_cases h1 : v = 0 ∨ v = 2 ∨ v = 4
    · rw [if_pos h1, rdC_p (by decide), rdK_q (by decide)]
    · rw [if_neg h1]
      by_cases h2 : v = 1
      · rw [if_pos h2, rdN_q (by decide), rdC_p (by decide), rdK_q (by decide)]
      · rw [if_neg h2]
        by_cases h3 : v = 3
        · rw [if_pos h3, rdC_p (by decide), rdK_q (by decide)]
        · rw [if_neg h3]
          by_cases h4 : v = 7
          · rw [if_pos h4, rdC_p (by decide), rdW_q, rdK_q (by decide)]
          · rw [if_neg h4, rdK_q (by decide)]
theorem rdT_q {T : Nat → Nat} {N j : Nat} {x : Nat × Nat × (Nat → Int)} (hj : j < 5) : (rdT T N x).2.2 j = x.2.2 j := by
  unfold rdT
  by_cases h : (rdC T N 22 28 5 (rdO T N 21 6 x)).1 = 1 ∧ 5 ≤ (rdC T N 22 28 5 (rdO T N 21 6 x)).2.2 5
  · rw [if_pos h, rdC_p (by omega), rdC_p (by omega), rdO_q (by omega)]
  · rw [if_neg h, rdC_p (by omega), rdO_q (by omega)]
theorem rdT_5 {T : Nat → Nat} {N : Nat} {x : Nat × Nat × (Nat → Int)} (g : (rdT T N x).1 = 1) : 0 ≤ (rdT T N x).2.2 5 ∧ (rdT T N x).2.2 5 ≤ 6 := by
  unfold rdT at g ⊢
  by_cases h : (rdC T N 22 28 5 (rdO T N 21 6 x)).1 = 1 ∧ 5 ≤ (rdC T N 22 28 5 (rdO T N 21 6 x)).2.2 5
  · rw [if_pos h] at g ⊢
    rw [rdC_p (by decide)]
    have := rdC_v h.1
    omega
  · rw [if_neg h] at g ⊢
    have := rdC_v g
    omega
theorem rdS_q {T : Nat → Nat} {N : Nat} {x : Nat × Nat × (Nat → Int)} : (rdS T N x).2.2 = x.2.2 := by
  unfold rdS
  by_cases h : x.1 = 1
  · rw [if_pos h]
    by_cases h1 : sk T N x.2.1 < N ∧ T (sk T N x.2.1) = 59
    · rw [if_pos h1]
    · rw [if_neg h1]
  · rw [if_neg h]
theorem rdS_1 {T : Nat → Nat} {N : Nat} {x : Nat × Nat × (Nat → Int)} (g : (rdS T N x).1 = 1) : x.1 = 1 := by
  by_cases h : x.1 = 1
  · exact h
  · unfold rdS at g; rw [if_neg h] at g; exact g
theorem rdV_5 {T : Nat → Nat} {N b : Nat} : (rdV T N b).2.2 5 = -2 := by
  unfold rdV
  rw [rdC_p (by decide), rdO_q (by decide)]
  rfl
/-- the parts that a verb wants -/
theorem rdP_w {T : Nat → Nat} {N : Nat} {v : Int} {x : Nat × Nat × (Nat → Int)} (hv : 0 ≤ v ∧ v ≤ 9) (g : (rdP T N v x).1 = 1) : v = 0 ∨ (v = 1 ∧ 0 ≤ (rdP T N v x).2.2 3 ∧ (rdP T N v x).2.2 3 ≤ 9) ∨ (2 ≤ v ∧ v ≤ 6) ∨ (v = 7 ∧ 0 ≤ (rdP T N v x).2.2 3 ∧ (rdP T N v x).2.2 3 ≤ 2) ∨ (v = 8 ∧ 1 ≤ (rdP T N v x).2.2 3 ∧ (rdP T N v x).2.2 3 ≤ 9) ∨ (v = 9 ∧ 0 ≤ (rdP T N v x).2.2 2 ∧ (rdP T N v x).2.2 2 ≤ 2) := by
  rcases (show v = 0 ∨ v = 1 ∨ (2 ≤ v ∧ v ≤ 6) ∨ v = 7 ∨ v = 8 ∨ v = 9 by omega) with h | h | h | h | h | h
  · exact Or.inl h
  · rw [rdP_1 h] at g ⊢
    have := rdN_1 g
    omega
  · omega
  · rw [rdP_7 h] at g ⊢
    have := rdC_v g
    omega
  · rw [rdP_8 h] at g ⊢
    have h1 := rdN_1 (rdC_1 g)
    rw [rdC_p (by decide)]
    omega
  · rw [rdP_o (by omega), rdK_9 h] at g ⊢
    have := rdC_v g
    omega
theorem okX.P {P : Nat → Int} (h : okX P) : okP P := fun k hk => by have := h k hk; constructor <;> omega
theorem okG_R {T : Nat → Nat} {N b : Nat} (g : (rdR T N b).1 = 1) : okG (rdR T N b).2.2 := by
  have hX := okX_R T N b
  unfold rdR at g hX ⊢
  have g1 := rdS_1 g
  rw [rdS_q] at hX ⊢
  have gQ : (rdQ T N (rdV T N b)).1 = 1 ∧ (∀ j, j < 5 → (rdI T N ((rdV T N b).2.2 0) (rdQ T N (rdV T N b))).2.2 j = (rdQ T N (rdV T N b)).2.2 j) ∧ ((rdI T N ((rdV T N b).2.2 0) (rdQ T N (rdV T N b))).2.2 5 = (rdQ T N (rdV T N b)).2.2 5 ∨ (0 ≤ (rdI T N ((rdV T N b).2.2 0) (rdQ T N (rdV T N b))).2.2 5 ∧ (rdI T N ((rdV T N b).2.2 0) (rdQ T N (rdV T N b))).2.2 5 ≤ 6)) := by
    unfold rdI at g1 ⊢
    by_cases h : (rdQ T N (rdV T N b)).1 = 1 ∧ ¬ ((rdV T N b).2.2 0 = 0 ∨ (rdV T N b).2.2 0 = 8 ∨ (rdV T N b).2.2 0 = 9) ∧ tk T N (rdQ T N (rdV T N b)).2.1 20 20 = 0
    · rw [if_pos h] at g1 ⊢
      exact ⟨h.1, fun j hj => rdT_q hj, Or.inr (rdT_5 g1)⟩
    · rw [if_neg h] at g1 ⊢
      exact ⟨g1, fun _ _ => rfl, Or.inl rfl⟩
  have gV : (rdV T N b).1 = 1 := by
    by_cases h : (rdV T N b).1 = 1
    · exact h
    · have h1 := gQ.1
      unfold rdQ at h1
      rw [if_neg h] at h1
      exact h1
  have eQ : rdQ T N (rdV T N b) = rdP T N ((rdV T N b).2.2 0) (rdV T N b) := rdQ_1 gV
  have hv := rdV_v gV
  have e0 := gQ.2.1 0 (by decide)
  have e2 := gQ.2.1 2 (by decide)
  have e3 := gQ.2.1 3 (by decide)
  have e5 := gQ.2.2
  have g2 := gQ.1
  rw [eQ] at e0 e2 e3 e5 g2
  rw [eQ] at hX ⊢
  have p0 : (rdP T N ((rdV T N b).2.2 0) (rdV T N b)).2.2 0 = (rdV T N b).2.2 0 := rdP_p (by decide)
  have p5 : (rdP T N ((rdV T N b).2.2 0) (rdV T N b)).2.2 5 = -2 := rdP_q5.trans rdV_5
  have hw := rdP_w hv g2
  refine ⟨hX.P, ?_, ?_⟩
  · rw [e0, e2, e3, p0]
    omega
  · omega
-- words that are alike on both sides: bits from q on don't count
def lkB (q m n : Nat) : Prop := ∀ i, i < q → m.testBit i = n.testBit i
def alF (x y : Fw) : Prop := x.1 = y.1 ∧ lkB x.1 x.2.1 y.2.1 ∧ lkB x.1 x.2.2.1 y.2.2.1 ∧ x.2.2.2 = y.2.2.2
theorem alF.rf {x : Fw} : alF x x := ⟨rfl, fun _ _ => rfl, fun _ _ => rfl, rfl⟩
theorem alF.e {q hv ed hv2 ed2 : Nat} {o : Wo} (h1 : lkB q hv hv2) (h2 : lkB q ed ed2) : alF (q, hv, ed, o) (q, hv2, ed2, o) := ⟨rfl, h1, h2, rfl⟩
theorem alF.i {x y : Fw} (h : alF x y) : ∃ q hv ed hv2 ed2 o, x = (q, hv, ed, o) ∧ y = (q, hv2, ed2, o) ∧ lkB q hv hv2 ∧ lkB q ed ed2 := by
  obtain ⟨q, hv, ed, o⟩ := x
  obtain ⟨q2, hv2, ed2, o2⟩ := y
  obtain ⟨h1, h2, h3, h4⟩ := h
  cases h1
  cases h4
  exact ⟨q, hv, ed, hv2, ed2, o, rfl, rfl, h2, h3⟩
theorem tsP_l {P : Nat → Int} {q hv hv2 t : Nat} {o : Wo} (h : lkB q hv hv2) : tsP P q hv o t ↔ tsP P q hv2 o t := by
  have e : (∃ k : Nat, higI (o.2.2 t) = (k : Int) ∧ k < q ∧ hv.testBit k = true) ↔ (∃ k : Nat, higI (o.2.2 t) = (k : Int) ∧ k < q ∧ hv2.testBit k = true) := ⟨fun ⟨k, h1, h2, h3⟩ => ⟨k, h1, h2, (h k h2).symm.trans h3⟩, fun ⟨k, h1, h2, h3⟩ => ⟨k, h1, h2, (h k h2).trans h3⟩⟩
  unfold tsP
  rw [e]
theorem adP_l {P : Nat → Int} {q hv hv2 t : Nat} {o : Wo} (h : lkB q hv hv2) : adP P q hv o t ↔ adP P q hv2 o t := by
  unfold adP
  rw [tsP_l h]
theorem stpP_l {n q ed ed2 t x j : Nat} {L : Nat → Nat} (h : lkB q ed ed2) (hq : q ≤ 12) (hL : L t < 2 ^ q) (hx : x = 0 ∨ x = 1) : stpP n q ed L t x j ↔ stpP n q ed2 L t x j := by
  have key : ∀ e1 e2, lkB q e1 e2 → stpP n q e1 L t x j → stpP n q e2 L t x j := by
    rintro e1 e2 he ⟨h1, h2, h3, h4, h5⟩
    refine ⟨h1, h2, h3, h4, ?_⟩
    rcases hx with hx | hx
    · subst hx
      rw [if_pos rfl] at h5 ⊢
      exact (he j h2).symm.trans h5
    · subst hx
      rw [if_neg (by decide)] at h1 h5 ⊢
      have hz : L t ≠ 0 := fun h0 => by rw [h0] at h1; have h8 : lowI 0 = -1 := rfl; omega
      rw [lowI_nz hz] at h1
      have hjq : j + 1 < q := by
        rw [show j + 1 = low (L t) by omega]
        exact low_q (Nat.lt_of_lt_of_le hL (p2_le hq).2) hz hL
      exact (he (j + 1) hjq).symm.trans h5
  exact ⟨key ed ed2 h, key ed2 ed (fun i hi => (h i hi).symm)⟩
theorem spr_l {n q ed ed2 t x : Nat} (h : lkB q ed ed2) (hq : q ≤ 12) (hx : x = 0 ∨ x = 1) : ∀ (T : Nat) (L : Nat → Nat), L t < 2 ^ q → spr n q ed t x T L = spr n q ed2 t x T L
  | 0, _, _ => rfl
  | T + 1, L, hL => by
    have e : pb (stpP n q ed L t x (nj L t x)) = pb (stpP n q ed2 L t x (nj L t x)) := congrArg pb (propext (stpP_l h hq hL hx))
    rw [spr, spr, e]
    by_cases h1 : pb (stpP n q ed2 L t x (nj L t x)) = true
    · rw [if_pos h1, if_pos h1]
      have h2 : stpP n q ed2 L t x (nj L t x) := by
        by_cases h3 : stpP n q ed2 L t x (nj L t x)
        · exact h3
        · rw [pb_f h3] at h1; cases h1
      rw [spr_l h hq hx T (updF L t (L t ||| 2 ^ nj L t x)) (by rw [updF_t]; exact or_ltq hL h2.2.1)]
    · rw [if_neg h1, if_neg h1]
theorem spF_l {q ed ed2 t x n9 : Nat} {o : Wo} (h : lkB q ed ed2) (hk : okW q o) (ht : t < o.1) (hx : x = 0 ∨ x = 1) : spF q ed t x n9 o = spF q ed2 t x n9 o := by
  unfold spF
  rw [spr_l h hk.2.1 hx n9 o.2.2 (hk.2.2 t ht).2]
theorem spF_ok {q ed t x n9 : Nat} {o : Wo} (hk : okW q o) : okW q (spF q ed t x n9 o).1 := by
  by_cases h0 : o.2.2 t = 0
  · rw [spF_0 h0]; exact hk
  · rw [spF_1 h0]
    exact ⟨hk.1, hk.2.1, fun k hk2 => ⟨(hk.2.2 k hk2).1, (spr_ok n9 o.2.2 (fun k hk => (‹okW q o›.2.2 k hk).2)).1 k hk2⟩⟩
theorem lvF_ok {q t x : Nat} {o : Wo} (hk : okW q o) (ht : t < o.1) : okW q (lvF t x o).1 := by
  by_cases h : andn (o.2.2 t) (2 ^ ext x (o.2.2 t)) = 0
  · rw [lv_n h]; exact hk
  · rw [lv_y h]; exact okW_line hk (andn_lt (hk.2.2 t ht).2)
theorem spF_n1 {q ed t x n9 : Nat} {o : Wo} : (spF q ed t x n9 o).1.1 = o.1 := spF_n (Prod.eta _).symm
theorem shF_ok {q ed t x : Nat} {o : Wo} (hk : okW q o) (ht : t < o.1) : okW q (shF q ed t x o).1 := by
  unfold shF
  by_cases h : (spF q ed t x 1 o).2 = 0
  · rw [if_pos h]; exact spF_ok hk
  · rw [if_neg h]; exact lvF_ok (spF_ok hk) (by rw [spF_n1]; exact ht)
theorem shF_l {q ed ed2 t x : Nat} {o : Wo} (h : lkB q ed ed2) (hk : okW q o) (ht : t < o.1) (hx : x = 0 ∨ x = 1) : shF q ed t x o = shF q ed2 t x o := by
  unfold shF
  rw [spF_l h hk ht hx]
theorem ctF_ok {q t y : Nat} {o : Wo} (hk : okW q o) (ht : t < o.1) : okW q (ctF t y o).1 := by
  by_cases h : o.2.2 t = 0
  · rw [ctF_0 h]; exact hk
  · rw [ctF_1 h]; exact okW_line hk (andn_lt (hk.2.2 t ht).2)
theorem drF_ok {q t : Nat} {o : Wo} (hk : okW q o) (ht : t < o.1) : okW q (drF t o).1 := by
  by_cases h : o.2.2 t = 0
  · rw [drF_1 h]; exact okW_rem hk ht
  · rw [drF_0 h]; exact hk
theorem tuF_ok {q t n9 : Nat} {o : Wo} (hk : okW q o) (hn : n9 ≤ 2) : okW q (tuF t n9 o).1 := by
  by_cases h : turnP o.2.1 t n9
  · rw [tuF_y h]; exact okW_kind hk hn
  · rw [tuF_n h]; exact hk
theorem dkG_ok {q t x : Nat} {o : Wo} (hk : okW q o) (ht : t < o.1) : okW q (dkG q t x o).1 := by
  by_cases h : o.2.2 t = 0
  · rw [dkG_0 h]
    by_cases h1 : ∃ s9, dkC q o t x s9
    · obtain ⟨s9, h1⟩ := h1
      rw [dkF_y h1]
      obtain ⟨u, ⟨hu, hu0, _⟩, hs, _⟩ := h1
      refine okW_line hk (or_ltq (hk.2.2 t ht).2 ?_)
      rw [hs]
      by_cases h2 : x = 1
      · rw [if_pos h2]; exact hig_q (hk.lt hu) hu0 (hk.2.2 u hu).2
      · rw [if_neg h2]; exact low_q (hk.lt hu) hu0 (hk.2.2 u hu).2
    · rw [dkF_n (fun s9 q9 => h1 ⟨s9, q9⟩)]; exact hk
  · rw [dkG_1 h]; exact hk
theorem fuF_ok {q : Nat} : ∀ (k t : Nat) (o : Wo), okW q o → okW q (fuF k t o).1
  | 0, _, _, hk => hk
  | k + 1, t, o, hk => by
    by_cases h : t + 1 < o.1 ∧ o.2.1 (t + 1) = o.2.1 t
    · rw [fu_y h.1 h.2]; exact fuF_ok k t (fuO t o) (okW_fu hk h.1)
    · rw [fu_n h]; exact hk
theorem trV_ok {v x y n9 q ed t : Nat} {o : Wo} (hv : 1 ≤ v ∧ v ≤ 7) (hn : v = 7 → n9 ≤ 2) (hk : okW q o) (ht : t < o.1) : okW q (trV v x y n9 q ed t o).1 := by
  rcases (show v = 1 ∨ v = 2 ∨ v = 3 ∨ v = 4 ∨ v = 5 ∨ v = 6 ∨ v = 7 by omega) with h | h | h | h | h | h | h <;> subst h
  · rw [trV_1]; exact spF_ok hk
  · rw [trV_2]; exact shF_ok hk ht
  · rw [trV_3]; exact ctF_ok hk ht
  · rw [trV_4]; exact dkG_ok hk ht
  · rw [trV_5]; exact drF_ok hk ht
  · rw [trV_6]; exact fuF_ok _ _ _ hk
  · rw [trV_7]; exact tuF_ok hk (hn rfl)
theorem trV_l {v x y n9 q ed ed2 t : Nat} {o : Wo} (hv : 1 ≤ v ∧ v ≤ 7) (h : lkB q ed ed2) (hk : okW q o) (ht : t < o.1) (hx : x = 0 ∨ x = 1) : trV v x y n9 q ed t o = trV v x y n9 q ed2 t o := by
  rcases (show v = 1 ∨ v = 2 ∨ v = 3 ∨ v = 4 ∨ v = 5 ∨ v = 6 ∨ v = 7 by omega) with h1 | h1 | h1 | h1 | h1 | h1 | h1 <;> subst h1
  · rw [trV_1, trV_1]; exact spF_l h hk ht hx
  · rw [trV_2, trV_2]; exact shF_l h hk ht hx
  · rw [trV_3, trV_3]
  · rw [trV_4, trV_4]
  · rw [trV_5, trV_5]
  · rw [trV_6, trV_6]
  · rw [trV_7, trV_7]
theorem trT_l {P : Nat → Int} {v x y n9 q hv hv2 ed ed2 t : Nat} {o : Wo} (hv1 : 1 ≤ v ∧ v ≤ 7) (h : lkB q hv hv2) (h2 : lkB q ed ed2) (hk : okW q o) (ht : t < o.1) (hx : x = 0 ∨ x = 1) : trT P v x y n9 q hv ed t o = trT P v x y n9 q hv2 ed2 t o := by
  have e : trC P q hv t o ↔ trC P q hv2 t o := by unfold trC; rw [adP_l h]
  by_cases hc : trC P q hv t o
  · rw [trT_y hc, trT_y (e.mp hc), trV_l hv1 h2 hk ht hx]
  · rw [trT_n hc, trT_n (fun q9 => hc (e.mpr q9))]
theorem trT_ok {P : Nat → Int} {v x y n9 q hv ed t : Nat} {o : Wo} (hv1 : 1 ≤ v ∧ v ≤ 7) (hn : v = 7 → n9 ≤ 2) (hk : okW q o) (ht : t < o.1) : okW q (trT P v x y n9 q hv ed t o).1 := by
  by_cases hc : trC P q hv t o
  · rw [trT_y hc]; exact trV_ok hv1 hn hk ht
  · rw [trT_n hc]; exact hk
theorem tpF_l {P : Nat → Int} {v x y n9 q hv hv2 ed ed2 : Nat} (hv1 : 1 ≤ v ∧ v ≤ 7) (hn : v = 7 → n9 ≤ 2) (h : lkB q hv hv2) (h2 : lkB q ed ed2) (hx : x = 0 ∨ x = 1) : ∀ (f : Nat) (t : Int) (o : Wo), okW q o → tpF P v x y n9 q hv ed f t o = tpF P v x y n9 q hv2 ed2 f t o ∧ okW q (tpF P v x y n9 q hv ed f t o).1
  | 0, _, _, hk => ⟨rfl, hk⟩
  | f + 1, t, o, hk => by
    by_cases ht : 0 ≤ t ∧ t < (o.1 : Int)
    · have e := trT_l (P := P) (y := y) (n9 := n9) hv1 h h2 hk (show t.toNat < o.1 by omega) hx
      have h3 := trT_ok (P := P) (x := x) (y := y) (hv := hv) (ed := ed) hv1 hn hk (show t.toNat < o.1 by omega)
      have h4 := tpF_l (P := P) (y := y) hv1 hn h h2 hx f (nxT v x (trT P v x y n9 q hv ed t.toNat o).2 t) _ h3
      rw [tpF, tpF, if_pos ht, if_pos ht, ← e]
      exact ⟨by rw [h4.1], h4.2⟩
    · rw [tpF, tpF, if_neg ht, if_neg ht]
      exact ⟨rfl, hk⟩
theorem flR_ok {x s9 q n : Nat} : ∀ (k m : Nat) (L : Nat → Nat), (∀ j, j < n → L j < 2 ^ q) → ∀ j, j < n → flR x s9 k m L j < 2 ^ q
  | 0, _, _, h => h
  | k + 1, m, L, h => flR_ok k _ _ (fun j hj => by
    unfold updF
    by_cases h1 : j = fex x m
    · rw [if_pos h1, ← h1]; exact andn_lt (h j hj)
    · rw [if_neg h1]; exact h j hj)
theorem flP_ok {x n9 q : Nat} {o : Wo} (hk : okW q o) : ∀ i, okW q (flP x n9 i o).1
  | 0 => hk
  | i + 1 => by
    have h1 := flP_ok (x := x) (n9 := n9) hk i
    rw [flP]
    exact ⟨h1.1, h1.2.1, fun k hk2 => ⟨(h1.2.2 k hk2).1, flR_ok _ _ _ (fun j hj => (h1.2.2 j hj).2) k hk2⟩⟩
theorem fiP_ok {kn q : Nat} {o : Wo} (hk : okW q o) (hn : kn ≤ 2) : ∀ i, i ≤ q → okW q (fiP kn i o).1
  | 0, _ => hk
  | i + 1, hi => by
    have h1 := fiP_ok hk hn i (by omega)
    rw [fiP]
    show okW q (fiS kn i (fiP kn i o).1).1
    by_cases h : fiC i (fiP kn i o).1
    · rw [fiS_y h]; exact okW_fi h1 h.2.1 hn (by omega)
    · rw [fiS_n h]; exact h1
theorem paF_l {P : Nat → Int} {q hv hv2 ed ed2 : Nat} {o : Wo} (hG : okG P) (h : lkB q hv hv2) (h2 : lkB q ed ed2) (hk : okW q o) : paF P q hv ed o = paF P q hv2 ed2 o ∧ okW q (paF P q hv ed o).1 := by
  have hg := hG.2.1
  by_cases h0 : P 0 = 0
  · rw [paF_0 h0, paF_0 h0]
    exact ⟨rfl, hk.1, hk.2.1, fun k hk2 => ⟨(hk.2.2 k hk2).1, (lkP_ok (x := sdP P) (fun k hk => (‹okW q o›.2.2 k hk).2) q (Nat.le_refl q)).1 k hk2⟩⟩
  · by_cases h8 : P 0 = 8
    · rw [paF_8 h8, paF_8 h8]; exact ⟨rfl, flP_ok hk q⟩
    · by_cases h9 : P 0 = 9
      · rw [paF_9 h9, paF_9 h9]; exact ⟨rfl, fiP_ok hk (by omega) q (Nat.le_refl q)⟩
      · have hv1 : 1 ≤ (P 0).toNat ∧ (P 0).toNat ≤ 7 := by omega
        have hl := lf8 P
        have e := tpF_l (P := P) (y := sdP P) (n9 := (P 3).toNat) (x := lfP P) hv1 (fun h7 => by omega) h h2 (by omega) o.1 (t0P P o.1) o hk
        rw [paF_t (v := (P 0).toNat) (by omega) hv1.1 hv1.2, paF_t (v := (P 0).toNat) (by omega) hv1.1 hv1.2]
        exact e
theorem pfF_l {P : Nat → Int} {q hv hv2 ed ed2 : Nat} (hG : okG P) (h : lkB q hv hv2) (h2 : lkB q ed ed2) : ∀ (f : Nat) (o : Wo), okW q o → pfF P q hv ed f o = pfF P q hv2 ed2 f o ∧ okW q (pfF P q hv ed f o).1
  | 0, _, hk => ⟨rfl, hk⟩
  | f + 1, o, hk => by
    have e := paF_l hG h h2 hk
    have e2 := pfF_l hG h h2 f _ e.2
    rw [pfF, pfF, ← e.1]
    by_cases h1 : 0 < (paF P q hv ed o).2 ∧ P 1 = 1
    · rw [if_pos h1, if_pos h1]
      exact ⟨by rw [e2.1], e2.2⟩
    · rw [if_neg h1, if_neg h1]
      exact ⟨rfl, e.2⟩
theorem dvF_l {Ps : Nat → Nat → Int} {q hv hv2 ed ed2 : Nat} {o : Wo} (h : lkB q hv hv2) (h2 : lkB q ed ed2) (hk : okW q o) : ∀ n, (∀ j, j < n → okG (Ps j)) → dvF Ps q hv ed n o = dvF Ps q hv2 ed2 n o ∧ okW q (dvF Ps q hv ed n o).1
  | 0, _ => ⟨rfl, hk⟩
  | n + 1, hG => by
    have e := dvF_l h h2 hk n (fun j hj => hG j (by omega))
    have e2 := pfF_l (hG n (Nat.lt_succ_self n)) h h2 20 _ e.2
    rw [dvF, dvF, ← e.1, ← e2.1]
    exact ⟨rfl, e2.2⟩
theorem lkB.rf {q m : Nat} : lkB q m m := fun _ _ => rfl
