-- a pass of a rule, by its verb; a rule done
def sdP (P : Nat → Int) : Nat := if P 4 = 1 then 1 else 0
def lfP (P : Nat → Int) : Nat := if P 4 = 1 ∧ (P 0 = 1 ∨ P 0 = 2 ∨ P 0 = 4) then 1 else 0
theorem sd8 (P : Nat → Int) : (P 4 = 1 ∧ sdP P = 1) ∨ (P 4 ≠ 1 ∧ sdP P = 0) := by
  unfold sdP
  by_cases h : P 4 = 1
  · rw [if_pos h]; exact Or.inl ⟨h, rfl⟩
  · rw [if_neg h]; exact Or.inr ⟨h, rfl⟩
theorem lf8 (P : Nat → Int) : (lfP P = 1 ∧ P 4 = 1 ∧ (P 0 = 1 ∨ P 0 = 2 ∨ P 0 = 4)) ∨ (lfP P = 0 ∧ ¬ (P 4 = 1 ∧ (P 0 = 1 ∨ P 0 = 2 ∨ P 0 = 4))) := by
  unfold lfP
  by_cases h : P 4 = 1 ∧ (P 0 = 1 ∨ P 0 = 2 ∨ P 0 = 4)
  · rw [if_pos h]; exact Or.inl ⟨rfl, h⟩
  · rw [if_neg h]; exact Or.inr ⟨rfl, h⟩
def t0P (P : Nat → Int) (n : Nat) : Int := if lfP P = 1 then (n : Int) - 1 else 0
theorem t08 (P : Nat → Int) (n : Nat) : (lfP P = 1 ∧ t0P P n = (n : Int) - 1) ∨ (lfP P = 0 ∧ t0P P n = 0) := by
  unfold t0P
  by_cases h : lfP P = 1
  · rw [if_pos h]; exact Or.inl ⟨h, rfl⟩
  · rw [if_neg h]; exact Or.inr ⟨by have := lf8 P; omega, rfl⟩
/-- what a rule that was read is like -/
def okG (P : Nat → Int) : Prop := okP P ∧ (P 0 = 0 ∨ (P 0 = 1 ∧ 0 ≤ P 3 ∧ P 3 ≤ 9) ∨ (2 ≤ P 0 ∧ P 0 ≤ 6) ∨ (P 0 = 7 ∧ 0 ≤ P 3 ∧ P 3 ≤ 2) ∨ (P 0 = 8 ∧ 1 ≤ P 3 ∧ P 3 ≤ 9) ∨ (P 0 = 9 ∧ 0 ≤ P 2 ∧ P 2 ≤ 2)) ∧ (P 5 = -2 ∨ (0 ≤ P 5 ∧ P 5 ≤ 6))
noncomputable def paF (P : Nat → Int) (q hv ed : Nat) (o : Wo) : Wo × Nat :=
  if P 0 = 0 then ((o.1, o.2.1, (lkP o.1 q (sdP P) o.2.2 q).1), (lkP o.1 q (sdP P) o.2.2 q).2.toNat)
  else if P 0 = 8 then flP (sdP P) (P 3).toNat q o
  else if P 0 = 9 then fiP (P 2).toNat q o
  else tpF P (P 0).toNat (lfP P) (sdP P) (P 3).toNat q hv ed o.1 (t0P P o.1) o
theorem paF_0 {P : Nat → Int} {q hv ed : Nat} {o : Wo} (h : P 0 = 0) : paF P q hv ed o = ((o.1, o.2.1, (lkP o.1 q (sdP P) o.2.2 q).1), (lkP o.1 q (sdP P) o.2.2 q).2.toNat) := by unfold paF; rw [if_pos h]
theorem paF_8 {P : Nat → Int} {q hv ed : Nat} {o : Wo} (h : P 0 = 8) : paF P q hv ed o = flP (sdP P) (P 3).toNat q o := by unfold paF; rw [if_neg (by omega), if_pos h]
theorem paF_9 {P : Nat → Int} {q hv ed : Nat} {o : Wo} (h : P 0 = 9) : paF P q hv ed o = fiP (P 2).toNat q o := by unfold paF; rw [if_neg (by omega), if_neg (by omega), if_pos h]
theorem paF_t {P : Nat → Int} {q hv ed v : Nat} {o : Wo} (h : P 0 = (v : Int)) (h1 : 1 ≤ v) (h2 : v ≤ 7) : paF P q hv ed o = tpF P v (lfP P) (sdP P) (P 3).toNat q hv ed o.1 (t0P P o.1) o := by
  unfold paF
  rw [if_neg (by omega), if_neg (by omega), if_neg (by omega), show (P 0).toNat = v by omega]
theorem linkL_ok {n q x j : Nat} {L : Nat → Nat} (h : ∀ k, k < n → L k < 2 ^ q) (hj : j < q) : (∀ k, k < n → linkL n L x j k < 2 ^ q) ∧ (linkC n L x j = 0 ∨ linkC n L x j = 1) := by
  unfold linkL linkC
  cases hf : lfind n L x j with
  | none => exact ⟨h, Or.inl rfl⟩
  | some k9 =>
    refine ⟨fun k hk => ?_, Or.inr rfl⟩
    show updF L (ixd x n k9) _ k < 2 ^ q
    unfold updF
    by_cases h1 : k = ixd x n k9
    · rw [if_pos h1, ← h1]; exact or_ltq (h k hk) hj
    · rw [if_neg h1]; exact h k hk
theorem lkP_ok {n q x : Nat} {L : Nat → Nat} (h : ∀ k, k < n → L k < 2 ^ q) : ∀ i, i ≤ q → (∀ k, k < n → (lkP n q x L i).1 k < 2 ^ q) ∧ 0 ≤ (lkP n q x L i).2 ∧ (lkP n q x L i).2 ≤ (i : Int)
  | 0, _ => ⟨h, Int.le_refl 0, Int.le_refl 0⟩
  | i + 1, hi => by
    have h1 := lkP_ok (x := x) h i (by omega)
    have h2 := linkL_ok (x := x) (j := ixd x q i) h1.1 (ixd_lt (by omega))
    rw [lkP]
    refine ⟨h2.1, ?_, ?_⟩
    · show 0 ≤ (lkP n q x L i).2 + linkC n (lkP n q x L i).1 x (ixd x q i)
      rcases h2.2 with h3 | h3 <;> rw [h3] <;> omega
    · show (lkP n q x L i).2 + linkC n (lkP n q x L i).1 x (ixd x q i) ≤ ((i + 1 : Nat) : Int)
      rcases h2.2 with h3 | h3 <;> rw [h3] <;> omega
noncomputable def pfF (P : Nat → Int) (q hv ed : Nat) : Nat → Wo → Wo × Nat × Nat
  | 0, o => (o, 0, 0)
  | f + 1, o => if 0 < (paF P q hv ed o).2 ∧ P 1 = 1 then ((pfF P q hv ed f (paF P q hv ed o).1).1, (paF P q hv ed o).2 + (pfF P q hv ed f (paF P q hv ed o).1).2.1, (pfF P q hv ed f (paF P q hv ed o).1).2.2 + 1) else ((paF P q hv ed o).1, (paF P q hv ed o).2, 1)
theorem pfF_y {P : Nat → Int} {q hv ed f dd : Nat} {o o2 : Wo} (e : paF P q hv ed o = (o2, dd)) (h1 : 0 < dd) (h2 : P 1 = 1) : pfF P q hv ed (f + 1) o = ((pfF P q hv ed f o2).1, dd + (pfF P q hv ed f o2).2.1, (pfF P q hv ed f o2).2.2 + 1) := by
  rw [pfF, e, if_pos ⟨h1, h2⟩]
theorem pfF_n {P : Nat → Int} {q hv ed f dd : Nat} {o o2 : Wo} (e : paF P q hv ed o = (o2, dd)) (h : ¬ (0 < dd ∧ P 1 = 1)) : pfF P q hv ed (f + 1) o = (o2, dd, 1) := by
  rw [pfF, e, if_neg h]
/-- what the loop of passes has done so far -/
def pfI (P : Nat → Int) (q hv ed : Nat) (o : Wo) (f mo : Nat) (o1 : Wo) (cc pp : Nat) : Prop := (mo = 1 ∧ pfF P q hv ed 20 o = ((pfF P q hv ed f o1).1, cc + (pfF P q hv ed f o1).2.1, pp + (pfF P q hv ed f o1).2.2)) ∨ (mo = 0 ∧ pfF P q hv ed 20 o = (o1, cc, pp))
theorem pfI_0 {P : Nat → Int} {q hv ed : Nat} {o : Wo} : pfI P q hv ed o 20 1 o 0 0 := Or.inl ⟨rfl, Prod.ext rfl (Prod.ext (Nat.zero_add _).symm (Nat.zero_add _).symm)⟩
theorem pfI_y {P : Nat → Int} {q hv ed f mo cc pp dd : Nat} {o o1 o2 : Wo} (h : pfI P q hv ed o (f + 1) mo o1 cc pp) (hm : mo = 1) (e : paF P q hv ed o1 = (o2, dd)) (h1 : 0 < dd) (h2 : P 1 = 1) : pfI P q hv ed o f 1 o2 (cc + dd) (pp + 1) := by
  rcases h with ⟨_, h⟩ | ⟨h0, _⟩
  · refine Or.inl ⟨rfl, ?_⟩
    rw [h, pfF_y e h1 h2]
    refine Prod.ext rfl (Prod.ext (Nat.add_assoc _ _ _).symm ?_)
    show pp + ((pfF P q hv ed f o2).2.2 + 1) = pp + 1 + (pfF P q hv ed f o2).2.2
    omega
  · omega
theorem pfI_n {P : Nat → Int} {q hv ed f mo cc pp dd : Nat} {o o1 o2 : Wo} (h : pfI P q hv ed o (f + 1) mo o1 cc pp) (hm : mo = 1) (e : paF P q hv ed o1 = (o2, dd)) (h1 : ¬ (0 < dd ∧ P 1 = 1)) : pfI P q hv ed o f 0 o2 (cc + dd) (pp + 1) := by
  rcases h with ⟨_, h⟩ | ⟨h0, _⟩
  · refine Or.inr ⟨rfl, ?_⟩
    rw [h, pfF_n e h1]
  · omega
theorem pfI_e {P : Nat → Int} {q hv ed f mo cc pp : Nat} {o o1 : Wo} (h : pfI P q hv ed o f mo o1 cc pp) (he : mo = 0 ∨ f = 0) : pfF P q hv ed 20 o = (o1, cc, pp) := by
  rcases h with ⟨h0, h⟩ | ⟨_, h⟩
  · rcases he with he | he
    · omega
    · subst he; rw [h]; rfl
  · exact h
theorem kd9_ge {a : Nat} (h : kd a = (9, 0, 0)) : 44 ≤ a ∧ a ≤ 143 := by
  have h1 : ∀ a, a < 159 → kd a = (9, 0, 0) → 44 ≤ a ∧ a ≤ 143 := by decide +kernel
  exact h1 a (kd_lt h (by decide)) h
theorem kd4_le {a : Nat} (h : kd a = (4, 0, 0)) : a ≤ 42 ∧ (a ≤ 20 ∨ 28 ≤ a) := by
  have h1 : ∀ a, a < 159 → kd a = (4, 0, 0) → a ≤ 42 ∧ (a ≤ 20 ∨ 28 ≤ a) := by decide +kernel
  exact h1 a (kd_lt h (by decide)) h
def Fr4 (M1 M : Mem) (a : Nat) : Prop := (∀ b, b ≠ a → b ≠ a + 1 → b ≠ a + 2 → b ≠ 23 → M1.1 b = M.1 b) ∧ M1.2 = M.2
theorem Fr4.rf {M : Mem} {a : Nat} : Fr4 M M a := ⟨fun _ _ _ _ _ => rfl, rfl⟩
theorem Fr4.tr {M M1 M2 : Mem} {a : Nat} (h1 : Fr4 M1 M a) (h2 : Fr4 M2 M1 a) : Fr4 M2 M a := ⟨fun b x y z u => (h2.1 b x y z u).trans (h1.1 b x y z u), h2.2.trans h1.2⟩
theorem Fr4.of3 {M M1 : Mem} {a : Nat} (h : Fr3 M1 M a) : Fr4 M1 M a := ⟨fun b x y z _ => h.1 b x y z, h.2⟩
theorem st23_ne {M : Mem} {b : Nat} {x : Int32} (h : b ≠ 23) : (st M 23 0 x).1 b = M.1 b := by simp [st, sA, h]
theorem Fr4.st {M M1 : Mem} {a : Nat} {x : Int32} (h : Fr4 M1 M a) : Fr4 (st M1 23 0 x) M a := ⟨fun b h1 h2 h3 h4 => (st23_ne h4).trans (h.1 b h1 h2 h3 h4), h.2⟩
theorem CW.fr {M M1 : Mem} {a q hv ed : Nat} {o : Wo} (h : CW M a q hv ed o) (e0 : M1.1 a = M.1 a) (e1 : M1.1 (a + 1) = M.1 (a + 1)) (e2 : M1.1 (a + 2) = M.1 (a + 2)) : CW M1 a q hv ed o := ⟨by unfold isW; rw [e0, e1, e2]; exact h.1, h.2⟩
theorem CW.st23 {M : Mem} {a q hv ed : Nat} {o : Wo} {x : Int32} (hk : kd a = (9, 0, 0)) (h : CW M a q hv ed o) : CW (st M 23 0 x) a q hv ed o := by
  have := kd9_ge hk
  exact h.fr (st23_ne (by omega)) (st23_ne (by omega)) (st23_ne (by omega))
/-- what the contract of a rule done says -/
def PQ (a q hv ed : Nat) (f : Wo × Nat × Nat) (M : Mem) (r : Int32) (M1 : Mem) : Prop := ∃ o1 cc pp, f = (o1, cc, pp) ∧ r = zI ((cc : Nat) : Int) ∧ CW M1 a q hv ed o1 ∧ Fr4 M1 M a ∧ M1.1 23 0 = zI (pp : Int) ∧ cc ≤ 37680 ∧ pp ≤ 20
theorem u_plink {l : Launch} {D : va_G} {B : Nat} {cy : Nat → ClassId} {M : Mem} {a q hv ed ru : Nat} {o : Wo} {P : Nat → Int} (hk : kd a = (9, 0, 0)) (hC : CW M a q hv ed o) (hku : kd ru = (4, 0, 0)) (hU : isU M ru P) (hG : okG P) (h0 : P 0 = 0) : Ci l D B cy yX1_passOfLink cX1_passOfLink 8 (some .int) 3 73 [.ref (B + 23), .ref (B + ru), .ref (B + a)] M (fun r M1 => TQ a q hv ed (paF P q hv ed o) 1884 M r M1) := by
  have hb := lkP_ok (n := o.1) (q := q) (x := sdP P) (L := o.2.2) (fun k hk => (hC.2.1.2.2 k hk).2) q (Nat.le_refl q)
  have hq := hC.2.1.2.1
  refine Ci_mono (s_X1_passOfLink hk hC.1 hC.wf hku hU hG.1 (x := sdP P) (sd8 P)) (by decide) (by decide) (fun r M1 hp => ?_)
  obtain ⟨h1, h2, h3, h4⟩ := hp
  exact ⟨_, _, paF_0 h0, by rw [h1]; exact congrArg zI (by omega), ⟨h2, ⟨hC.2.1.1, hC.2.1.2.1, fun k hk => ⟨(hC.2.1.2.2 k hk).1, hb.1 k hk⟩⟩, hC.2.2⟩, h4, by omega⟩
theorem u_pflat {l : Launch} {D : va_G} {B : Nat} {cy : Nat → ClassId} {M : Mem} {a q hv ed ru : Nat} {o : Wo} {P : Nat → Int} (hk : kd a = (9, 0, 0)) (hC : CW M a q hv ed o) (hku : kd ru = (4, 0, 0)) (hU : isU M ru P) (hG : okG P) (h0 : P 0 = 8) : Ci l D B cy yX1_passOfFlat cX1_passOfFlat 10 (some .int) 2 40 [.ref (B + 23), .ref (B + ru), .ref (B + a)] M (fun r M1 => TQ a q hv ed (paF P q hv ed o) 1884 M r M1) := by
  have hap : ru + 1 < a ∨ a + 2 < ru := by have h8 := kd9_ge hk; have h9 := kd4_le hku; omega
  have hg := hG.2.1
  refine Ci_mono (s_X1_passOfFlat hk hC hku hU hG.1 hap (x := sdP P) (n9 := (P 3).toNat) (sd8 P) (by omega) (by omega) (by omega)) (by decide) (by decide) (fun r M1 hp => ?_)
  obtain ⟨o1, cc, h1, h2, h3, h4, h5⟩ := hp
  exact ⟨o1, cc, (paF_8 h0).trans h1, h2, h3, h4, by omega⟩
theorem u_pfill {l : Launch} {D : va_G} {B : Nat} {cy : Nat → ClassId} {M : Mem} {a q hv ed ru : Nat} {o : Wo} {P : Nat → Int} (hk : kd a = (9, 0, 0)) (hC : CW M a q hv ed o) (hku : kd ru = (4, 0, 0)) (hU : isU M ru P) (hG : okG P) (h0 : P 0 = 9) : Ci l D B cy yX1_passOfFill cX1_passOfFill 6 (some .int) 3 66 [.ref (B + 23), .ref (B + ru), .ref (B + a)] M (fun r M1 => TQ a q hv ed (paF P q hv ed o) 1884 M r M1) := by
  have hap : ru + 1 < a ∨ a + 2 < ru := by have h8 := kd9_ge hk; have h9 := kd4_le hku; omega
  have hg := hG.2.1
  refine Ci_mono (s_X1_passOfFill hk hC hku hU hG.1 hap (kn := (P 2).toNat) (by omega) (by omega)) (by decide) (by decide) (fun r M1 hp => ?_)
  obtain ⟨o1, cc, h1, h2, h3, h4, h5⟩ := hp
  exact ⟨o1, cc, (paF_9 h0).trans h1, h2, h3, h4, by omega⟩
theorem u_pover {l : Launch} {D : va_G} {B : Nat} {cy : Nat → ClassId} {M : Mem} {a q hv ed ru : Nat} {o : Wo} {P : Nat → Int} (hk : kd a = (9, 0, 0)) (hC : CW M a q hv ed o) (hku : kd ru = (4, 0, 0)) (hU : isU M ru P) (hG : okG P) (h0 : P 0 ≠ 0 ∧ P 0 ≠ 8 ∧ P 0 ≠ 9) : Ci l D B cy yX1_passOverTones cX1_passOverTones 12 (some .int) 3 77 [.ref (B + 23), .ref (B + ru), .ref (B + a)] M (fun r M1 => TQ a q hv ed (paF P q hv ed o) 1884 M r M1) := by
  have hap : ru + 1 < a ∨ a + 2 < ru := by have h8 := kd9_ge hk; have h9 := kd4_le hku; omega
  have hg := hG.2.1
  rcases (show P 0 = 1 ∨ P 0 = 2 ∨ P 0 = 3 ∨ P 0 = 4 ∨ P 0 = 5 ∨ P 0 = 6 ∨ P 0 = 7 by omega) with h1 | h1 | h1 | h1 | h1 | h1 | h1
  · exact Ci_mono (s_X1_over_1 hk hC hku hU hG.1 hap (x := lfP P) (y := sdP P) (n9 := (P 3).toNat) (t0 := t0P P o.1) h1 (lf8 P) (sd8 P) (t08 P o.1) hG.2.2 (by omega) (by omega)) (by decide) (by decide) (fun r M1 hp => by rw [paF_t (v := 1) h1 (by decide) (by decide)]; exact hp)
  · exact Ci_mono (s_X1_over_2 hk hC hku hU hG.1 hap (x := lfP P) (y := sdP P) (n9 := (P 3).toNat) (t0 := t0P P o.1) h1 (lf8 P) (sd8 P) (t08 P o.1) hG.2.2) (by decide) (by decide) (fun r M1 hp => by rw [paF_t (v := 2) h1 (by decide) (by decide)]; exact hp)
  · exact Ci_mono (s_X1_over_3 hk hC hku hU hG.1 hap (x := lfP P) (y := sdP P) (n9 := (P 3).toNat) (t0 := t0P P o.1) h1 (lf8 P) (sd8 P) (t08 P o.1) hG.2.2) (by decide) (by decide) (fun r M1 hp => by rw [paF_t (v := 3) h1 (by decide) (by decide)]; exact hp)
  · exact Ci_mono (s_X1_over_4 hk hC hku hU hG.1 hap (x := lfP P) (y := sdP P) (n9 := (P 3).toNat) (t0 := t0P P o.1) h1 (lf8 P) (sd8 P) (t08 P o.1) hG.2.2) (by decide) (by decide) (fun r M1 hp => by rw [paF_t (v := 4) h1 (by decide) (by decide)]; exact hp)
  · exact Ci_mono (s_X1_over_5 hk hC hku hU hG.1 hap (x := lfP P) (y := sdP P) (n9 := (P 3).toNat) (t0 := t0P P o.1) h1 (lf8 P) (sd8 P) (t08 P o.1) hG.2.2) (by decide) (by decide) (fun r M1 hp => by rw [paF_t (v := 5) h1 (by decide) (by decide)]; exact hp)
  · exact Ci_mono (s_X1_over_6 hk hC hku hU hG.1 hap (x := lfP P) (y := sdP P) (n9 := (P 3).toNat) (t0 := t0P P o.1) h1 (lf8 P) (sd8 P) (t08 P o.1) hG.2.2) (by decide) (by decide) (fun r M1 hp => by rw [paF_t (v := 6) h1 (by decide) (by decide)]; exact hp)
  · exact Ci_mono (s_X1_over_7 hk hC hku hU hG.1 hap (x := lfP P) (y := sdP P) (n9 := (P 3).toNat) (t0 := t0P P o.1) h1 (lf8 P) (sd8 P) (t08 P o.1) hG.2.2 (by omega) (by omega)) (by decide) (by decide) (fun r M1 hp => by rw [paF_t (v := 7) h1 (by decide) (by decide)]; exact hp)
theorem wdX1_perform_10 : decode cX1_perform 10 = .ok (.iload 4, 2) := dqU kk_21 (by decide +kernel)
theorem wdX1_perform_12 : decode cX1_perform 12 = .ok (.ifCond .eq 133, 3) := dqT kk_153 (by decide +kernel)
theorem wdX1_perform_15 : decode cX1_perform 15 = .ok (.aload_n 0, 1) := dq0 kk_42 (by decide +kernel)
theorem wdX1_perform_16 : decode cX1_perform 16 = .ok (.getfield 9, 3) := dqV kk_180 (by decide +kernel)
theorem wtb_89 : Cond.fieldLink "ToneLines$Doer" 9 "ToneLines$Doer" "passes" "I" ∈ TB := tbm (tc1 (List.mem_of_getElem? (i := 115) rfl)) rfl
theorem wdX1_perform_19 : decode cX1_perform 19 = .ok (.bipush 20, 2) := dqS kk_16 (by decide +kernel)
theorem wdX1_perform_21 : decode cX1_perform 21 = .ok (.if_icmp .ge 124, 3) := dqT kk_162 (by decide +kernel)
theorem wdX1_perform_24 : decode cX1_perform 24 = .ok (.aload_n 1, 1) := dq0 kk_43 (by decide +kernel)
theorem wdX1_perform_25 : decode cX1_perform 25 = .ok (.getfield 15, 3) := dqV kk_180 (by decide +kernel)
theorem wdX1_perform_28 : decode cX1_perform 28 = .ok (.iconst 0, 1) := dq0 kk_3 (by decide +kernel)
theorem wdX1_perform_29 : decode cX1_perform 29 = .ok (.iaload, 1) := dq0 kk_46 (by decide +kernel)
theorem wdX1_perform_30 : decode cX1_perform 30 = .ok (.lookupswitch 67 #[(0, 34), (8, 45), (9, 56)], 34) := by decide +kernel
theorem wdX1_perform_64 : decode cX1_perform 64 = .ok (.aload_n 0, 1) := dq0 kk_42 (by decide +kernel)
theorem wdX1_perform_65 : decode cX1_perform 65 = .ok (.aload_n 1, 1) := dq0 kk_43 (by decide +kernel)
theorem wdX1_perform_66 : decode cX1_perform 66 = .ok (.aload_n 2, 1) := dq0 kk_44 (by decide +kernel)
theorem wdX1_perform_67 : decode cX1_perform 67 = .ok (.invokevirtual 21, 3) := dqV kk_182 (by decide +kernel)
theorem wtk_X1_passOfLink : Cond.code yX1_passOfLink cX1_passOfLink 8 (some .int) ∈ TB := tbm (tc3 (List.mem_of_getElem? (i := 219) rfl)) rfl
theorem wgc_X1_passOfLink : GoodIn TB (cw yX1_passOfLink cX1_passOfLink 8 (some .int)) := goodIn_c2 wtk_X1_passOfLink
theorem wtb_90 : Cond.methodLink "ToneLines$Doer" 21 yX1_passOfLink ∈ TB := tbm (tc3 (List.mem_of_getElem? (i := 216) rfl)) rfl
theorem wtb_91 : Cond.instanceMethod yX1_passOfLink ∈ TB := tbm (tc3 (List.mem_of_getElem? (i := 218) rfl)) rfl
theorem wtb_92 : Cond.selects "ToneLines$Doer" yX1_passOfLink yX1_passOfLink ∈ TB := tbp (List.mem_of_getElem? (i := 15) rfl) rfl
theorem wgv_X1_21 : GoodIn TB (wsV RX1 21 RX1 yX1_passOfLink (cw yX1_passOfLink cX1_passOfLink 8 (some .int))) := goodIn_4 wtb_90 wtb_91 wtb_92 wtb_52 wgc_X1_passOfLink
theorem whv_X1_passOfLink : yX1_passOfLink.cls = RX1 ∧ yX1_passOfLink.cls ≠ "java/lang/invoke/MethodHandle" ∧ yX1_passOfLink.cls ≠ "java/lang/invoke/VarHandle" ∧ (parseMethodDescriptor yX1_passOfLink.desc).map (fun d => d.parameters.length) = some 2 := by decide +kernel
theorem wdX1_perform_70 : decode cX1_perform 70 = .ok (.istore 5, 2) := dqU kk_54 (by decide +kernel)
theorem wdX1_perform_72 : decode cX1_perform 72 = .ok (.goto 33, 3) := dqT kk_167 (by decide +kernel)
theorem wdX1_perform_105 : decode cX1_perform 105 = .ok (.iload_n 3, 1) := dq0 kk_29 (by decide +kernel)
theorem wdX1_perform_106 : decode cX1_perform 106 = .ok (.iload 5, 2) := dqU kk_21 (by decide +kernel)
theorem wdX1_perform_108 : decode cX1_perform 108 = .ok (.iadd, 1) := dq0 kk_96 (by decide +kernel)
theorem wdX1_perform_109 : decode cX1_perform 109 = .ok (.istore_n 3, 1) := dq0 kk_62 (by decide +kernel)
theorem wdX1_perform_110 : decode cX1_perform 110 = .ok (.iload 5, 2) := dqU kk_21 (by decide +kernel)
theorem wdX1_perform_112 : decode cX1_perform 112 = .ok (.ifCond .le 17, 3) := dqT kk_158 (by decide +kernel)
theorem wdX1_perform_129 : decode cX1_perform 129 = .ok (.iconst 0, 1) := dq0 kk_3 (by decide +kernel)
theorem wdX1_perform_130 : decode cX1_perform 130 = .ok (.istore 4, 2) := dqU kk_54 (by decide +kernel)
theorem wdX1_perform_132 : decode cX1_perform 132 = .ok (.aload_n 0, 1) := dq0 kk_42 (by decide +kernel)
theorem wdX1_perform_133 : decode cX1_perform 133 = .ok (.dup, 1) := dq0 kk_89 (by decide +kernel)
theorem wdX1_perform_134 : decode cX1_perform 134 = .ok (.getfield 9, 3) := dqV kk_180 (by decide +kernel)
theorem wdX1_perform_137 : decode cX1_perform 137 = .ok (.iconst 1, 1) := dq0 kk_4 (by decide +kernel)
theorem wdX1_perform_138 : decode cX1_perform 138 = .ok (.iadd, 1) := dq0 kk_96 (by decide +kernel)
theorem wdX1_perform_139 : decode cX1_perform 139 = .ok (.putfield 9, 3) := dqV kk_181 (by decide +kernel)
theorem wdX1_perform_142 : decode cX1_perform 142 = .ok (.goto (-132), 3) := dqT kk_167 (by decide +kernel)
theorem wdX1_perform_115 : decode cX1_perform 115 = .ok (.aload_n 1, 1) := dq0 kk_43 (by decide +kernel)
theorem wdX1_perform_116 : decode cX1_perform 116 = .ok (.getfield 15, 3) := dqV kk_180 (by decide +kernel)
theorem wdX1_perform_119 : decode cX1_perform 119 = .ok (.iconst 1, 1) := dq0 kk_4 (by decide +kernel)
theorem wdX1_perform_120 : decode cX1_perform 120 = .ok (.iaload, 1) := dq0 kk_46 (by decide +kernel)
theorem wdX1_perform_121 : decode cX1_perform 121 = .ok (.iconst 1, 1) := dq0 kk_4 (by decide +kernel)
theorem wdX1_perform_122 : decode cX1_perform 122 = .ok (.if_icmp .ne 7, 3) := dqT kk_160 (by decide +kernel)
theorem wdX1_perform_125 : decode cX1_perform 125 = .ok (.iconst 1, 1) := dq0 kk_4 (by decide +kernel)
theorem wdX1_perform_126 : decode cX1_perform 126 = .ok (.goto 4, 3) := dqT kk_167 (by decide +kernel)
theorem wdX1_perform_75 : decode cX1_perform 75 = .ok (.aload_n 0, 1) := dq0 kk_42 (by decide +kernel)
theorem wdX1_perform_76 : decode cX1_perform 76 = .ok (.aload_n 1, 1) := dq0 kk_43 (by decide +kernel)
theorem wdX1_perform_77 : decode cX1_perform 77 = .ok (.aload_n 2, 1) := dq0 kk_44 (by decide +kernel)
theorem wdX1_perform_78 : decode cX1_perform 78 = .ok (.invokevirtual 25, 3) := dqV kk_182 (by decide +kernel)
theorem wtk_X1_passOfFlat : Cond.code yX1_passOfFlat cX1_passOfFlat 10 (some .int) ∈ TB := tbm (tc4 (List.mem_of_getElem? (i := 1) rfl)) rfl
theorem wgc_X1_passOfFlat : GoodIn TB (cw yX1_passOfFlat cX1_passOfFlat 10 (some .int)) := goodIn_c2 wtk_X1_passOfFlat
theorem wtb_93 : Cond.methodLink "ToneLines$Doer" 25 yX1_passOfFlat ∈ TB := tbm (tc3 (List.mem_of_getElem? (i := 238) rfl)) rfl
theorem wtb_94 : Cond.instanceMethod yX1_passOfFlat ∈ TB := tbm (tc4 (List.mem_of_getElem? (i := 0) rfl)) rfl
theorem wtb_95 : Cond.selects "ToneLines$Doer" yX1_passOfFlat yX1_passOfFlat ∈ TB := tbp (List.mem_of_getElem? (i := 17) rfl) rfl
theorem wgv_X1_25 : GoodIn TB (wsV RX1 25 RX1 yX1_passOfFlat (cw yX1_passOfFlat cX1_passOfFlat 10 (some .int))) := goodIn_4 wtb_93 wtb_94 wtb_95 wtb_52 wgc_X1_passOfFlat
theorem whv_X1_passOfFlat : yX1_passOfFlat.cls = RX1 ∧ yX1_passOfFlat.cls ≠ "java/lang/invoke/MethodHandle" ∧ yX1_passOfFlat.cls ≠ "java/lang/invoke/VarHandle" ∧ (parseMethodDescriptor yX1_passOfFlat.desc).map (fun d => d.parameters.length) = some 2 := by decide +kernel
theorem wdX1_perform_81 : decode cX1_perform 81 = .ok (.istore 5, 2) := dqU kk_54 (by decide +kernel)
theorem wdX1_perform_83 : decode cX1_perform 83 = .ok (.goto 22, 3) := dqT kk_167 (by decide +kernel)
theorem wdX1_perform_86 : decode cX1_perform 86 = .ok (.aload_n 0, 1) := dq0 kk_42 (by decide +kernel)
theorem wdX1_perform_87 : decode cX1_perform 87 = .ok (.aload_n 1, 1) := dq0 kk_43 (by decide +kernel)
theorem wdX1_perform_88 : decode cX1_perform 88 = .ok (.aload_n 2, 1) := dq0 kk_44 (by decide +kernel)
theorem wdX1_perform_89 : decode cX1_perform 89 = .ok (.invokevirtual 28, 3) := dqV kk_182 (by decide +kernel)
theorem wtk_X1_passOfFill : Cond.code yX1_passOfFill cX1_passOfFill 6 (some .int) ∈ TB := tbm (tc4 (List.mem_of_getElem? (i := 22) rfl)) rfl
theorem wgc_X1_passOfFill : GoodIn TB (cw yX1_passOfFill cX1_passOfFill 6 (some .int)) := goodIn_c2 wtk_X1_passOfFill
theorem wtb_96 : Cond.methodLink "ToneLines$Doer" 28 yX1_passOfFill ∈ TB := tbm (tc4 (List.mem_of_getElem? (i := 19) rfl)) rfl
theorem wtb_97 : Cond.instanceMethod yX1_passOfFill ∈ TB := tbm (tc4 (List.mem_of_getElem? (i := 21) rfl)) rfl
theorem wtb_98 : Cond.selects "ToneLines$Doer" yX1_passOfFill yX1_passOfFill ∈ TB := tbp (List.mem_of_getElem? (i := 18) rfl) rfl
theorem wgv_X1_28 : GoodIn TB (wsV RX1 28 RX1 yX1_passOfFill (cw yX1_passOfFill cX1_passOfFill 6 (some .int))) := goodIn_4 wtb_96 wtb_97 wtb_98 wtb_52 wgc_X1_passOfFill
theorem whv_X1_passOfFill : yX1_passOfFill.cls = RX1 ∧ yX1_passOfFill.cls ≠ "java/lang/invoke/MethodHandle" ∧ yX1_passOfFill.cls ≠ "java/lang/invoke/VarHandle" ∧ (parseMethodDescriptor yX1_passOfFill.desc).map (fun d => d.parameters.length) = some 2 := by decide +kernel
theorem wdX1_perform_92 : decode cX1_perform 92 = .ok (.istore 5, 2) := dqU kk_54 (by decide +kernel)
theorem wdX1_perform_94 : decode cX1_perform 94 = .ok (.goto 11, 3) := dqT kk_167 (by decide +kernel)
theorem wdX1_perform_97 : decode cX1_perform 97 = .ok (.aload_n 0, 1) := dq0 kk_42 (by decide +kernel)
theorem wdX1_perform_98 : decode cX1_perform 98 = .ok (.aload_n 1, 1) := dq0 kk_43 (by decide +kernel)
theorem wdX1_perform_99 : decode cX1_perform 99 = .ok (.aload_n 2, 1) := dq0 kk_44 (by decide +kernel)
theorem wdX1_perform_100 : decode cX1_perform 100 = .ok (.invokevirtual 31, 3) := dqV kk_182 (by decide +kernel)
theorem wtk_X1_passOverTones : Cond.code yX1_passOverTones cX1_passOverTones 12 (some .int) ∈ TB := tbm (tc4 (List.mem_of_getElem? (i := 32) rfl)) rfl
theorem wgc_X1_passOverTones : GoodIn TB (cw yX1_passOverTones cX1_passOverTones 12 (some .int)) := goodIn_c2 wtk_X1_passOverTones
theorem wtb_99 : Cond.methodLink "ToneLines$Doer" 31 yX1_passOverTones ∈ TB := tbm (tc4 (List.mem_of_getElem? (i := 29) rfl)) rfl
theorem wtb_100 : Cond.instanceMethod yX1_passOverTones ∈ TB := tbm (tc4 (List.mem_of_getElem? (i := 31) rfl)) rfl
theorem wtb_101 : Cond.selects "ToneLines$Doer" yX1_passOverTones yX1_passOverTones ∈ TB := tbp (List.mem_of_getElem? (i := 20) rfl) rfl
theorem wgv_X1_31 : GoodIn TB (wsV RX1 31 RX1 yX1_passOverTones (cw yX1_passOverTones cX1_passOverTones 12 (some .int))) := goodIn_4 wtb_99 wtb_100 wtb_101 wtb_52 wgc_X1_passOverTones
theorem whv_X1_passOverTones : yX1_passOverTones.cls = RX1 ∧ yX1_passOverTones.cls ≠ "java/lang/invoke/MethodHandle" ∧ yX1_passOverTones.cls ≠ "java/lang/invoke/VarHandle" ∧ (parseMethodDescriptor yX1_passOverTones.desc).map (fun d => d.parameters.length) = some 2 := by decide +kernel
theorem wdX1_perform_103 : decode cX1_perform 103 = .ok (.istore 5, 2) := dqU kk_54 (by decide +kernel)
set_option maxRecDepth 4000 in
theorem lp_X1_perform {p : Program} {l : Launch} {e : Env} {s : State} {m : MethodId} {args : Array Value} {below : List Frame} {meth : Method} {c : Code} {D : va_G} {B : Nat} {cy : Nat → ClassId} {H0 : Heap} {Q : State → Prop} {M : Mem} {R : Room} {a ru q hv ed : Nat} {o : Wo} {P : Nat → Int} (F : CallFix p m c cX1_perform 6 s args TB RX1) (hR1 : 4 ≤ R.frames) (hR2 : 108 ≤ R.locals) (hk : kd a = (9, 0, 0)) (hku : kd ru = (4, 0, 0)) (hG : okG P) (kk : ∀ (pp : Nat) (cc : Nat) (mo : Nat) (Nm : Mem) (o1 : Wo) (H : Heap) (locs : List Loc) (ls : Array Slot), (CW Nm a q hv ed o1) → (pfF P q hv ed 20 o = (o1, cc, pp)) → (Fr4 Nm M a) → (Nm.1 23 0 = zI (pp : Int)) → (cc ≤ 37680) → (pp ≤ 20) → Wd D B cy s H0 Nm H locs → lv_has ls 6 [(3, .int (zI (cc : Int)))] → W p l e R s m args below meth c H locs 0 0 Q (F0 m 145 ls [])) : ∀ (f : Nat) (pp : Nat) (cc : Nat) (mo : Nat) (Nm : Mem) (o1 : Wo), (pp ≤ 20) → (CW Nm a q hv ed o1) → (pfI P q hv ed o (20 - pp) mo o1 cc pp) → (Nm.1 23 0 = zI (pp : Int)) → (isU Nm ru P) → (Fr4 Nm M a) → (cc ≤ 1884 * pp) → (mo ≤ 1) → (20 ≤ pp + f) → ∀ (H : Heap) (locs : List Loc) (ls : Array Slot), Wd D B cy s H0 Nm H locs → lv_has ls 6 [(4, .int (zI (mo : Int))), (3, .int (zI (cc : Int))), (0, .ref (B + 23)), (1, .ref (B + ru)), (2, .ref (B + a))] → W p l e R s m args below meth c H locs 0 0 Q (F0 m 10 ls []) := by
  have hx := F.1
  have hb := F.2.1
  have hge := kd9_ge hk
  have hle := kd4_le hku
  have hP := hG.1
  have hP0 := hP 0 (by decide)
  have hP1 := hP 1 (by decide)
  intro f
  induction f with
  | zero =>
    intro pp cc mo Nm o1 i0 i1 i2 i3 i4 i5 i6 i7 hf H locs ls w hl
    refine lv_iload hx hb wdX1_perform_10 (lv_at hl 0 rfl) ?_
    refine z_if_eq (tgt := 145) hx hb (by omega) wdX1_perform_12 (by decide) (fun c1 => ?_) (fun c1 => ?_)
    · exact kk pp cc mo Nm o1 _ _ ls i1 (pfI_e i2 (by omega)) i5 i3 (by omega) i0 w (lv_sub hl [1] rfl)
    · refine lv_aload_n hx hb wdX1_perform_15 rfl (lv_at hl 2 rfl) ?_
      refine f_1_0 F w (a := 23) rfl wtb_89 wdX1_perform_16 ?_
      refine r_val (v := (zI (pp : Int))) (i3) ?_
      refine lv_bipush (v := zI 20) hx hb wdX1_perform_19 (by decide) ?_
      refine z_icmp_ge (tgt := 145) hx hb (by omega) (by omega) wdX1_perform_21 (by decide) (fun c2 => ?_) (fun c2 => False.elim (by omega))
      exact kk pp cc mo Nm o1 _ _ ls i1 (pfI_e i2 (by omega)) i5 i3 (by omega) i0 w (lv_sub hl [1] rfl)
  | succ f ih =>
    intro pp cc mo Nm o1 i0 i1 i2 i3 i4 i5 i6 i7 hf H locs ls w hl
    refine lv_iload hx hb wdX1_perform_10 (lv_at hl 0 rfl) ?_
    refine z_if_eq (tgt := 145) hx hb (by omega) wdX1_perform_12 (by decide) (fun c1 => ?_) (fun c1 => ?_)
    · exact kk pp cc mo Nm o1 _ _ ls i1 (pfI_e i2 (by omega)) i5 i3 (by omega) i0 w (lv_sub hl [1] rfl)
    · refine lv_aload_n hx hb wdX1_perform_15 rfl (lv_at hl 2 rfl) ?_
      refine f_1_0 F w (a := 23) rfl wtb_89 wdX1_perform_16 ?_
      refine r_val (v := (zI (pp : Int))) (i3) ?_
      refine lv_bipush (v := zI 20) hx hb wdX1_perform_19 (by decide) ?_
      refine z_icmp_ge (tgt := 145) hx hb (by omega) (by omega) wdX1_perform_21 (by decide) (fun c2 => ?_) (fun c2 => ?_)
      · exact kk pp cc mo Nm o1 _ _ ls i1 (pfI_e i2 (by omega)) i5 i3 (by omega) i0 w (lv_sub hl [1] rfl)
      · refine lv_aload_n hx hb wdX1_perform_24 rfl (lv_at hl 3 rfl) ?_
        refine f_4_0 F w (a := ru) hku wtb_45 wdX1_perform_25 ?_
        refine lv_iconst (v := zI 0) hx hb wdX1_perform_28 rfl ?_
        refine g_iald F w (a := (ru + 1)) (kd_r1 hku) (j := 0) ⟨by decide, by decide⟩ (by omega) wdX1_perform_29 ?_
        refine r_val (v := (zI (P 0))) (i4 0 (by decide)) ?_
        rcases (show ((P 0) : Int) = 0 ∨ ((P 0) : Int) = 8 ∨ ((P 0) : Int) = 9 ∨ ((P 0) ≠ 0 ∧ (P 0) ≠ 8 ∧ (P 0) ≠ 9) by omega) with c3 | c3 | c3 | c3
        · refine r_val (v := zI 0) (congrArg zI c3) ?_
          refine lv_lookup (tgt := 64) (off := 34) hx hb wdX1_perform_30 (by decide) (by decide) (by decide) ?_
          refine lv_aload_n hx hb wdX1_perform_64 rfl (lv_at hl 2 rfl) ?_
          refine lv_aload_n hx hb wdX1_perform_65 rfl (lv_at hl 3 rfl) ?_
          refine lv_aload_n hx hb wdX1_perform_66 rfl (lv_at hl 4 rfl) ?_
          refine k_Vi F w (As := [.ref (B + ru), .ref (B + a)]) (rest := []) (a := 23) (kd_lt (a := 23) (show kd 23 = (1, 0, 0) from rfl) (by decide)) (sh_1 rfl _ _) rfl (u_plink hk i1 hku i4 hG (by omega)) wgv_X1_21 whv_X1_passOfLink ⟨(by omega), (by omega)⟩ hl.1 rfl (Nat.le_of_ble_eq_true rfl) ⟨Nat.zero_le _, Nat.zero_le _⟩ wdX1_perform_67 (fun r Ma5 H locs hp w => ?_)
          rcases hp with ⟨oT4, dT4, eT4, rfl, hCT4, hFT4, hdT4⟩
          refine lv_istore (lv' := [(5, .int (zI (dT4 : Int))), (4, .int (zI (mo : Int))), (3, .int (zI (cc : Int))), (0, .ref (B + 23)), (1, .ref (B + ru)), (2, .ref (B + a))]) hx hb wdX1_perform_70 hl (by decide) rfl (fun ls hl => ?_)
          refine lv_goto (tgt := 105) hx hb wdX1_perform_72 (by decide) ?_
          refine lv_iload_n hx hb wdX1_perform_105 rfl (lv_at hl 2 rfl) ?_
          refine lv_iload hx hb wdX1_perform_106 (lv_at hl 0 rfl) ?_
          refine z_iadd (z := (((cc + dT4) : Nat) : Int)) hx hb wdX1_perform_108 (by omega) ?_
          refine lv_istore_n (lv' := [(3, .int (zI (((cc + dT4) : Nat) : Int))), (5, .int (zI (dT4 : Int))), (4, .int (zI (mo : Int))), (0, .ref (B + 23)), (1, .ref (B + ru)), (2, .ref (B + a))]) hx hb wdX1_perform_109 rfl hl (by decide) rfl (fun ls hl => ?_)
          refine lv_iload hx hb wdX1_perform_110 (lv_at hl 1 rfl) ?_
          refine z_if_le (tgt := 129) hx hb (by omega) wdX1_perform_112 (by decide) (fun c6 => ?_) (fun c6 => ?_)
          · refine lv_iconst (v := zI 0) hx hb wdX1_perform_129 rfl ?_
            refine lv_istore (lv' := [(4, .int (zI 0)), (3, .int (zI (((cc + dT4) : Nat) : Int))), (5, .int (zI (dT4 : Int))), (0, .ref (B + 23)), (1, .ref (B + ru)), (2, .ref (B + a))]) hx hb wdX1_perform_130 hl (by decide) rfl (fun ls hl => ?_)
            refine lv_aload_n hx hb wdX1_perform_132 rfl (lv_at hl 3 rfl) ?_
            refine lv_dup hx hb wdX1_perform_133 rfl ?_
            refine f_1_0 F w (a := 23) rfl wtb_89 wdX1_perform_134 ?_
            refine r_val (v := (zI (pp : Int))) (((congrFun (hFT4.1 23 (by omega) (by omega) (by omega)) 0).trans i3)) ?_
            refine lv_iconst (v := zI 1) hx hb wdX1_perform_137 rfl ?_
            refine z_iadd (z := (((pp + 1) : Nat) : Int)) hx hb wdX1_perform_138 (by omega) ?_
            refine u_1_0 F w (a := 23) rfl wtb_89 wdX1_perform_139 (fun H locs w => ?_)
            refine lv_goto (tgt := 10) hx hb wdX1_perform_142 (by decide) ?_
            exact ih (pp + 1) (cc + dT4) 0 (st Ma5 23 0 (zI (((pp + 1) : Nat) : Int))) oT4 (by omega) (CW.st23 hk hCT4) (by have h9 := pfI_n (f := 20 - (pp + 1)) (by rw [show 20 - (pp + 1) + 1 = 20 - pp by omega]; exact i2) (show mo = 1 by omega) eT4 (by omega); exact h9) st_at (isU.fr i4 ((st23_ne (by omega)).trans (hFT4.1 (ru + 1) (by omega) (by omega) (by omega)))) (Fr4.st (Fr4.tr i5 (Fr4.of3 hFT4))) (by omega) (by omega) (by omega) _ _ ls w (lv_sub hl [0, 1, 3, 4, 5] rfl)
          · refine lv_aload_n hx hb wdX1_perform_115 rfl (lv_at hl 4 rfl) ?_
            refine f_4_0 F w (a := ru) hku wtb_45 wdX1_perform_116 ?_
            refine lv_iconst (v := zI 1) hx hb wdX1_perform_119 rfl ?_
            refine g_iald F w (a := (ru + 1)) (kd_r1 hku) (j := 1) ⟨by decide, by decide⟩ (by omega) wdX1_perform_120 ?_
            refine r_val (v := (zI (P 1))) ((isU.fr i4 (hFT4.1 (ru + 1) (by omega) (by omega) (by omega))) 1 (by decide)) ?_
            refine lv_iconst (v := zI 1) hx hb wdX1_perform_121 rfl ?_
            refine z_icmp_ne (tgt := 129) hx hb (by omega) (by omega) wdX1_perform_122 (by decide) (fun c7 => ?_) (fun c7 => ?_)
            · refine lv_iconst (v := zI 0) hx hb wdX1_perform_129 rfl ?_
              refine lv_istore (lv' := [(4, .int (zI 0)), (3, .int (zI (((cc + dT4) : Nat) : Int))), (5, .int (zI (dT4 : Int))), (0, .ref (B + 23)), (1, .ref (B + ru)), (2, .ref (B + a))]) hx hb wdX1_perform_130 hl (by decide) rfl (fun ls hl => ?_)
              refine lv_aload_n hx hb wdX1_perform_132 rfl (lv_at hl 3 rfl) ?_
              refine lv_dup hx hb wdX1_perform_133 rfl ?_
              refine f_1_0 F w (a := 23) rfl wtb_89 wdX1_perform_134 ?_
              refine r_val (v := (zI (pp : Int))) (((congrFun (hFT4.1 23 (by omega) (by omega) (by omega)) 0).trans i3)) ?_
              refine lv_iconst (v := zI 1) hx hb wdX1_perform_137 rfl ?_
              refine z_iadd (z := (((pp + 1) : Nat) : Int)) hx hb wdX1_perform_138 (by omega) ?_
              refine u_1_0 F w (a := 23) rfl wtb_89 wdX1_perform_139 (fun H locs w => ?_)
              refine lv_goto (tgt := 10) hx hb wdX1_perform_142 (by decide) ?_
              exact ih (pp + 1) (cc + dT4) 0 (st Ma5 23 0 (zI (((pp + 1) : Nat) : Int))) oT4 (by omega) (CW.st23 hk hCT4) (by have h9 := pfI_n (f := 20 - (pp + 1)) (by rw [show 20 - (pp + 1) + 1 = 20 - pp by omega]; exact i2) (show mo = 1 by omega) eT4 (by omega); exact h9) st_at (isU.fr i4 ((st23_ne (by omega)).trans (hFT4.1 (ru + 1) (by omega) (by omega) (by omega)))) (Fr4.st (Fr4.tr i5 (Fr4.of3 hFT4))) (by omega) (by omega) (by omega) _ _ ls w (lv_sub hl [0, 1, 3, 4, 5] rfl)
            · refine lv_iconst (v := zI 1) hx hb wdX1_perform_125 rfl ?_
              refine lv_goto (tgt := 130) hx hb wdX1_perform_126 (by decide) ?_
              refine lv_istore (lv' := [(4, .int (zI 1)), (3, .int (zI (((cc + dT4) : Nat) : Int))), (5, .int (zI (dT4 : Int))), (0, .ref (B + 23)), (1, .ref (B + ru)), (2, .ref (B + a))]) hx hb wdX1_perform_130 hl (by decide) rfl (fun ls hl => ?_)
              refine lv_aload_n hx hb wdX1_perform_132 rfl (lv_at hl 3 rfl) ?_
              refine lv_dup hx hb wdX1_perform_133 rfl ?_
              refine f_1_0 F w (a := 23) rfl wtb_89 wdX1_perform_134 ?_
              refine r_val (v := (zI (pp : Int))) (((congrFun (hFT4.1 23 (by omega) (by omega) (by omega)) 0).trans i3)) ?_
              refine lv_iconst (v := zI 1) hx hb wdX1_perform_137 rfl ?_
              refine z_iadd (z := (((pp + 1) : Nat) : Int)) hx hb wdX1_perform_138 (by omega) ?_
              refine u_1_0 F w (a := 23) rfl wtb_89 wdX1_perform_139 (fun H locs w => ?_)
              refine lv_goto (tgt := 10) hx hb wdX1_perform_142 (by decide) ?_
              exact ih (pp + 1) (cc + dT4) 1 (st Ma5 23 0 (zI (((pp + 1) : Nat) : Int))) oT4 (by omega) (CW.st23 hk hCT4) (by have h9 := pfI_y (f := 20 - (pp + 1)) (by rw [show 20 - (pp + 1) + 1 = 20 - pp by omega]; exact i2) (show mo = 1 by omega) eT4 (by omega) (by omega); exact h9) st_at (isU.fr i4 ((st23_ne (by omega)).trans (hFT4.1 (ru + 1) (by omega) (by omega) (by omega)))) (Fr4.st (Fr4.tr i5 (Fr4.of3 hFT4))) (by omega) (by omega) (by omega) _ _ ls w (lv_sub hl [0, 1, 3, 4, 5] rfl)
        · refine r_val (v := zI 8) (congrArg zI c3) ?_
          refine lv_lookup (tgt := 75) (off := 45) hx hb wdX1_perform_30 (by decide) (by decide) (by decide) ?_
          refine lv_aload_n hx hb wdX1_perform_75 rfl (lv_at hl 2 rfl) ?_
          refine lv_aload_n hx hb wdX1_perform_76 rfl (lv_at hl 3 rfl) ?_
          refine lv_aload_n hx hb wdX1_perform_77 rfl (lv_at hl 4 rfl) ?_
          refine k_Vi F w (As := [.ref (B + ru), .ref (B + a)]) (rest := []) (a := 23) (kd_lt (a := 23) (show kd 23 = (1, 0, 0) from rfl) (by decide)) (sh_1 rfl _ _) rfl (u_pflat hk i1 hku i4 hG (by omega)) wgv_X1_25 whv_X1_passOfFlat ⟨(by omega), (by omega)⟩ hl.1 rfl (Nat.le_of_ble_eq_true rfl) ⟨Nat.zero_le _, Nat.zero_le _⟩ wdX1_perform_78 (fun r Ma9 H locs hp w => ?_)
          rcases hp with ⟨oT8, dT8, eT8, rfl, hCT8, hFT8, hdT8⟩
          refine lv_istore (lv' := [(5, .int (zI (dT8 : Int))), (4, .int (zI (mo : Int))), (3, .int (zI (cc : Int))), (0, .ref (B + 23)), (1, .ref (B + ru)), (2, .ref (B + a))]) hx hb wdX1_perform_81 hl (by decide) rfl (fun ls hl => ?_)
          refine lv_goto (tgt := 105) hx hb wdX1_perform_83 (by decide) ?_
          refine lv_iload_n hx hb wdX1_perform_105 rfl (lv_at hl 2 rfl) ?_
          refine lv_iload hx hb wdX1_perform_106 (lv_at hl 0 rfl) ?_
          refine z_iadd (z := (((cc + dT8) : Nat) : Int)) hx hb wdX1_perform_108 (by omega) ?_
          refine lv_istore_n (lv' := [(3, .int (zI (((cc + dT8) : Nat) : Int))), (5, .int (zI (dT8 : Int))), (4, .int (zI (mo : Int))), (0, .ref (B + 23)), (1, .ref (B + ru)), (2, .ref (B + a))]) hx hb wdX1_perform_109 rfl hl (by decide) rfl (fun ls hl => ?_)
          refine lv_iload hx hb wdX1_perform_110 (lv_at hl 1 rfl) ?_
          refine z_if_le (tgt := 129) hx hb (by omega) wdX1_perform_112 (by decide) (fun c10 => ?_) (fun c10 => ?_)
          · refine lv_iconst (v := zI 0) hx hb wdX1_perform_129 rfl ?_
            refine lv_istore (lv' := [(4, .int (zI 0)), (3, .int (zI (((cc + dT8) : Nat) : Int))), (5, .int (zI (dT8 : Int))), (0, .ref (B + 23)), (1, .ref (B + ru)), (2, .ref (B + a))]) hx hb wdX1_perform_130 hl (by decide) rfl (fun ls hl => ?_)
            refine lv_aload_n hx hb wdX1_perform_132 rfl (lv_at hl 3 rfl) ?_
            refine lv_dup hx hb wdX1_perform_133 rfl ?_
            refine f_1_0 F w (a := 23) rfl wtb_89 wdX1_perform_134 ?_
            refine r_val (v := (zI (pp : Int))) (((congrFun (hFT8.1 23 (by omega) (by omega) (by omega)) 0).trans i3)) ?_
            refine lv_iconst (v := zI 1) hx hb wdX1_perform_137 rfl ?_
            refine z_iadd (z := (((pp + 1) : Nat) : Int)) hx hb wdX1_perform_138 (by omega) ?_
            refine u_1_0 F w (a := 23) rfl wtb_89 wdX1_perform_139 (fun H locs w => ?_)
            refine lv_goto (tgt := 10) hx hb wdX1_perform_142 (by decide) ?_
            exact ih (pp + 1) (cc + dT8) 0 (st Ma9 23 0 (zI (((pp + 1) : Nat) : Int))) oT8 (by omega) (CW.st23 hk hCT8) (by have h9 := pfI_n (f := 20 - (pp + 1)) (by rw [show 20 - (pp + 1) + 1 = 20 - pp by omega]; exact i2) (show mo = 1 by omega) eT8 (by omega); exact h9) st_at (isU.fr i4 ((st23_ne (by omega)).trans (hFT8.1 (ru + 1) (by omega) (by omega) (by omega)))) (Fr4.st (Fr4.tr i5 (Fr4.of3 hFT8))) (by omega) (by omega) (by omega) _ _ ls w (lv_sub hl [0, 1, 3, 4, 5] rfl)
          · refine lv_aload_n hx hb wdX1_perform_115 rfl (lv_at hl 4 rfl) ?_
            refine f_4_0 F w (a := ru) hku wtb_45 wdX1_perform_116 ?_
            refine lv_iconst (v := zI 1) hx hb wdX1_perform_119 rfl ?_
            refine g_iald F w (a := (ru + 1)) (kd_r1 hku) (j := 1) ⟨by decide, by decide⟩ (by omega) wdX1_perform_120 ?_
            refine r_val (v := (zI (P 1))) ((isU.fr i4 (hFT8.1 (ru + 1) (by omega) (by omega) (by omega))) 1 (by decide)) ?_
            refine lv_iconst (v := zI 1) hx hb wdX1_perform_121 rfl ?_
            refine z_icmp_ne (tgt := 129) hx hb (by omega) (by omega) wdX1_perform_122 (by decide) (fun c11 => ?_) (fun c11 => ?_)
            · refine lv_iconst (v := zI 0) hx hb wdX1_perform_129 rfl ?_
              refine lv_istore (lv' := [(4, .int (zI 0)), (3, .int (zI (((cc + dT8) : Nat) : Int))), (5, .int (zI (dT8 : Int))), (0, .ref (B + 23)), (1, .ref (B + ru)), (2, .ref (B + a))]) hx hb wdX1_perform_130 hl (by decide) rfl (fun ls hl => ?_)
              refine lv_aload_n hx hb wdX1_perform_132 rfl (lv_at hl 3 rfl) ?_
              refine lv_dup hx hb wdX1_perform_133 rfl ?_
              refine f_1_0 F w (a := 23) rfl wtb_89 wdX1_perform_134 ?_
              refine r_val (v := (zI (pp : Int))) (((congrFun (hFT8.1 23 (by omega) (by omega) (by omega)) 0).trans i3)) ?_
              refine lv_iconst (v := zI 1) hx hb wdX1_perform_137 rfl ?_
              refine z_iadd (z := (((pp + 1) : Nat) : Int)) hx hb wdX1_perform_138 (by omega) ?_
              refine u_1_0 F w (a := 23) rfl wtb_89 wdX1_perform_139 (fun H locs w => ?_)
              refine lv_goto (tgt := 10) hx hb wdX1_perform_142 (by decide) ?_
              exact ih (pp + 1) (cc + dT8) 0 (st Ma9 23 0 (zI (((pp + 1) : Nat) : Int))) oT8 (by omega) (CW.st23 hk hCT8) (by have h9 := pfI_n (f := 20 - (pp + 1)) (by rw [show 20 - (pp + 1) + 1 = 20 - pp by omega]; exact i2) (show mo = 1 by omega) eT8 (by omega); exact h9) st_at (isU.fr i4 ((st23_ne (by omega)).trans (hFT8.1 (ru + 1) (by omega) (by omega) (by omega)))) (Fr4.st (Fr4.tr i5 (Fr4.of3 hFT8))) (by omega) (by omega) (by omega) _ _ ls w (lv_sub hl [0, 1, 3, 4, 5] rfl)
            · refine lv_iconst (v := zI 1) hx hb wdX1_perform_125 rfl ?_
              refine lv_goto (tgt := 130) hx hb wdX1_perform_126 (by decide) ?_
              refine lv_istore (lv' := [(4, .int (zI 1)), (3, .int (zI (((cc + dT8) : Nat) : Int))), (5, .int (zI (dT8 : Int))), (0, .ref (B + 23)), (1, .ref (B + ru)), (2, .ref (B + a))]) hx hb wdX1_perform_130 hl (by decide) rfl (fun ls hl => ?_)
              refine lv_aload_n hx hb wdX1_perform_132 rfl (lv_at hl 3 rfl) ?_
              refine lv_dup hx hb wdX1_perform_133 rfl ?_
              refine f_1_0 F w (a := 23) rfl wtb_89 wdX1_perform_134 ?_
              refine r_val (v := (zI (pp : Int))) (((congrFun (hFT8.1 23 (by omega) (by omega) (by omega)) 0).trans i3)) ?_
              refine lv_iconst (v := zI 1) hx hb wdX1_perform_137 rfl ?_
              refine z_iadd (z := (((pp + 1) : Nat) : Int)) hx hb wdX1_perform_138 (by omega) ?_
              refine u_1_0 F w (a := 23) rfl wtb_89 wdX1_perform_139 (fun H locs w => ?_)
              refine lv_goto (tgt := 10) hx hb wdX1_perform_142 (by decide) ?_
              exact ih (pp + 1) (cc + dT8) 1 (st Ma9 23 0 (zI (((pp + 1) : Nat) : Int))) oT8 (by omega) (CW.st23 hk hCT8) (by have h9 := pfI_y (f := 20 - (pp + 1)) (by rw [show 20 - (pp + 1) + 1 = 20 - pp by omega]; exact i2) (show mo = 1 by omega) eT8 (by omega) (by omega); exact h9) st_at (isU.fr i4 ((st23_ne (by omega)).trans (hFT8.1 (ru + 1) (by omega) (by omega) (by omega)))) (Fr4.st (Fr4.tr i5 (Fr4.of3 hFT8))) (by omega) (by omega) (by omega) _ _ ls w (lv_sub hl [0, 1, 3, 4, 5] rfl)
        · refine r_val (v := zI 9) (congrArg zI c3) ?_
          refine lv_lookup (tgt := 86) (off := 56) hx hb wdX1_perform_30 (by decide) (by decide) (by decide) ?_
          refine lv_aload_n hx hb wdX1_perform_86 rfl (lv_at hl 2 rfl) ?_
          refine lv_aload_n hx hb wdX1_perform_87 rfl (lv_at hl 3 rfl) ?_
          refine lv_aload_n hx hb wdX1_perform_88 rfl (lv_at hl 4 rfl) ?_
          refine k_Vi F w (As := [.ref (B + ru), .ref (B + a)]) (rest := []) (a := 23) (kd_lt (a := 23) (show kd 23 = (1, 0, 0) from rfl) (by decide)) (sh_1 rfl _ _) rfl (u_pfill hk i1 hku i4 hG (by omega)) wgv_X1_28 whv_X1_passOfFill ⟨(by omega), (by omega)⟩ hl.1 rfl (Nat.le_of_ble_eq_true rfl) ⟨Nat.zero_le _, Nat.zero_le _⟩ wdX1_perform_89 (fun r Ma13 H locs hp w => ?_)
          rcases hp with ⟨oT12, dT12, eT12, rfl, hCT12, hFT12, hdT12⟩
          refine lv_istore (lv' := [(5, .int (zI (dT12 : Int))), (4, .int (zI (mo : Int))), (3, .int (zI (cc : Int))), (0, .ref (B + 23)), (1, .ref (B + ru)), (2, .ref (B + a))]) hx hb wdX1_perform_92 hl (by decide) rfl (fun ls hl => ?_)
          refine lv_goto (tgt := 105) hx hb wdX1_perform_94 (by decide) ?_
          refine lv_iload_n hx hb wdX1_perform_105 rfl (lv_at hl 2 rfl) ?_
          refine lv_iload hx hb wdX1_perform_106 (lv_at hl 0 rfl) ?_
          refine z_iadd (z := (((cc + dT12) : Nat) : Int)) hx hb wdX1_perform_108 (by omega) ?_
          refine lv_istore_n (lv' := [(3, .int (zI (((cc + dT12) : Nat) : Int))), (5, .int (zI (dT12 : Int))), (4, .int (zI (mo : Int))), (0, .ref (B + 23)), (1, .ref (B + ru)), (2, .ref (B + a))]) hx hb wdX1_perform_109 rfl hl (by decide) rfl (fun ls hl => ?_)
          refine lv_iload hx hb wdX1_perform_110 (lv_at hl 1 rfl) ?_
          refine z_if_le (tgt := 129) hx hb (by omega) wdX1_perform_112 (by decide) (fun c14 => ?_) (fun c14 => ?_)
          · refine lv_iconst (v := zI 0) hx hb wdX1_perform_129 rfl ?_
            refine lv_istore (lv' := [(4, .int (zI 0)), (3, .int (zI (((cc + dT12) : Nat) : Int))), (5, .int (zI (dT12 : Int))), (0, .ref (B + 23)), (1, .ref (B + ru)), (2, .ref (B + a))]) hx hb wdX1_perform_130 hl (by decide) rfl (fun ls hl => ?_)
            refine lv_aload_n hx hb wdX1_perform_132 rfl (lv_at hl 3 rfl) ?_
            refine lv_dup hx hb wdX1_perform_133 rfl ?_
            refine f_1_0 F w (a := 23) rfl wtb_89 wdX1_perform_134 ?_
            refine r_val (v := (zI (pp : Int))) (((congrFun (hFT12.1 23 (by omega) (by omega) (by omega)) 0).trans i3)) ?_
            refine lv_iconst (v := zI 1) hx hb wdX1_perform_137 rfl ?_
            refine z_iadd (z := (((pp + 1) : Nat) : Int)) hx hb wdX1_perform_138 (by omega) ?_
            refine u_1_0 F w (a := 23) rfl wtb_89 wdX1_perform_139 (fun H locs w => ?_)
            refine lv_goto (tgt := 10) hx hb wdX1_perform_142 (by decide) ?_
            exact ih (pp + 1) (cc + dT12) 0 (st Ma13 23 0 (zI (((pp + 1) : Nat) : Int))) oT12 (by omega) (CW.st23 hk hCT12) (by have h9 := pfI_n (f := 20 - (pp + 1)) (by rw [show 20 - (pp + 1) + 1 = 20 - pp by omega]; exact i2) (show mo = 1 by omega) eT12 (by omega); exact h9) st_at (isU.fr i4 ((st23_ne (by omega)).trans (hFT12.1 (ru + 1) (by omega) (by omega) (by omega)))) (Fr4.st (Fr4.tr i5 (Fr4.of3 hFT12))) (by omega) (by omega) (by omega) _ _ ls w (lv_sub hl [0, 1, 3, 4, 5] rfl)
          · refine lv_aload_n hx hb wdX1_perform_115 rfl (lv_at hl 4 rfl) ?_
            refine f_4_0 F w (a := ru) hku wtb_45 wdX1_perform_116 ?_
            refine lv_iconst (v := zI 1) hx hb wdX1_perform_119 rfl ?_
            refine g_iald F w (a := (ru + 1)) (kd_r1 hku) (j := 1) ⟨by decide, by decide⟩ (by omega) wdX1_perform_120 ?_
            refine r_val (v := (zI (P 1))) ((isU.fr i4 (hFT12.1 (ru + 1) (by omega) (by omega) (by omega))) 1 (by decide)) ?_
            refine lv_iconst (v := zI 1) hx hb wdX1_perform_121 rfl ?_
            refine z_icmp_ne (tgt := 129) hx hb (by omega) (by omega) wdX1_perform_122 (by decide) (fun c15 => ?_) (fun c15 => ?_)
            · refine lv_iconst (v := zI 0) hx hb wdX1_perform_129 rfl ?_
              refine lv_istore (lv' := [(4, .int (zI 0)), (3, .int (zI (((cc + dT12) : Nat) : Int))), (5, .int (zI (dT12 : Int))), (0, .ref (B + 23)), (1, .ref (B + ru)), (2, .ref (B + a))]) hx hb wdX1_perform_130 hl (by decide) rfl (fun ls hl => ?_)
              refine lv_aload_n hx hb wdX1_perform_132 rfl (lv_at hl 3 rfl) ?_
              refine lv_dup hx hb wdX1_perform_133 rfl ?_
              refine f_1_0 F w (a := 23) rfl wtb_89 wdX1_perform_134 ?_
              refine r_val (v := (zI (pp : Int))) (((congrFun (hFT12.1 23 (by omega) (by omega) (by omega)) 0).trans i3)) ?_
              refine lv_iconst (v := zI 1) hx hb wdX1_perform_137 rfl ?_
              refine z_iadd (z := (((pp + 1) : Nat) : Int)) hx hb wdX1_perform_138 (by omega) ?_
              refine u_1_0 F w (a := 23) rfl wtb_89 wdX1_perform_139 (fun H locs w => ?_)
              refine lv_goto (tgt := 10) hx hb wdX1_perform_142 (by decide) ?_
              exact ih (pp + 1) (cc + dT12) 0 (st Ma13 23 0 (zI (((pp + 1) : Nat) : Int))) oT12 (by omega) (CW.st23 hk hCT12) (by have h9 := pfI_n (f := 20 - (pp + 1)) (by rw [show 20 - (pp + 1) + 1 = 20 - pp by omega]; exact i2) (show mo = 1 by omega) eT12 (by omega); exact h9) st_at (isU.fr i4 ((st23_ne (by omega)).trans (hFT12.1 (ru + 1) (by omega) (by omega) (by omega)))) (Fr4.st (Fr4.tr i5 (Fr4.of3 hFT12))) (by omega) (by omega) (by omega) _ _ ls w (lv_sub hl [0, 1, 3, 4, 5] rfl)
            · refine lv_iconst (v := zI 1) hx hb wdX1_perform_125 rfl ?_
              refine lv_goto (tgt := 130) hx hb wdX1_perform_126 (by decide) ?_
              refine lv_istore (lv' := [(4, .int (zI 1)), (3, .int (zI (((cc + dT12) : Nat) : Int))), (5, .int (zI (dT12 : Int))), (0, .ref (B + 23)), (1, .ref (B + ru)), (2, .ref (B + a))]) hx hb wdX1_perform_130 hl (by decide) rfl (fun ls hl => ?_)
              refine lv_aload_n hx hb wdX1_perform_132 rfl (lv_at hl 3 rfl) ?_
              refine lv_dup hx hb wdX1_perform_133 rfl ?_
              refine f_1_0 F w (a := 23) rfl wtb_89 wdX1_perform_134 ?_
              refine r_val (v := (zI (pp : Int))) (((congrFun (hFT12.1 23 (by omega) (by omega) (by omega)) 0).trans i3)) ?_
              refine lv_iconst (v := zI 1) hx hb wdX1_perform_137 rfl ?_
              refine z_iadd (z := (((pp + 1) : Nat) : Int)) hx hb wdX1_perform_138 (by omega) ?_
              refine u_1_0 F w (a := 23) rfl wtb_89 wdX1_perform_139 (fun H locs w => ?_)
              refine lv_goto (tgt := 10) hx hb wdX1_perform_142 (by decide) ?_
              exact ih (pp + 1) (cc + dT12) 1 (st Ma13 23 0 (zI (((pp + 1) : Nat) : Int))) oT12 (by omega) (CW.st23 hk hCT12) (by have h9 := pfI_y (f := 20 - (pp + 1)) (by rw [show 20 - (pp + 1) + 1 = 20 - pp by omega]; exact i2) (show mo = 1 by omega) eT12 (by omega) (by omega); exact h9) st_at (isU.fr i4 ((st23_ne (by omega)).trans (hFT12.1 (ru + 1) (by omega) (by omega) (by omega)))) (Fr4.st (Fr4.tr i5 (Fr4.of3 hFT12))) (by omega) (by omega) (by omega) _ _ ls w (lv_sub hl [0, 1, 3, 4, 5] rfl)
        · refine lv_lookup (tgt := 97) (off := 67) hx hb wdX1_perform_30 (by decide) (by rw [zI_toInt (by omega)]; rw [Op.lookupswitch.offset_cons, if_neg (by omega)]; rw [Op.lookupswitch.offset_cons, if_neg (by omega)]; rw [Op.lookupswitch.offset_cons, if_neg (by omega)]; rfl) (by decide) ?_
          refine lv_aload_n hx hb wdX1_perform_97 rfl (lv_at hl 2 rfl) ?_
          refine lv_aload_n hx hb wdX1_perform_98 rfl (lv_at hl 3 rfl) ?_
          refine lv_aload_n hx hb wdX1_perform_99 rfl (lv_at hl 4 rfl) ?_
          refine k_Vi F w (As := [.ref (B + ru), .ref (B + a)]) (rest := []) (a := 23) (kd_lt (a := 23) (show kd 23 = (1, 0, 0) from rfl) (by decide)) (sh_1 rfl _ _) rfl (u_pover hk i1 hku i4 hG (by omega)) wgv_X1_31 whv_X1_passOverTones ⟨(by omega), (by omega)⟩ hl.1 rfl (Nat.le_of_ble_eq_true rfl) ⟨Nat.zero_le _, Nat.zero_le _⟩ wdX1_perform_100 (fun r Ma17 H locs hp w => ?_)
          rcases hp with ⟨oT16, dT16, eT16, rfl, hCT16, hFT16, hdT16⟩
          refine lv_istore (lv' := [(5, .int (zI (dT16 : Int))), (4, .int (zI (mo : Int))), (3, .int (zI (cc : Int))), (0, .ref (B + 23)), (1, .ref (B + ru)), (2, .ref (B + a))]) hx hb wdX1_perform_103 hl (by decide) rfl (fun ls hl => ?_)
          refine lv_iload_n hx hb wdX1_perform_105 rfl (lv_at hl 2 rfl) ?_
          refine lv_iload hx hb wdX1_perform_106 (lv_at hl 0 rfl) ?_
          refine z_iadd (z := (((cc + dT16) : Nat) : Int)) hx hb wdX1_perform_108 (by omega) ?_
          refine lv_istore_n (lv' := [(3, .int (zI (((cc + dT16) : Nat) : Int))), (5, .int (zI (dT16 : Int))), (4, .int (zI (mo : Int))), (0, .ref (B + 23)), (1, .ref (B + ru)), (2, .ref (B + a))]) hx hb wdX1_perform_109 rfl hl (by decide) rfl (fun ls hl => ?_)
          refine lv_iload hx hb wdX1_perform_110 (lv_at hl 1 rfl) ?_
          refine z_if_le (tgt := 129) hx hb (by omega) wdX1_perform_112 (by decide) (fun c18 => ?_) (fun c18 => ?_)
          · refine lv_iconst (v := zI 0) hx hb wdX1_perform_129 rfl ?_
            refine lv_istore (lv' := [(4, .int (zI 0)), (3, .int (zI (((cc + dT16) : Nat) : Int))), (5, .int (zI (dT16 : Int))), (0, .ref (B + 23)), (1, .ref (B + ru)), (2, .ref (B + a))]) hx hb wdX1_perform_130 hl (by decide) rfl (fun ls hl => ?_)
            refine lv_aload_n hx hb wdX1_perform_132 rfl (lv_at hl 3 rfl) ?_
            refine lv_dup hx hb wdX1_perform_133 rfl ?_
            refine f_1_0 F w (a := 23) rfl wtb_89 wdX1_perform_134 ?_
            refine r_val (v := (zI (pp : Int))) (((congrFun (hFT16.1 23 (by omega) (by omega) (by omega)) 0).trans i3)) ?_
            refine lv_iconst (v := zI 1) hx hb wdX1_perform_137 rfl ?_
            refine z_iadd (z := (((pp + 1) : Nat) : Int)) hx hb wdX1_perform_138 (by omega) ?_
            refine u_1_0 F w (a := 23) rfl wtb_89 wdX1_perform_139 (fun H locs w => ?_)
            refine lv_goto (tgt := 10) hx hb wdX1_perform_142 (by decide) ?_
            exact ih (pp + 1) (cc + dT16) 0 (st Ma17 23 0 (zI (((pp + 1) : Nat) : Int))) oT16 (by omega) (CW.st23 hk hCT16) (by have h9 := pfI_n (f := 20 - (pp + 1)) (by rw [show 20 - (pp + 1) + 1 = 20 - pp by omega]; exact i2) (show mo = 1 by omega) eT16 (by omega); exact h9) st_at (isU.fr i4 ((st23_ne (by omega)).trans (hFT16.1 (ru + 1) (by omega) (by omega) (by omega)))) (Fr4.st (Fr4.tr i5 (Fr4.of3 hFT16))) (by omega) (by omega) (by omega) _ _ ls w (lv_sub hl [0, 1, 3, 4, 5] rfl)
          · refine lv_aload_n hx hb wdX1_perform_115 rfl (lv_at hl 4 rfl) ?_
            refine f_4_0 F w (a := ru) hku wtb_45 wdX1_perform_116 ?_
            refine lv_iconst (v := zI 1) hx hb wdX1_perform_119 rfl ?_
            refine g_iald F w (a := (ru + 1)) (kd_r1 hku) (j := 1) ⟨by decide, by decide⟩ (by omega) wdX1_perform_120 ?_
            refine r_val (v := (zI (P 1))) ((isU.fr i4 (hFT16.1 (ru + 1) (by omega) (by omega) (by omega))) 1 (by decide)) ?_
            refine lv_iconst (v := zI 1) hx hb wdX1_perform_121 rfl ?_
            refine z_icmp_ne (tgt := 129) hx hb (by omega) (by omega) wdX1_perform_122 (by decide) (fun c19 => ?_) (fun c19 => ?_)
            · refine lv_iconst (v := zI 0) hx hb wdX1_perform_129 rfl ?_
              refine lv_istore (lv' := [(4, .int (zI 0)), (3, .int (zI (((cc + dT16) : Nat) : Int))), (5, .int (zI (dT16 : Int))), (0, .ref (B + 23)), (1, .ref (B + ru)), (2, .ref (B + a))]) hx hb wdX1_perform_130 hl (by decide) rfl (fun ls hl => ?_)
              refine lv_aload_n hx hb wdX1_perform_132 rfl (lv_at hl 3 rfl) ?_
              refine lv_dup hx hb wdX1_perform_133 rfl ?_
              refine f_1_0 F w (a := 23) rfl wtb_89 wdX1_perform_134 ?_
              refine r_val (v := (zI (pp : Int))) (((congrFun (hFT16.1 23 (by omega) (by omega) (by omega)) 0).trans i3)) ?_
              refine lv_iconst (v := zI 1) hx hb wdX1_perform_137 rfl ?_
              refine z_iadd (z := (((pp + 1) : Nat) : Int)) hx hb wdX1_perform_138 (by omega) ?_
              refine u_1_0 F w (a := 23) rfl wtb_89 wdX1_perform_139 (fun H locs w => ?_)
              refine lv_goto (tgt := 10) hx hb wdX1_perform_142 (by decide) ?_
              exact ih (pp + 1) (cc + dT16) 0 (st Ma17 23 0 (zI (((pp + 1) : Nat) : Int))) oT16 (by omega) (CW.st23 hk hCT16) (by have h9 := pfI_n (f := 20 - (pp + 1)) (by rw [show 20 - (pp + 1) + 1 = 20 - pp by omega]; exact i2) (show mo = 1 by omega) eT16 (by omega); exact h9) st_at (isU.fr i4 ((st23_ne (by omega)).trans (hFT16.1 (ru + 1) (by omega) (by omega) (by omega)))) (Fr4.st (Fr4.tr i5 (Fr4.of3 hFT16))) (by omega) (by omega) (by omega) _ _ ls w (lv_sub hl [0, 1, 3, 4, 5] rfl)
            · refine lv_iconst (v := zI 1) hx hb wdX1_perform_125 rfl ?_
              refine lv_goto (tgt := 130) hx hb wdX1_perform_126 (by decide) ?_
              refine lv_istore (lv' := [(4, .int (zI 1)), (3, .int (zI (((cc + dT16) : Nat) : Int))), (5, .int (zI (dT16 : Int))), (0, .ref (B + 23)), (1, .ref (B + ru)), (2, .ref (B + a))]) hx hb wdX1_perform_130 hl (by decide) rfl (fun ls hl => ?_)
              refine lv_aload_n hx hb wdX1_perform_132 rfl (lv_at hl 3 rfl) ?_
              refine lv_dup hx hb wdX1_perform_133 rfl ?_
              refine f_1_0 F w (a := 23) rfl wtb_89 wdX1_perform_134 ?_
              refine r_val (v := (zI (pp : Int))) (((congrFun (hFT16.1 23 (by omega) (by omega) (by omega)) 0).trans i3)) ?_
              refine lv_iconst (v := zI 1) hx hb wdX1_perform_137 rfl ?_
              refine z_iadd (z := (((pp + 1) : Nat) : Int)) hx hb wdX1_perform_138 (by omega) ?_
              refine u_1_0 F w (a := 23) rfl wtb_89 wdX1_perform_139 (fun H locs w => ?_)
              refine lv_goto (tgt := 10) hx hb wdX1_perform_142 (by decide) ?_
              exact ih (pp + 1) (cc + dT16) 1 (st Ma17 23 0 (zI (((pp + 1) : Nat) : Int))) oT16 (by omega) (CW.st23 hk hCT16) (by have h9 := pfI_y (f := 20 - (pp + 1)) (by rw [show 20 - (pp + 1) + 1 = 20 - pp by omega]; exact i2) (show mo = 1 by omega) eT16 (by omega) (by omega); exact h9) st_at (isU.fr i4 ((st23_ne (by omega)).trans (hFT16.1 (ru + 1) (by omega) (by omega) (by omega)))) (Fr4.st (Fr4.tr i5 (Fr4.of3 hFT16))) (by omega) (by omega) (by omega) _ _ ls w (lv_sub hl [0, 1, 3, 4, 5] rfl)
theorem wdX1_perform_0 : decode cX1_perform 0 = .ok (.iconst 0, 1) := dq0 kk_3 (by decide +kernel)
theorem wdX1_perform_1 : decode cX1_perform 1 = .ok (.istore_n 3, 1) := dq0 kk_62 (by decide +kernel)
theorem wdX1_perform_2 : decode cX1_perform 2 = .ok (.iconst 1, 1) := dq0 kk_4 (by decide +kernel)
theorem wdX1_perform_3 : decode cX1_perform 3 = .ok (.istore 4, 2) := dqU kk_54 (by decide +kernel)
theorem wdX1_perform_5 : decode cX1_perform 5 = .ok (.aload_n 0, 1) := dq0 kk_42 (by decide +kernel)
theorem wdX1_perform_6 : decode cX1_perform 6 = .ok (.iconst 0, 1) := dq0 kk_3 (by decide +kernel)
theorem wdX1_perform_7 : decode cX1_perform 7 = .ok (.putfield 9, 3) := dqV kk_181 (by decide +kernel)
theorem wdX1_perform_145 : decode cX1_perform 145 = .ok (.iload_n 3, 1) := dq0 kk_29 (by decide +kernel)
theorem wdX1_perform_146 : decode cX1_perform 146 = .ok (.ireturn, 1) := dq0 kk_172 (by decide +kernel)
set_option maxRecDepth 4000 in
theorem s_X1_perform {l : Launch} {D : va_G} {B : Nat} {cy : Nat → ClassId} {M : Mem} {a q hv ed : Nat} {o : Wo} (hk : kd a = (9, 0, 0)) (hC : CW M a q hv ed o) {ru : Nat} {P : Nat → Int} (hku : kd ru = (4, 0, 0)) (hU : isU M ru P) (hG : okG P) : Ci l D B cy yX1_perform cX1_perform 6 (some .int) 4 108 [.ref (B + 23), .ref (B + ru), .ref (B + a)] M (fun r M1 => PQ a q hv ed (pfF P q hv ed 20 o) M r M1) := by
  refine s_any (by decide) (Nat.le_of_ble_eq_true rfl) ?_
  intro p e s m below meth c ls F hr hlocks w hl
  have F : CallFix p m c cX1_perform 6 s _ TB RX1 := F
  have hx := F.1
  have hb := F.2.1
  have hl : lv_has ls 6 [(0, .ref (B + 23)), (1, .ref (B + ru)), (2, .ref (B + a))] := hl
  have hge := kd9_ge hk
  have hle := kd4_le hku
  have hP := hG.1
  have hP0 := hP 0 (by decide)
  have hP1 := hP 1 (by decide)
  refine lv_iconst (v := zI 0) hx hb wdX1_perform_0 rfl ?_
  refine lv_istore_n (lv' := [(3, .int (zI 0)), (0, .ref (B + 23)), (1, .ref (B + ru)), (2, .ref (B + a))]) hx hb wdX1_perform_1 rfl hl (by decide) rfl (fun ls hl => ?_)
  refine lv_iconst (v := zI 1) hx hb wdX1_perform_2 rfl ?_
  refine lv_istore (lv' := [(4, .int (zI 1)), (3, .int (zI 0)), (0, .ref (B + 23)), (1, .ref (B + ru)), (2, .ref (B + a))]) hx hb wdX1_perform_3 hl (by decide) rfl (fun ls hl => ?_)
  refine lv_aload_n hx hb wdX1_perform_5 rfl (lv_at hl 2 rfl) ?_
  refine lv_iconst (v := zI 0) hx hb wdX1_perform_6 rfl ?_
  refine u_1_0 F w (a := 23) rfl wtb_89 wdX1_perform_7 (fun H locs w => ?_)
  refine lp_X1_perform  F (Nat.le_of_ble_eq_true rfl) (Nat.le_of_ble_eq_true rfl) hk hku hG (fun pp cc mo Nm o1 H locs ls x0 x1 x2 x3 x4 x5 w hl => ?_) 20 0 0 1 (st M 23 0 (zI 0)) o (by omega) (CW.st23 hk hC) pfI_0 st_at (isU.fr hU (st23_ne (by omega))) (Fr4.st Fr4.rf) (by omega) (by omega) (by omega) _ _ ls w (lv_sub hl [0, 1, 2, 3, 4] rfl)
  refine lv_iload_n hx hb wdX1_perform_145 rfl (lv_at hl 0 rfl) ?_
  exact e_i F w hr hlocks ⟨o1, cc, pp, x1, rfl, x0, x2, x3, x4, x5⟩ wdX1_perform_146
