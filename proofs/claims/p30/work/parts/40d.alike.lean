-- acts with words that are alike
theorem sbit_bit {m j x i : Nat} : (sbit m j x).testBit i = if i = j then !(x == 0) else m.testBit i := by
  unfold sbit
  by_cases h : x = 0
  · subst h
    rw [if_pos rfl, andn_bit]
    by_cases h1 : i = j
    · subst h1; rw [if_pos rfl, Nat.testBit_two_pow_self]; simp
    · rw [if_neg h1, Nat.testBit_two_pow_of_ne (fun q => h1 q.symm)]; simp
  · rw [if_neg h, Nat.testBit_or]
    by_cases h1 : i = j
    · subst h1; rw [if_pos rfl, Nat.testBit_two_pow_self]; simp [h]
    · rw [if_neg h1, Nat.testBit_two_pow_of_ne (fun q => h1 q.symm)]; simp
theorem lkB.sb {q j x m n : Nat} (h : lkB q m n) : lkB q (sbit m j x) (sbit n j x) := fun i hi => by rw [sbit_bit, sbit_bit, h i hi]
theorem lkB.sg {q x m n : Nat} (h : lkB q m n) : lkB (q + 1) (sbit m q x) (sbit n q x) := fun i hi => by
  rw [sbit_bit, sbit_bit]
  by_cases h1 : i = q
  · rw [if_pos h1, if_pos h1]
  · rw [if_neg h1, if_neg h1]; exact h i (by omega)
theorem lkB.sh {q x m n : Nat} (h : lkB q m n) : lkB (q - 1) m (sbit n (q - 1) x) := fun i hi => by
  rw [sbit_bit, if_neg (by omega)]; exact h i (by omega)
theorem tb_l {q j m n : Nat} (h : lkB q m n) (hj : j < q) : tb m j = tb n j := by
  unfold tb
  rw [h j hj]
def alO (a b : Option Fw) : Prop := (∃ x y, a = some x ∧ b = some y ∧ alF x y) ∨ (a = none ∧ b = none)
theorem alO_I {c c2 : Prop} {x y : Fw} (hc : c ↔ c2) (h : alF x y) : alO (acI c x) (acI c2 y) := by
  by_cases h1 : c
  · exact Or.inl ⟨x, y, acI_y h1, acI_y (hc.mp h1), h⟩
  · exact Or.inr ⟨acI_n h1, acI_n (fun q => h1 (hc.mpr q))⟩
section Alike
variable {q hv ed hv2 ed2 : Nat} {o : Wo}
theorem al_line (h1 : lkB q hv hv2) (h2 : lkB q ed ed2) {t u : Int} : alO (acLine t u (q, hv, ed, o)) (acLine t u (q, hv2, ed2, o)) := alO_I Iff.rfl (alF.e h1 h2)
theorem al_cut (h1 : lkB q hv hv2) (h2 : lkB q ed ed2) {t u : Int} : alO (acCut t u (q, hv, ed, o)) (acCut t u (q, hv2, ed2, o)) := alO_I Iff.rfl (alF.e h1 h2)
theorem al_tone (h1 : lkB q hv hv2) (h2 : lkB q ed ed2) {t u : Int} : alO (acTone t u (q, hv, ed, o)) (acTone t u (q, hv2, ed2, o)) := alO_I Iff.rfl (alF.e h1 h2)
theorem al_hush (h1 : lkB q hv hv2) (h2 : lkB q ed ed2) {t : Int} : alO (acHush t (q, hv, ed, o)) (acHush t (q, hv2, ed2, o)) := alO_I Iff.rfl (alF.e h1 h2)
theorem al_turn (h1 : lkB q hv hv2) (h2 : lkB q ed ed2) {t u : Int} : alO (acTurn t u (q, hv, ed, o)) (acTurn t u (q, hv2, ed2, o)) := alO_I Iff.rfl (alF.e h1 h2)
theorem al_grow (h1 : lkB q hv hv2) (h2 : lkB q ed ed2) {h e : Nat} : alO (acGrow h e (q, hv, ed, o)) (acGrow h e (q, hv2, ed2, o)) := alO_I Iff.rfl (alF.e h1.sg h2.sg)
theorem al_shrink (h1 : lkB q hv hv2) (h2 : lkB q ed ed2) : alO (acShrink (q, hv, ed, o)) (acShrinkR (q, hv2, ed2, o)) := alO_I Iff.rfl (alF.e h1.sh h2.sh)
theorem al_mark (h1 : lkB q hv hv2) (h2 : lkB q ed ed2) {u : Int} {h e : Nat} : alO (acMark u h e (q, hv, ed, o)) (acMark u h e (q, hv2, ed2, o)) := by
  refine alO_I ?_ (alF.e h1.sb h2.sb)
  show (0 ≤ u ∧ u < (q : Int) ∧ ¬ (tb hv u.toNat = h ∧ tb ed u.toNat = e)) ↔ (0 ≤ u ∧ u < (q : Int) ∧ ¬ (tb hv2 u.toNat = h ∧ tb ed2 u.toNat = e))
  constructor
  · rintro ⟨a, b, c⟩
    rw [tb_l h1 (by omega), tb_l h2 (by omega)] at c
    exact ⟨a, b, c⟩
  · rintro ⟨a, b, c⟩
    rw [← tb_l h1 (by omega), ← tb_l h2 (by omega)] at c
    exact ⟨a, b, c⟩
end Alike
/-- a rule done by hand: the word that comes, if it changes -/
noncomputable def dsO (Ps : Nat → Nat → Int) (m : Nat) (r : Int) (x : Fw) : Option Fw := acI (0 ≤ r ∧ r < (m : Int) ∧ 0 < (pfF (Ps r.toNat) x.1 x.2.1 x.2.2.1 20 x.2.2.2).2.1) (x.1, x.2.1, x.2.2.1, (pfF (Ps r.toNat) x.1 x.2.1 x.2.2.1 20 x.2.2.2).1)
noncomputable def dsR (Ps : Nat → Nat → Int) (m : Nat) (r : Int) (x : Fw) : Int := if 0 ≤ r ∧ r < (m : Int) then (((pfF (Ps r.toNat) x.1 x.2.1 x.2.2.1 20 x.2.2.2).2.1 : Nat) : Int) else -1
theorem dsR_y {Ps : Nat → Nat → Int} {m rn dd pp : Nat} {x : Fw} {o2 : Wo} (h : rn < m) (e : pfF (Ps rn) x.1 x.2.1 x.2.2.1 20 x.2.2.2 = (o2, dd, pp)) : dsR Ps m (rn : Int) x = (dd : Int) := by
  unfold dsR
  rw [if_pos (by omega), Int.toNat_natCast, e]
theorem dsR_n {Ps : Nat → Nat → Int} {m : Nat} {r : Int} {x : Fw} (h : ¬ (0 ≤ r ∧ r < (m : Int))) : dsR Ps m r x = -1 := by
  unfold dsR
  rw [if_neg h]
theorem dsO_y {Ps : Nat → Nat → Int} {m rn dd pp : Nat} {x : Fw} {o2 : Wo} (h : rn < m) (e : pfF (Ps rn) x.1 x.2.1 x.2.2.1 20 x.2.2.2 = (o2, dd, pp)) (hd : 0 < dd) : dsO Ps m (rn : Int) x = some (x.1, x.2.1, x.2.2.1, o2) := by
  unfold dsO
  rw [Int.toNat_natCast, e]
  exact acI_y ⟨by omega, by omega, hd⟩
theorem dsO_z {Ps : Nat → Nat → Int} {m rn dd pp : Nat} {x : Fw} {o2 : Wo} (e : pfF (Ps rn) x.1 x.2.1 x.2.2.1 20 x.2.2.2 = (o2, dd, pp)) (hd : dd = 0) : dsO Ps m (rn : Int) x = none := by
  unfold dsO
  rw [Int.toNat_natCast, e]
  refine acI_n ?_
  rintro ⟨_, _, h⟩
  have h : 0 < dd := h
  omega
theorem dsO_n {Ps : Nat → Nat → Int} {m : Nat} {r : Int} {x : Fw} (h : ¬ (0 ≤ r ∧ r < (m : Int))) : dsO Ps m r x = none := by
  unfold dsO
  exact acI_n (fun q => h ⟨q.1, q.2.1⟩)
theorem al_does {Ps : Nat → Nat → Int} {m q hv ed hv2 ed2 : Nat} {o : Wo} (hG : ∀ j, j < m → okG (Ps j)) (hk : okW q o) (h1 : lkB q hv hv2) (h2 : lkB q ed ed2) {r : Int} : alO (dsO Ps m r (q, hv, ed, o)) (dsO Ps m r (q, hv2, ed2, o)) ∧ dsR Ps m r (q, hv, ed, o) = dsR Ps m r (q, hv2, ed2, o) := by
  by_cases h : 0 ≤ r ∧ r < (m : Int)
  · have e := (pfF_l (hG r.toNat (by omega)) h1 h2 20 o hk).1
    refine ⟨?_, ?_⟩
    · unfold dsO
      show alO (acI (0 ≤ r ∧ r < (m : Int) ∧ 0 < (pfF (Ps r.toNat) q hv ed 20 o).2.1) (q, hv, ed, (pfF (Ps r.toNat) q hv ed 20 o).1)) (acI (0 ≤ r ∧ r < (m : Int) ∧ 0 < (pfF (Ps r.toNat) q hv2 ed2 20 o).2.1) (q, hv2, ed2, (pfF (Ps r.toNat) q hv2 ed2 20 o).1))
      rw [e]
      exact alO_I Iff.rfl (alF.e h1 h2)
    · unfold dsR
      show (if 0 ≤ r ∧ r < (m : Int) then (((pfF (Ps r.toNat) q hv ed 20 o).2.1 : Nat) : Int) else -1) = (if 0 ≤ r ∧ r < (m : Int) then (((pfF (Ps r.toNat) q hv2 ed2 20 o).2.1 : Nat) : Int) else -1)
      rw [e]
  · exact ⟨Or.inr ⟨dsO_n h, dsO_n h⟩, (dsR_n h).trans (dsR_n h).symm⟩
/-- all rules done by hand -/
noncomputable def dvO (Ps : Nat → Nat → Int) (m : Nat) (r : Int) (x : Fw) : Option Fw := acI (0 ≤ r ∧ r ≤ (m : Int) ∧ 0 < dv2 Ps x r.toNat) (x.1, x.2.1, x.2.2.1, sg9 Ps x r.toNat)
noncomputable def dvR (Ps : Nat → Nat → Int) (m : Nat) (r : Int) (x : Fw) : Int := if 0 ≤ r ∧ r ≤ (m : Int) then ((dv2 Ps x r.toNat : Nat) : Int) else -1
theorem dvR_y {Ps : Nat → Nat → Int} {m nn : Nat} {x : Fw} (h : nn ≤ m) : dvR Ps m (nn : Int) x = ((dv2 Ps x nn : Nat) : Int) := by
  unfold dvR
  rw [if_pos (by omega), Int.toNat_natCast]
theorem dvR_n {Ps : Nat → Nat → Int} {m : Nat} {r : Int} {x : Fw} (h : ¬ (0 ≤ r ∧ r ≤ (m : Int))) : dvR Ps m r x = -1 := by
  unfold dvR
  rw [if_neg h]
theorem dvO_y {Ps : Nat → Nat → Int} {m nn : Nat} {x : Fw} (h : nn ≤ m) (hd : 0 < dv2 Ps x nn) : dvO Ps m (nn : Int) x = some (x.1, x.2.1, x.2.2.1, sg9 Ps x nn) := by
  unfold dvO
  rw [Int.toNat_natCast]
  exact acI_y ⟨by omega, by omega, hd⟩
theorem dvO_z {Ps : Nat → Nat → Int} {m nn : Nat} {x : Fw} (hd : dv2 Ps x nn = 0) : dvO Ps m (nn : Int) x = none := by
  unfold dvO
  rw [Int.toNat_natCast]
  exact acI_n (fun q => by have := q.2.2; omega)
theorem dvO_n {Ps : Nat → Nat → Int} {m : Nat} {r : Int} {x : Fw} (h : ¬ (0 ≤ r ∧ r ≤ (m : Int))) : dvO Ps m r x = none := by
  unfold dvO
  exact acI_n (fun q => h ⟨q.1, q.2.1⟩)
theorem sg9_l {Ps : Nat → Nat → Int} {m n q hv ed hv2 ed2 : Nat} {o : Wo} (hG : ∀ j, j < m → okG (Ps j)) (hk : okW q o) (h1 : lkB q hv hv2) (h2 : lkB q ed ed2) (hn : n ≤ m) : sg9 Ps (q, hv, ed, o) n = sg9 Ps (q, hv2, ed2, o) n ∧ dv2 Ps (q, hv, ed, o) n = dv2 Ps (q, hv2, ed2, o) n := by
  have e := (dvF_l h1 h2 hk n (fun j hj => hG j (by omega))).1
  refine ⟨?_, ?_⟩
  · show (dvF Ps q hv ed n o).1 = (dvF Ps q hv2 ed2 n o).1
    rw [e]
  · show (dvF Ps q hv ed n o).2 = (dvF Ps q hv2 ed2 n o).2
    rw [e]
theorem al_derive {Ps : Nat → Nat → Int} {m q hv ed hv2 ed2 : Nat} {o : Wo} (hG : ∀ j, j < m → okG (Ps j)) (hk : okW q o) (h1 : lkB q hv hv2) (h2 : lkB q ed ed2) {r : Int} : alO (dvO Ps m r (q, hv, ed, o)) (dvO Ps m r (q, hv2, ed2, o)) ∧ dvR Ps m r (q, hv, ed, o) = dvR Ps m r (q, hv2, ed2, o) := by
  by_cases h : 0 ≤ r ∧ r ≤ (m : Int)
  · have e := sg9_l hG hk h1 h2 (show r.toNat ≤ m by omega)
    refine ⟨?_, ?_⟩
    · unfold dvO
      rw [e.1, e.2]
      exact alO_I Iff.rfl (alF.e h1 h2)
    · unfold dvR
      rw [e.2]
  · exact ⟨Or.inr ⟨dvO_n h, dvO_n h⟩, (dvR_n h).trans (dvR_n h).symm⟩
-- words and acts behind a call
def rvO (ac : Option Fw) (ry rn : Int) : Int := match ac with
  | some _ => ry
  | none => rn
def AP (ac : Option Fw) (x : Fw) (Hs : Nat → Fw) (k : Nat) (x1 : Fw) (H1 : Nat → Fw) (k1 : Nat) : Prop := (ac = some x1 ∧ H1 = phH Hs k x ∧ k1 = phK k) ∨ (ac = none ∧ x1 = x ∧ H1 = Hs ∧ k1 = k)
def alH (k : Nat) (Hs Gs : Nat → Fw) : Prop := ∀ j, j < k → alF (Hs j) (Gs j)
theorem alH.ph {k : Nat} {Hs Gs : Nat → Fw} {x y : Fw} (hx : alF x y) (h : alH k Hs Gs) (hk : k ≤ 12) : alH (phK k) (phH Hs k x) (phH Gs k y) := by
  unfold phK phH
  by_cases h1 : k < 12
  · rw [if_pos h1, if_pos h1, if_pos h1]
    intro j hj
    show alF (if j = k then x else Hs j) (if j = k then y else Gs j)
    by_cases h2 : j = k
    · rw [if_pos h2, if_pos h2]; exact hx
    · rw [if_neg h2, if_neg h2]; exact h j (by omega)
  · rw [if_neg h1, if_neg h1, if_neg h1]
    intro j hj
    show alF (if j = 11 then x else Hs (j + 1)) (if j = 11 then y else Gs (j + 1))
    by_cases h2 : j = 11
    · rw [if_pos h2, if_pos h2]; exact hx
    · rw [if_neg h2, if_neg h2]; exact h (j + 1) (by omega)
theorem AP.al {ac ac2 : Option Fw} {x y x1 y1 : Fw} {Hs Gs H1 G1 : Nat → Fw} {k k1 k2 : Nat} (hk : k ≤ 12) (ha : alO ac ac2) (hx : alF x y) (hh : alH k Hs Gs) (h1 : AP ac x Hs k x1 H1 k1) (h2 : AP ac2 y Gs k y1 G1 k2) : alF x1 y1 ∧ k1 = k2 ∧ alH k1 H1 G1 ∧ ∀ ry rn, rvO ac ry rn = rvO ac2 ry rn := by
  rcases ha with ⟨a, b, e1, e2, hab⟩ | ⟨e1, e2⟩
  · subst e1; subst e2
    rcases h1 with ⟨f1, rfl, rfl⟩ | ⟨f1, _⟩
    · rcases h2 with ⟨f2, rfl, rfl⟩ | ⟨f2, _⟩
      · cases f1; cases f2
        exact ⟨hab, rfl, hh.ph hx hk, fun _ _ => rfl⟩
      · cases f2
    · cases f1
  · subst e1; subst e2
    rcases h1 with ⟨f1, _⟩ | ⟨_, rfl, rfl, rfl⟩
    · cases f1
    · rcases h2 with ⟨f2, _⟩ | ⟨_, rfl, rfl, rfl⟩
      · cases f2
      · exact ⟨hx, rfl, hh, fun _ _ => rfl⟩
/-- undo -/
def UP (x : Fw) (Hs : Nat → Fw) (k : Nat) (x1 : Fw) (k1 : Nat) (r : Int32) : Prop := (1 ≤ k ∧ x1 = Hs (k - 1) ∧ k1 = k - 1 ∧ r = zI ((k - 1 : Nat) : Int)) ∨ (k = 0 ∧ x1 = x ∧ k1 = k ∧ r = zI (-1))
theorem UP.al {x y x1 y1 : Fw} {Hs Gs : Nat → Fw} {k k1 k2 : Nat} {r r2 : Int32} (hx : alF x y) (hh : alH k Hs Gs) (h1 : UP x Hs k x1 k1 r) (h2 : UP y Gs k y1 k2 r2) : alF x1 y1 ∧ k1 = k2 ∧ alH k1 Hs Gs ∧ r = r2 := by
  rcases h1 with ⟨a, rfl, rfl, rfl⟩ | ⟨a, rfl, rfl, rfl⟩ <;> rcases h2 with ⟨b, rfl, rfl, rfl⟩ | ⟨b, rfl, rfl, rfl⟩
  · exact ⟨hh _ (by omega), rfl, fun j hj => hh j (by omega), rfl⟩
  · omega
  · omega
  · exact ⟨hx, rfl, hh, rfl⟩
/-- word -/
def WP (T : Nat → Nat) (n : Nat) (x : Fw) (k : Nat) (x1 : Fw) (k1 : Nat) : Prop := (wdF T n = some x1 ∧ k1 = 0) ∨ (wdF T n = none ∧ x1 = x ∧ k1 = k)
theorem WP.al {T : Nat → Nat} {n : Nat} {x y x1 y1 : Fw} {Hs Gs : Nat → Fw} {k k1 k2 : Nat} (hx : alF x y) (hh : alH k Hs Gs) (h1 : WP T n x k x1 k1) (h2 : WP T n y k y1 k2) : alF x1 y1 ∧ k1 = k2 ∧ alH k1 Hs Gs := by
  rcases h1 with ⟨a, rfl⟩ | ⟨a, rfl, rfl⟩ <;> rcases h2 with ⟨b, rfl⟩ | ⟨b, rfl, rfl⟩
  · rw [a] at b; cases b
    exact ⟨alF.rf, rfl, fun j hj => absurd hj (Nat.not_lt_zero j)⟩
  · rw [a] at b; cases b
  · rw [a] at b; cases b
  · exact ⟨hx, rfl, hh⟩
/-- rules -/
def RP (T : Nat → Nat) (n : Nat) (Ps : Nat → Nat → Int) (m : Nat) (P1 : Nat → Nat → Int) (m1 : Nat) : Prop := (rlE T n m1 ∧ P1 = fun j => (rdR T n (bI T n j)).2.2) ∨ ((∃ (m9 : Nat) (z9 : Int), rlF T n m9 z9) ∧ P1 = Ps ∧ m1 = m)
theorem RP.al {T : Nat → Nat} {n : Nat} {Ps P1 P2 : Nat → Nat → Int} {m m1 m2 : Nat} (h1 : RP T n Ps m P1 m1) (h2 : RP T n Ps m P2 m2) : P1 = P2 ∧ m1 = m2 := by
  rcases h1 with ⟨a, rfl⟩ | ⟨⟨m9, z9, a⟩, rfl, rfl⟩ <;> rcases h2 with ⟨b, rfl⟩ | ⟨⟨m8, z8, b⟩, rfl, rfl⟩
  · exact ⟨rfl, rlE_u a b⟩
  · exact (rlEF a b).elim
  · exact (rlEF b a).elim
  · exact ⟨rfl, rfl⟩
theorem okG_E {T : Nat → Nat} {n m : Nat} (h : rlE T n m) : ∀ j, j < m → okG (rdR T n (bI T n j)).2.2 := fun j hj => okG_R (h.2.1 j hj).2
theorem zI_in {a b : Int} (ha : -2147483648 ≤ a ∧ a ≤ 2147483647) (hb : -2147483648 ≤ b ∧ b ≤ 2147483647) (h : zI a = zI b) : a = b := (zI_eq (by constructor <;> omega) (by constructor <;> omega)).mp h
