-- what is asked of a word
-- the answers
noncomputable def opnA (t u : Int) (x : Fw) : Int := if 0 ≤ t ∧ t < (x.2.2.2.1 : Int) ∧ 0 ≤ u ∧ u < (x.1 : Int) then @ite Int (openP x.2.2.2.1 x.2.2.2.2.2 t.toNat u.toNat) (Classical.propDecidable _) 1 0 else -1
/-- asked of the word that comes of the first rules -/
noncomputable def ofA (Ps : Nat → Nat → Int) (m : Nat) (x : Fw) (n : Int) (f : Fw → Int) : Int := if 0 ≤ n ∧ n ≤ (m : Int) then f (x.1, x.2.1, x.2.2.1, sg9 Ps x n.toNat) else -1
theorem ofA_y {Ps : Nat → Nat → Int} {m nn : Nat} {x : Fw} {f : Fw → Int} (h : nn ≤ m) : ofA Ps m x (nn : Int) f = f (x.1, x.2.1, x.2.2.1, sg9 Ps x nn) := by
  unfold ofA
  rw [if_pos (by omega), Int.toNat_natCast]
theorem ofA_n {Ps : Nat → Nat → Int} {m : Nat} {x : Fw} {n : Int} {f : Fw → Int} (h : ¬ (0 ≤ n ∧ n ≤ (m : Int))) : ofA Ps m x n f = -1 := by
  unfold ofA
  rw [if_neg h]
theorem al_of {Ps : Nat → Nat → Int} {m q hv ed hv2 ed2 : Nat} {o : Wo} {n : Int} {f : Fw → Int} (hf : ∀ a b, alF a b → f a = f b) (hG : ∀ j, j < m → okG (Ps j)) (hk : okW q o) (h1 : lkB q hv hv2) (h2 : lkB q ed ed2) : ofA Ps m (q, hv, ed, o) n f = ofA Ps m (q, hv2, ed2, o) n f := by
  by_cases h : 0 ≤ n ∧ n ≤ (m : Int)
  · unfold ofA
    rw [if_pos h, if_pos h, (sg9_l hG hk h1 h2 (show n.toNat ≤ m by omega)).1]
    exact hf _ _ (alF.e h1 h2)
  · rw [ofA_n h, ofA_n h]
theorem opnA_l {t u : Int} : ∀ a b, alF a b → opnA t u a = opnA t u b := fun a b h => by
  obtain ⟨q, hv, ed, hv2, ed2, o, rfl, rfl, _, _⟩ := h.i
  rfl
-- answers, case by case
section Has
variable {w : Int} {q hv ed : Nat} {o : Wo}
variable {t : Nat} {t9 : Int}
theorem opnA_1 {u : Nat} (h : t < o.1) (h1 : u < q) (h2 : openP o.1 o.2.2 t u) : opnA (t : Int) (u : Int) (q, hv, ed, o) = 1 := by
  unfold opnA
  rw [if_pos (by show 0 ≤ (t : Int) ∧ (t : Int) < (o.1 : Int) ∧ 0 ≤ (u : Int) ∧ (u : Int) < (q : Int); omega)]
  exact @if_pos _ (Classical.propDecidable _) h2 _ _ _
theorem opnA_0 {u : Nat} (h : t < o.1) (h1 : u < q) (h2 : ¬ openP o.1 o.2.2 t u) : opnA (t : Int) (u : Int) (q, hv, ed, o) = 0 := by
  unfold opnA
  rw [if_pos (by show 0 ≤ (t : Int) ∧ (t : Int) < (o.1 : Int) ∧ 0 ≤ (u : Int) ∧ (u : Int) < (q : Int); omega)]
  exact @if_neg _ (Classical.propDecidable _) h2 _ _ _
theorem opnA_n {u9 : Int} (h : ¬ (0 ≤ t9 ∧ t9 < (o.1 : Int) ∧ 0 ≤ u9 ∧ u9 < (q : Int))) : opnA t9 u9 (q, hv, ed, o) = -1 := by unfold opnA; rw [if_neg h]
end Has
