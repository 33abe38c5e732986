/-- a shift: one line more beside, then the one next to it goes -/
noncomputable def shF (q ed t x : Nat) (o : Wo) : Wo × Nat := if (spF q ed t x 1 o).2 = 0 then spF q ed t x 1 o else ((lvF t x (spF q ed t x 1 o).1).1, (spF q ed t x 1 o).2 + (lvF t x (spF q ed t x 1 o).1).2)
/-- what a verb does at a tone's turn: x its side (left 1), y its end (last 1), n9 its number or kind -/
noncomputable def trV (v x y n9 q ed t : Nat) (o : Wo) : Wo × Nat := if v = 1 then spF q ed t x n9 o else if v = 2 then shF q ed t x o else if v = 3 then ctF t y o else if v = 4 then dkG q t x o else if v = 5 then drF t o else if v = 6 then fuF (o.1 - 1 - t) t o else if v = 7 then tuF t n9 o else (o, 0)
def trC (P : Nat → Int) (q hv t : Nat) (o : Wo) : Prop := (P 2 = 3 ∨ P 2 = (o.2.1 t : Int)) ∧ adP P q hv o t
noncomputable def trT (P : Nat → Int) (v x y n9 q hv ed t : Nat) (o : Wo) : Wo × Nat := @ite (Wo × Nat) (trC P q hv t o) (Classical.propDecidable _) (trV v x y n9 q ed t o) (o, 0)
theorem trT_y {P : Nat → Int} {v x y n9 q hv ed t : Nat} {o : Wo} (h : trC P q hv t o) : trT P v x y n9 q hv ed t o = trV v x y n9 q ed t o := by unfold trT; exact @if_pos _ (Classical.propDecidable _) h _ _ _
theorem trT_n {P : Nat → Int} {v x y n9 q hv ed t : Nat} {o : Wo} (h : ¬ trC P q hv t o) : trT P v x y n9 q hv ed t o = (o, 0) := by unfold trT; exact @if_neg _ (Classical.propDecidable _) h _ _ _
/-- the place that has its turn next; none: below 0 -/
def nxT (v x cc : Nat) (t : Int) : Int := if x = 1 then t - 1 else if v = 5 ∧ 0 < cc then t else t + 1
/-- a pass over tones, with so many turns at most -/
noncomputable def tpF (P : Nat → Int) (v x y n9 q hv ed : Nat) : Nat → Int → Wo → Wo × Nat
  | 0, _, o => (o, 0)
  | f + 1, t, o => if 0 ≤ t ∧ t < (o.1 : Int) then ((tpF P v x y n9 q hv ed f (nxT v x (trT P v x y n9 q hv ed t.toNat o).2 t) (trT P v x y n9 q hv ed t.toNat o).1).1, (trT P v x y n9 q hv ed t.toNat o).2 + (tpF P v x y n9 q hv ed f (nxT v x (trT P v x y n9 q hv ed t.toNat o).2 t) (trT P v x y n9 q hv ed t.toNat o).1).2) else (o, 0)
theorem tp_y {P : Nat → Int} {v x y n9 q hv ed f t cc : Nat} {o o1 : Wo} (ht : t < o.1) (h : trT P v x y n9 q hv ed t o = (o1, cc)) : tpF P v x y n9 q hv ed (f + 1) (t : Int) o = ((tpF P v x y n9 q hv ed f (nxT v x cc (t : Int)) o1).1, cc + (tpF P v x y n9 q hv ed f (nxT v x cc (t : Int)) o1).2) := by
  rw [tpF, if_pos (by omega), Int.toNat_natCast, h]
theorem tp_n {P : Nat → Int} {v x y n9 q hv ed f : Nat} {t : Int} {o : Wo} (h : ¬ (0 ≤ t ∧ t < (o.1 : Int))) : tpF P v x y n9 q hv ed f t o = (o, 0) := by
  cases f with
  | zero => rfl
  | succ f => rw [tpF, if_neg h]
/-- what the loop has done so far -/
def tpI (P : Nat → Int) (v x y n9 q hv ed f0 : Nat) (t0 : Int) (o : Wo) (f : Nat) (t : Int) (o1 : Wo) (cc : Nat) : Prop := tpF P v x y n9 q hv ed f0 t0 o = ((tpF P v x y n9 q hv ed f t o1).1, cc + (tpF P v x y n9 q hv ed f t o1).2)
theorem tpI_0 {P : Nat → Int} {v x y n9 q hv ed f0 : Nat} {t0 : Int} {o : Wo} : tpI P v x y n9 q hv ed f0 t0 o f0 t0 o 0 := by
  unfold tpI
  exact Prod.ext rfl (Nat.zero_add _).symm
theorem tpI_s {P : Nat → Int} {v x y n9 q hv ed f0 f t cc dd : Nat} {t0 : Int} {o o1 o2 : Wo} (h : tpI P v x y n9 q hv ed f0 t0 o (f + 1) (t : Int) o1 cc) (ht : t < o1.1) (h1 : trT P v x y n9 q hv ed t o1 = (o2, dd)) : tpI P v x y n9 q hv ed f0 t0 o f (nxT v x dd (t : Int)) o2 (cc + dd) := by
  unfold tpI at *
  rw [h, tp_y ht h1]
  exact Prod.ext rfl (Nat.add_assoc _ _ _).symm
theorem tpI_e {P : Nat → Int} {v x y n9 q hv ed f0 f cc : Nat} {t0 t : Int} {o o1 : Wo} (h : tpI P v x y n9 q hv ed f0 t0 o f t o1 cc) (he : f = 0 ∨ ¬ (0 ≤ t ∧ t < (o1.1 : Int))) : tpF P v x y n9 q hv ed f0 t0 o = (o1, cc) := by
  unfold tpI at h
  rcases he with he | he
  · subst he; rw [h]; rfl
  · rw [h, tp_n he]; rfl
