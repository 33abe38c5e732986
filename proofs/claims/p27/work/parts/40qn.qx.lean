-- rules exchanged, rules left out
/-- rules done in another order, or one left out -/
noncomputable def swW (Ps : Nat → Nat → Int) (q hv ed : Nat) (f : Nat → Nat) : Nat → Wo → Wo
  | 0, o => o
  | k + 1, o => (pfF (Ps (f k)) q hv ed 20 (swW Ps q hv ed f k o)).1
noncomputable def yn (p : Prop) : Nat := @ite Nat p (Classical.propDecidable p) 1 0
theorem yn_1 {p : Prop} (h : p) : yn p = 1 := by unfold yn; exact @if_pos _ (Classical.propDecidable p) h _ _ _
theorem yn_0 {p : Prop} (h : ¬ p) : yn p = 0 := by unfold yn; exact @if_neg _ (Classical.propDecidable p) h _ _ _
theorem CW.fs {M M1 : Mem} {q hv ed : Nat} {o : Wo} (h : CW M 143 q hv ed o) (hF : FS M1 M) : CW M1 143 q hv ed o := h.fr (hF.1 _ (by decide)) (hF.1 _ (by decide)) (hF.1 _ (by decide))
theorem isDu.fr {M M1 : Mem} {q : Nat} {o : Wo} (h : isDu M q o) (e : M1.1 157 = M.1 157) : isDu M1 q o := fun s hs => by rw [e]; exact h s hs
