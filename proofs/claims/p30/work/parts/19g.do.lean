-- the turn of a tone, by its verb: one form for all
theorem room_le2 {s : State} {pl : Platform} {f1 l1 f2 l2 : Nat} (hf : f2 ≤ f1) (hl : l2 ≤ l1) (h : s.hasRoom pl (rmm f1 l1) = true) : s.hasRoom pl (rmm f2 l2) = true := by
  simp only [State.hasRoom, Bool.and_eq_true, decide_eq_true_eq] at h ⊢
  obtain ⟨⟨⟨⟨y, a, b, c, d, e⟩, f⟩, g⟩, i⟩ := h
  exact ⟨⟨⟨⟨by omega, by omega, by omega, by omega, by omega, e⟩, f⟩, g⟩, i⟩
theorem Ci_mono {l : Launch} {D : va_G} {B : Nat} {cy : Nat → ClassId} {y : MethodName} {cc : ByteArray} {n : Nat} {ret : Option FieldType} {fr lo fr2 lo2 : Nat} {av : List Value} {M : Mem} {post post2 : Int32 → Mem → Prop} (h : Ci l D B cy y cc n ret fr2 lo2 av M post2) (hf : fr2 ≤ fr) (hl : lo2 ≤ lo) (hp : ∀ r M1, post2 r M1 → post r M1) : Ci l D B cy y cc n ret fr lo av M post := by
  intro p e ha hcs hk s m args below hfr happ hP hK
  obtain ⟨a1, a2, a3, a4, a5, a6, a7, a8⟩ := (Spec.appliesLoose_iff hfr).mp happ
  obtain ⟨n0, o0, w0, r0, e0, ⟨⟨r, u, ho1, hp1, hw1⟩, hF1⟩, hL1⟩ := h p e ha hcs hk s m args below hfr ((Spec.appliesLoose_iff hfr).mpr ⟨a1, a2, a3, a4, a5, a6, room_le2 hf hl a7, a8⟩) hP hK
  exact ⟨n0, o0, w0, r0, e0, ⟨⟨r, u, ho1, hp r u hp1, hw1⟩, hF1⟩, hL1⟩
/-- what a turn's contract says: f is what it does -/
def TQ (a q hv ed : Nat) (f : Wo × Nat) (bd : Nat) (M : Mem) (r : Int32) (M1 : Mem) : Prop := ∃ o1 cc, f = (o1, cc) ∧ r = zI ((cc : Nat) : Int) ∧ CW M1 a q hv ed o1 ∧ Fr3 M1 M a ∧ cc ≤ bd
theorem TQ.id {a q hv ed bd : Nat} {f : Wo × Nat} {M : Mem} {o : Wo} (hC : CW M a q hv ed o) (e : f = (o, 0)) : TQ a q hv ed f bd M (zI 0) M := ⟨o, 0, e, rfl, hC, Fr3.rf, Nat.zero_le _⟩
theorem spr_ok {n q ed t x : Nat} : ∀ (T : Nat) (L : Nat → Nat), (∀ k, k < n → L k < 2 ^ q) → (∀ k, k < n → (spr n q ed t x T L).1 k < 2 ^ q) ∧ (spr n q ed t x T L).2 ≤ T
  | 0, L, h => ⟨h, Nat.le_refl 0⟩
  | T + 1, L, h => by
    rw [spr]
    by_cases h1 : pb (stpP n q ed L t x (nj L t x)) = true
    · rw [if_pos h1]
      have h2 : stpP n q ed L t x (nj L t x) := by
        by_cases h3 : stpP n q ed L t x (nj L t x)
        · exact h3
        · rw [pb_f h3] at h1; cases h1
      have h4 := spr_ok (n := n) (q := q) (ed := ed) (t := t) (x := x) T (updF L t (L t ||| 2 ^ nj L t x)) (fun k hk => by
        unfold updF
        by_cases h5 : k = t
        · rw [if_pos h5]; subst h5; exact or_ltq (h k hk) h2.2.1
        · rw [if_neg h5]; exact h k hk)
      exact ⟨h4.1, Nat.succ_le_succ h4.2⟩
    · rw [if_neg h1]; exact ⟨h, Nat.zero_le _⟩
noncomputable def spF (q ed t x n9 : Nat) (o : Wo) : Wo × Nat := if o.2.2 t = 0 then (o, 0) else ((o.1, o.2.1, (spr o.1 q ed t x n9 o.2.2).1), (spr o.1 q ed t x n9 o.2.2).2)
def ctF (t y : Nat) (o : Wo) : Wo × Nat := if o.2.2 t = 0 then (o, 0) else ((o.1, o.2.1, updF o.2.2 t (andn (o.2.2 t) (2 ^ fex y (o.2.2 t)))), 1)
def drF (t : Nat) (o : Wo) : Wo × Nat := if o.2.2 t = 0 then ((o.1 - 1, remF o.2.1 t, remF o.2.2 t), 1) else (o, 0)
noncomputable def tuF (t n9 : Nat) (o : Wo) : Wo × Nat := @ite (Wo × Nat) (turnP o.2.1 t n9) (Classical.propDecidable _) ((o.1, updF o.2.1 t n9, o.2.2), 1) (o, 0)
theorem tuF_y {t n9 : Nat} {o : Wo} (h : turnP o.2.1 t n9) : tuF t n9 o = ((o.1, updF o.2.1 t n9, o.2.2), 1) := by unfold tuF; exact @if_pos _ (Classical.propDecidable _) h _ _ _
theorem tuF_n {t n9 : Nat} {o : Wo} (h : ¬ turnP o.2.1 t n9) : tuF t n9 o = (o, 0) := by unfold tuF; exact @if_neg _ (Classical.propDecidable _) h _ _ _
section Turns
variable {l : Launch} {D : va_G} {B : Nat} {cy : Nat → ClassId} {M : Mem} {a q hv ed : Nat} {o : Wo}
theorem u_spread (hk : kd a = (9, 0, 0)) (hC : CW M a q hv ed o) {t x n9 : Nat} (ht : t < o.1) (hx : x = 0 ∨ x = 1) (hn : n9 ≤ 9) : Ci l D B cy yX1_spread cX1_spread 10 (some .int) 2 48 [.ref (B + 23), .ref (B + a), .int (zI (t : Int)), .int (zI (x : Int)), .int (zI (n9 : Int))] M (fun r M1 => TQ a q hv ed (spF q ed t x n9 o) 9 M r M1) := by
  by_cases h0 : o.2.2 t = 0
  · refine Ci_mono (s_X1_spread_f hk hC (x := x) (z9 := (n9 : Int)) ht h0 (by constructor <;> omega)) (by decide) (by decide) (fun r M1 hp => ?_)
    rw [hp.1, hp.2]
    exact TQ.id hC (by unfold spF; rw [if_pos h0])
  · have hs := spr_ok (n := o.1) (q := q) (ed := ed) (t := t) (x := x) n9 o.2.2 (fun k hk => (hC.2.1.2.2 k hk).2)
    have e : spF q ed t x n9 o = ((o.1, o.2.1, (spr o.1 q ed t x n9 o.2.2).1), (spr o.1 q ed t x n9 o.2.2).2) := by unfold spF; rw [if_neg h0]
    have fin : ∀ (r : Int32) (M1 : Mem), (r = zI (((spr o.1 q ed t x n9 o.2.2).2 : Nat) : Int) ∧ isW M1 a o.1 q hv ed o.2.1 (spr o.1 q ed t x n9 o.2.2).1 ∧ wf o.1 q hv ed o.2.1 (spr o.1 q ed t x n9 o.2.2).1 ∧ Fr3 M1 M a) → TQ a q hv ed (spF q ed t x n9 o) 9 M r M1 := fun r M1 hp =>
      ⟨_, _, e, hp.1, ⟨hp.2.1, ⟨hC.2.1.1, hC.2.1.2.1, fun k hk => ⟨(hC.2.1.2.2 k hk).1, hs.1 k hk⟩⟩, hC.2.2⟩, hp.2.2.2, Nat.le_trans hs.2 hn⟩
    rcases hx with hx | hx
    · exact Ci_mono (s_X1_spread_0 hk hC.1 hC.wf ht hx hn h0 (hC.2.1.2.2 t ht).2) (by decide) (by decide) fin
    · exact Ci_mono (s_X1_spread_1 hk hC.1 hC.wf ht hx hn h0 (hC.2.1.2.2 t ht).2) (by decide) (by decide) fin
theorem u_cut (hk : kd a = (9, 0, 0)) (hC : CW M a q hv ed o) {t x : Nat} (ht : t < o.1) (hx : x = 0 ∨ x = 1) : Ci l D B cy yX1_cutOff cX1_cutOff 5 (some .int) 2 42 [.ref (B + 23), .ref (B + a), .int (zI (t : Int)), .int (zI (x : Int))] M (fun r M1 => TQ a q hv ed (ctF t x o) 1 M r M1) := by
  rcases hx with hx | hx
  · refine Ci_mono (s_X1_cutOff_0 hk hC.1 hC.wf ht hx) (by decide) (by decide) (fun r M1 hp => ?_)
    rcases hp with ⟨h0, h1, h2, h3⟩ | ⟨h0, h1, h2⟩
    · subst hx
      rw [h1]
      exact ⟨_, _, by unfold ctF; rw [if_neg h0]; rfl, rfl, ⟨h2, okW_line hC.2.1 (andn_lt (hC.2.1.2.2 t ht).2), hC.2.2⟩, h3, Nat.le_refl _⟩
    · rw [h1, h2]
      exact TQ.id hC (by unfold ctF; rw [if_pos h0])
  · refine Ci_mono (s_X1_cutOff_1 hk hC.1 hC.wf ht hx) (by decide) (by decide) (fun r M1 hp => ?_)
    rcases hp with ⟨h0, h1, h2, h3⟩ | ⟨h0, h1, h2⟩
    · subst hx
      rw [h1]
      exact ⟨_, _, by unfold ctF; rw [if_neg h0]; rfl, rfl, ⟨h2, okW_line hC.2.1 (andn_lt (hC.2.1.2.2 t ht).2), hC.2.2⟩, h3, Nat.le_refl _⟩
    · rw [h1, h2]
      exact TQ.id hC (by unfold ctF; rw [if_pos h0])
theorem u_drop (hk : kd a = (9, 0, 0)) (hC : CW M a q hv ed o) {t : Nat} (ht : t < o.1) : Ci l D B cy yX1_drop cX1_drop 3 (some .int) 2 43 [.ref (B + 23), .ref (B + a), .int (zI (t : Int))] M (fun r M1 => TQ a q hv ed (drF t o) 1 M r M1) := by
  refine Ci_mono (s_X1_drop hk hC.1 hC.wf ht) (by decide) (by decide) (fun r M1 hp => ?_)
  rcases hp with ⟨h0, h1, h2, h3⟩ | ⟨h0, h1, h2⟩
  · rw [h1]
    exact ⟨_, _, by unfold drF; rw [if_pos h0], rfl, ⟨h2, okW_rem hC.2.1 ht, hC.2.2⟩, h3, Nat.le_refl _⟩
  · rw [h1, h2]
    exact TQ.id hC (by unfold drF; rw [if_neg h0])
theorem u_turn (hk : kd a = (9, 0, 0)) (hC : CW M a q hv ed o) {t x : Nat} (ht : t < o.1) (hx : x ≤ 2) : Ci l D B cy yX1_turnTo cX1_turnTo 5 (some .int) 2 42 [.ref (B + 23), .ref (B + a), .int (zI (t : Int)), .int (zI (x : Int))] M (fun r M1 => TQ a q hv ed (tuF t x o) 1 M r M1) := by
  refine Ci_mono (s_X1_turnTo hk hC.1 hC.wf ht hx) (by decide) (by decide) (fun r M1 hp => ?_)
  rcases hp with ⟨h0, h1, h2, h3⟩ | ⟨h0, h1, h2⟩
  · rw [h1]
    exact ⟨_, _, tuF_y h0, rfl, ⟨h2, okW_kind hC.2.1 hx, hC.2.2⟩, h3, Nat.le_refl _⟩
  · rw [h1, h2]
    exact TQ.id hC (tuF_n h0)
theorem u_dock (hk : kd a = (9, 0, 0)) (hC : CW M a q hv ed o) {t x : Nat} (ht : t < o.1) (hx : x = 0 ∨ x = 1) : Ci l D B cy yX1_dock cX1_dock 7 (some .int) 2 48 [.ref (B + 23), .ref (B + a), .int (zI (t : Int)), .int (zI (x : Int))] M (fun r M1 => TQ a q hv ed (dkG q t x o) 1 M r M1) := by
  rcases hx with hx | hx
  · exact Ci_mono (s_X1_dock_0 hk hC ht hx) (by decide) (by decide) (fun r M1 hp => hp)
  · exact Ci_mono (s_X1_dock_1 hk hC ht hx) (by decide) (by decide) (fun r M1 hp => hp)
theorem u_fuse (hk : kd a = (9, 0, 0)) (hC : CW M a q hv ed o) {t : Nat} (ht : t < o.1) : Ci l D B cy yX1_fuse cX1_fuse 6 (some .int) 2 43 [.ref (B + 23), .ref (B + a), .int (zI (t : Int))] M (fun r M1 => TQ a q hv ed (fuF (o.1 - 1 - t) t o) 156 M r M1) :=
  Ci_mono (s_X1_fuse hk hC ht) (by decide) (by decide) (fun r M1 hp => hp)
theorem u_leave (hk : kd a = (9, 0, 0)) (hC : CW M a q hv ed o) {t x : Nat} (ht : t < o.1) (hx : x = 0 ∨ x = 1) (h0 : o.2.2 t ≠ 0) : Ci l D B cy yX1_leave cX1_leave 7 (some .int) 2 42 [.ref (B + 23), .ref (B + a), .int (zI (t : Int)), .int (zI (x : Int))] M (fun r M1 => TQ a q hv ed (lvF t x o) 1 M r M1) := by
  rcases hx with hx | hx
  · exact Ci_mono (s_X1_leave_0 hk hC ht hx h0) (by decide) (by decide) (fun r M1 hp => hp)
  · exact Ci_mono (s_X1_leave_1 hk hC ht hx h0) (by decide) (by decide) (fun r M1 hp => hp)
end Turns
