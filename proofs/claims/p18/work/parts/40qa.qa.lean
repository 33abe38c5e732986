-- what is asked of a word
/-- tones that fall: how many among the first, whether a high one stands there, whether a low one since -/
def fwS (K : Nat → Nat) : Nat → Nat × Nat × Nat
  | 0 => (0, 0, 0)
  | u + 1 => if K u = 0 then ((fwS K u).1, (fwS K u).2.1, 1) else if K u = 2 then (if (fwS K u).2.1 = 1 ∧ (fwS K u).2.2 = 1 then ((fwS K u).1 + 1, 1, 0) else ((fwS K u).1, 1, 0)) else fwS K u
theorem fw_0 {K : Nat → Nat} {u : Nat} (h : K u = 0) : fwS K (u + 1) = ((fwS K u).1, (fwS K u).2.1, 1) := by rw [fwS, if_pos h]
theorem fw_1 {K : Nat → Nat} {u : Nat} (h : K u ≠ 0) (h1 : K u ≠ 2) : fwS K (u + 1) = fwS K u := by rw [fwS, if_neg h, if_neg h1]
theorem fw_y {K : Nat → Nat} {u : Nat} (h : K u = 2) (h1 : (fwS K u).2.1 = 1) (h2 : (fwS K u).2.2 = 1) : fwS K (u + 1) = ((fwS K u).1 + 1, 1, 0) := by rw [fwS, if_neg (by omega), if_pos h, if_pos ⟨h1, h2⟩]
theorem fw_n {K : Nat → Nat} {u : Nat} (h : K u = 2) (h1 : ¬ ((fwS K u).2.1 = 1 ∧ (fwS K u).2.2 = 1)) : fwS K (u + 1) = ((fwS K u).1, 1, 0) := by rw [fwS, if_neg (by omega), if_pos h, if_neg h1]
theorem fw_b {K : Nat → Nat} : ∀ u, (fwS K u).1 ≤ u ∧ (fwS K u).2.1 ≤ 1 ∧ (fwS K u).2.2 ≤ 1
  | 0 => ⟨Nat.le_refl 0, Nat.zero_le 1, Nat.zero_le 1⟩
  | u + 1 => by
    have h := fw_b (K := K) u
    by_cases h0 : K u = 0
    · rw [fw_0 h0]; exact ⟨by show (fwS K u).1 ≤ u + 1; omega, h.2.1, Nat.le_refl 1⟩
    · by_cases h2 : K u = 2
      · by_cases h3 : (fwS K u).2.1 = 1 ∧ (fwS K u).2.2 = 1
        · rw [fw_y h2 h3.1 h3.2]; exact ⟨by show (fwS K u).1 + 1 ≤ u + 1; omega, Nat.le_refl 1, Nat.zero_le 1⟩
        · rw [fw_n h2 h3]; exact ⟨by show (fwS K u).1 ≤ u + 1; omega, Nat.le_refl 1, Nat.zero_le 1⟩
      · rw [fw_1 h0 h2]; omega
/-- whether a tone is one that falls -/
def isF (K : Nat → Nat) (t : Nat) : Prop := K t = 2 ∧ (fwS K t).2.1 = 1 ∧ (fwS K t).2.2 = 1
theorem fw_s {K : Nat → Nat} {u : Nat} : (isF K u → (fwS K (u + 1)).1 = (fwS K u).1 + 1) ∧ (¬ isF K u → (fwS K (u + 1)).1 = (fwS K u).1) := by
  refine ⟨fun h => by rw [fw_y h.1 h.2.1 h.2.2], fun h => ?_⟩
  by_cases h0 : K u = 0
  · rw [fw_0 h0]
  · by_cases h2 : K u = 2
    · rw [fw_n h2 (fun q => h ⟨h2, q.1, q.2⟩)]
    · rw [fw_1 h0 h2]
/-- going back from t: at k, whether a low one came; no high one did -/
def bkI (K : Nat → Nat) (t k lw : Nat) : Prop := k ≤ t ∧ (fwS K t).2.1 = (fwS K k).2.1 ∧ ((lw = 1 ∧ (fwS K t).2.2 = 1) ∨ (lw = 0 ∧ (fwS K t).2.2 = (fwS K k).2.2))
theorem bkI_0 {K : Nat → Nat} {t : Nat} : bkI K t t 0 := ⟨Nat.le_refl t, rfl, Or.inr ⟨rfl, rfl⟩⟩
theorem bkI_l {K : Nat → Nat} {t k lw : Nat} (h : bkI K t (k + 1) lw) (h0 : K k = 0) : bkI K t k 1 := by
  obtain ⟨a, b, c⟩ := h
  rw [fw_0 h0] at b c
  refine ⟨by omega, b, Or.inl ⟨rfl, ?_⟩⟩
  rcases c with c | c
  · exact c.2
  · exact c.2
theorem bkI_m {K : Nat → Nat} {t k lw : Nat} (h : bkI K t (k + 1) lw) (h0 : K k ≠ 2) (h1 : K k ≠ 0 ∨ lw = 1) : bkI K t k lw := by
  by_cases h2 : K k = 0
  · have h3 : lw = 1 := by omega
    subst h3
    exact bkI_l h h2
  · obtain ⟨a, b, c⟩ := h
    rw [fw_1 h2 h0] at b c
    exact ⟨by omega, b, c⟩
theorem bkI_h {K : Nat → Nat} {t k lw : Nat} (h : bkI K t (k + 1) lw) (ht : K t = 2) (h0 : K k = 2) : (isF K t ↔ lw = 1) := by
  obtain ⟨a, b, c⟩ := h
  have e1 : (fwS K (k + 1)).2.1 = 1 := by
    by_cases h3 : (fwS K k).2.1 = 1 ∧ (fwS K k).2.2 = 1
    · rw [fw_y h0 h3.1 h3.2]
    · rw [fw_n h0 h3]
  have e2 : (fwS K (k + 1)).2.2 = 0 := by
    by_cases h3 : (fwS K k).2.1 = 1 ∧ (fwS K k).2.2 = 1
    · rw [fw_y h0 h3.1 h3.2]
    · rw [fw_n h0 h3]
  unfold isF
  omega
theorem bkI_e {K : Nat → Nat} {t lw : Nat} (h : bkI K t 0 lw) : ¬ isF K t := by
  obtain ⟨a, b, c⟩ := h
  have e1 : (fwS K 0).2.1 = 0 := rfl
  unfold isF
  omega
-- the answers
def orN (z : Int) : Int := if z = -1 then -2 else z
theorem orN_y {z : Int} (h : z = -1) : orN z = -2 := by unfold orN; rw [if_pos h]
theorem orN_n {z : Int} (h : z ≠ -1) : orN z = z := by unfold orN; rw [if_neg h]
theorem orN_0 {m : Nat} (h : m = 0) : orN (lowI m) = -2 ∧ orN (higI m) = -2 := by
  subst h
  exact ⟨rfl, rfl⟩
theorem orN_z {m : Nat} (h : m ≠ 0) : orN (lowI m) = lowI m ∧ orN (higI m) = higI m := by
  rw [lowI_nz h, higI_nz h]
  exact ⟨orN_n (by omega), orN_n (by omega)⟩
def toneA (t w : Int) (x : Fw) : Int := if ¬ (0 ≤ t ∧ t < (x.2.2.2.1 : Int)) then (if w = 4 then -100 else -1) else if w = 0 then ((x.2.2.2.2.1 t.toNat : Nat) : Int) else if w = 1 then orN (lowI (x.2.2.2.2.2 t.toNat)) else if w = 2 then orN (higI (x.2.2.2.2.2 t.toNat)) else if w = 3 then ((pop (x.2.2.2.2.2 t.toNat) : Nat) : Int) else if w = 4 then 3 * ((x.2.2.2.2.1 t.toNat : Nat) : Int) + 3 - (((fwS x.2.2.2.2.1 (t.toNat + 1)).1 : Nat) : Int) else -1
/-- asked of the word that comes of the first rules -/
noncomputable def ofA (Ps : Nat → Nat → Int) (m : Nat) (x : Fw) (n : Int) (f : Fw → Int) : Int := if 0 ≤ n ∧ n ≤ (m : Int) then f (x.1, x.2.1, x.2.2.1, sg9 Ps x n.toNat) else -1
theorem ofA_y {Ps : Nat → Nat → Int} {m nn : Nat} {x : Fw} {f : Fw → Int} (h : nn ≤ m) : ofA Ps m x (nn : Int) f = f (x.1, x.2.1, x.2.2.1, sg9 Ps x nn) := by
  unfold ofA
  rw [if_pos (by omega), Int.toNat_natCast]
theorem ofA_n {Ps : Nat → Nat → Int} {m : Nat} {x : Fw} {n : Int} {f : Fw → Int} (h : ¬ (0 ≤ n ∧ n ≤ (m : Int))) : ofA Ps m x n f = -1 := by
  unfold ofA
  rw [if_neg h]
theorem al_of {Ps : Nat → Nat → Int} {m q hv ed hv2 ed2 : Nat} {o : Wo} {n : Int} {f : Fw → Int} (hf : ∀ a b, alF a b → f a = f b) (hG : ∀ j, j < m → okG (Ps j)) (hk : okW q o) (h1 : lkB q hv hv2) (h2 : lkB q ed ed2) : ofA Ps m (q, hv, ed, o) n f = ofA Ps m (q, hv2, ed2, o) n f := by
  by_cases h : 0 ≤ n ∧ n ≤ (m : Int)
  · unfold ofA
    rw [if_pos h, if_pos h, (sg9_l hG hk h1 h2 (show n.toNat ≤ m by omega)).1]
    exact hf _ _ (alF.e h1 h2)
  · rw [ofA_n h, ofA_n h]
theorem toneA_l {t w : Int} : ∀ a b, alF a b → toneA t w a = toneA t w b := fun a b h => by
  obtain ⟨q, hv, ed, hv2, ed2, o, rfl, rfl, _, _⟩ := h.i
  rfl
-- answers, case by case
section Has
variable {w : Int} {q hv ed : Nat} {o : Wo}
variable {t : Nat} {t9 : Int}
theorem toneA_n (h : ¬ (0 ≤ t9 ∧ t9 < (o.1 : Int))) : toneA t9 w (q, hv, ed, o) = if w = 4 then -100 else -1 := by unfold toneA; rw [if_pos h]
theorem toneA_in (h : t < o.1) : toneA (t : Int) w (q, hv, ed, o) = if w = 0 then ((o.2.1 t : Nat) : Int) else if w = 1 then orN (lowI (o.2.2 t)) else if w = 2 then orN (higI (o.2.2 t)) else if w = 3 then ((pop (o.2.2 t) : Nat) : Int) else if w = 4 then 3 * ((o.2.1 t : Nat) : Int) + 3 - (((fwS o.2.1 (t + 1)).1 : Nat) : Int) else -1 := by unfold toneA; rw [if_neg (fun h9 => h9 ⟨Int.natCast_nonneg t, by show (t : Int) < (o.1 : Int); omega⟩), Int.toNat_natCast]
theorem toneA_0 (h : t < o.1) (hw : w = 0) : toneA (t : Int) w (q, hv, ed, o) = ((o.2.1 t : Nat) : Int) := by rw [toneA_in h, if_pos hw]
theorem toneA_1 (h : t < o.1) (hw : w = 1) : toneA (t : Int) w (q, hv, ed, o) = orN (lowI (o.2.2 t)) := by rw [toneA_in h, if_neg (by omega), if_pos hw]
theorem toneA_2 (h : t < o.1) (hw : w = 2) : toneA (t : Int) w (q, hv, ed, o) = orN (higI (o.2.2 t)) := by rw [toneA_in h, if_neg (by omega), if_neg (by omega), if_pos hw]
theorem toneA_3 (h : t < o.1) (hw : w = 3) : toneA (t : Int) w (q, hv, ed, o) = ((pop (o.2.2 t) : Nat) : Int) := by rw [toneA_in h, if_neg (by omega), if_neg (by omega), if_neg (by omega), if_pos hw]
theorem toneA_4 (h : t < o.1) (hw : w = 4) : toneA (t : Int) w (q, hv, ed, o) = 3 * ((o.2.1 t : Nat) : Int) + 3 - (((fwS o.2.1 (t + 1)).1 : Nat) : Int) := by rw [toneA_in h, if_neg (by omega), if_neg (by omega), if_neg (by omega), if_neg (by omega), if_pos hw]
theorem toneA_d (h : t < o.1) (hw : w ≠ 0 ∧ w ≠ 1 ∧ w ≠ 2 ∧ w ≠ 3 ∧ w ≠ 4) : toneA (t : Int) w (q, hv, ed, o) = -1 := by rw [toneA_in h, if_neg (by omega), if_neg (by omega), if_neg (by omega), if_neg (by omega), if_neg (by omega)]
theorem toneA_n4 (h : ¬ (0 ≤ t9 ∧ t9 < (o.1 : Int))) (hw : w = 4) : toneA t9 w (q, hv, ed, o) = -100 := by rw [toneA_n h, if_pos hw]
theorem toneA_nn (h : ¬ (0 ≤ t9 ∧ t9 < (o.1 : Int))) (hw : w ≠ 4) : toneA t9 w (q, hv, ed, o) = -1 := by rw [toneA_n h, if_neg hw]
end Has
theorem bkI_s1 {K : Nat → Nat} {t k lw : Nat} (h : bkI K t (k + 1) lw) (h0 : K k ≠ 2) (h1 : lw ≠ 0) (h2 : lw ≤ 1) : bkI K t k 1 := by
  obtain rfl : lw = 1 := by omega
  exact bkI_m h h0 (Or.inr rfl)
theorem bkI_s0 {K : Nat → Nat} {t k lw : Nat} (h : bkI K t (k + 1) lw) (h0 : K k ≠ 2) (h1 : K k ≠ 0) (h2 : lw = 0) : bkI K t k 0 := by
  subst h2
  exact bkI_m h h0 (Or.inl h1)
theorem bk_out {K : Nat → Nat} {t lw : Nat} (h : isF K t ↔ lw = 1) (hb : lw ≤ 1) : (isF K t ∧ zI (lw : Int) = zI 1) ∨ (¬ isF K t ∧ zI (lw : Int) = zI 0) := by
  rcases (show lw = 0 ∨ lw = 1 by omega) with h1 | h1
  · exact Or.inr ⟨fun q => by have := h.mp q; omega, congrArg zI (by omega)⟩
  · exact Or.inl ⟨h.mpr h1, congrArg zI (by omega)⟩
theorem orN_b (z : Int) (h : -1 ≤ z) (h1 : z ≤ 12) : -2 ≤ orN z ∧ orN z ≤ 12 := by
  unfold orN
  by_cases h2 : z = -1
  · rw [if_pos h2]; omega
  · rw [if_neg h2]; omega
