-- what is asked of a word
/-- the reading of a syllable, from a tone on -/
def rdV9 (K L : Nat → Nat) (s : Nat) : Nat → Nat → Nat
  | 0, _ => 0
  | d + 1, k => if (L k).testBit s = true then rdV9 K L s d (k + 1) * 4 + K k + 1 else rdV9 K L s d (k + 1)
theorem rd_y {K L : Nat → Nat} {s d k : Nat} (h : (L k).testBit s = true) : rdV9 K L s (d + 1) k = rdV9 K L s d (k + 1) * 4 + K k + 1 := by rw [rdV9, if_pos h]
theorem rd_n {K L : Nat → Nat} {s d k : Nat} (h : ¬ (L k).testBit s = true) : rdV9 K L s (d + 1) k = rdV9 K L s d (k + 1) := by rw [rdV9, if_neg h]
theorem rd_b {K L : Nat → Nat} {s : Nat} : ∀ (d k : Nat), (∀ j, k ≤ j → j < k + d → K j ≤ 2) → rdV9 K L s d k < 4 ^ d
  | 0, _, _ => by show 0 < 1; decide
  | d + 1, k, h => by
    have h1 := rd_b (K := K) (L := L) (s := s) d (k + 1) (fun j a b => h j (by omega) (by omega))
    have h2 := h k (Nat.le_refl k) (by omega)
    rw [Nat.pow_succ]
    by_cases h3 : (L k).testBit s = true
    · rw [rd_y h3]; omega
    · rw [rd_n h3]; omega
theorem p4_12 {d : Nat} (h : d ≤ 12) : 4 ^ d ≤ 16777216 := Nat.le_trans (Nat.pow_le_pow_right (by decide) h) (by decide)
/-- the reading of a syllable of a word -/
def rdW9 (o : Wo) (s : Nat) : Nat := rdV9 o.2.1 o.2.2 s o.1 0
theorem rdW_b {q s : Nat} {o : Wo} (h : okW q o) : rdW9 o s < 16777216 := by
  have h1 := rd_b (K := o.2.1) (L := o.2.2) (s := s) o.1 0 (fun j _ hj => (h.2.2 j (by omega)).1)
  have h2 := p4_12 h.1
  unfold rdW9
  omega
-- the answers
def orN (z : Int) : Int := if z = -1 then -2 else z
theorem orN_y {z : Int} (h : z = -1) : orN z = -2 := by unfold orN; rw [if_pos h]
theorem orN_n {z : Int} (h : z ≠ -1) : orN z = z := by unfold orN; rw [if_neg h]
theorem orN_0 {m : Nat} (h : m = 0) : orN (lowI m) = -2 ∧ orN (higI m) = -2 := by
  subst h
  exact ⟨rfl, rfl⟩
theorem orN_z {m : Nat} (h : m ≠ 0) : orN (lowI m) = lowI m ∧ orN (higI m) = higI m := by
  rw [lowI_nz h, higI_nz h]
  exact ⟨orN_n (by omega), orN_n (by omega)⟩
def sylA (u w : Int) (x : Fw) : Int := if ¬ (0 ≤ u ∧ u < (x.1 : Int)) then -1 else if w = 0 then ((tb x.2.1 u.toNat : Nat) : Int) else if w = 1 then ((tb x.2.2.1 u.toNat : Nat) : Int) else if w = 2 then ((pop (tmk x.2.2.2.2.2 u.toNat x.2.2.2.1) : Nat) : Int) else if w = 3 then orN (lowI (tmk x.2.2.2.2.2 u.toNat x.2.2.2.1)) else if w = 4 then orN (higI (tmk x.2.2.2.2.2 u.toNat x.2.2.2.1)) else if w = 5 then ((rdW9 x.2.2.2 u.toNat : Nat) : Int) else -1
/-- asked of the word that comes of the first rules -/
noncomputable def ofA (Ps : Nat → Nat → Int) (m : Nat) (x : Fw) (n : Int) (f : Fw → Int) : Int := if 0 ≤ n ∧ n ≤ (m : Int) then f (x.1, x.2.1, x.2.2.1, sg9 Ps x n.toNat) else -1
theorem ofA_y {Ps : Nat → Nat → Int} {m nn : Nat} {x : Fw} {f : Fw → Int} (h : nn ≤ m) : ofA Ps m x (nn : Int) f = f (x.1, x.2.1, x.2.2.1, sg9 Ps x nn) := by
  unfold ofA
  rw [if_pos (by omega), Int.toNat_natCast]
theorem ofA_n {Ps : Nat → Nat → Int} {m : Nat} {x : Fw} {n : Int} {f : Fw → Int} (h : ¬ (0 ≤ n ∧ n ≤ (m : Int))) : ofA Ps m x n f = -1 := by
  unfold ofA
  rw [if_neg h]
theorem al_of {Ps : Nat → Nat → Int} {m q hv ed hv2 ed2 : Nat} {o : Wo} {n : Int} {f : Fw → Int} (hf : ∀ a b, alF a b → f a = f b) (hG : ∀ j, j < m → okG (Ps j)) (hk : okW q o) (h1 : lkB q hv hv2) (h2 : lkB q ed ed2) : ofA Ps m (q, hv, ed, o) n f = ofA Ps m (q, hv2, ed2, o) n f := by
  by_cases h : 0 ≤ n ∧ n ≤ (m : Int)
  · unfold ofA
    rw [if_pos h, if_pos h, (sg9_l hG hk h1 h2 (show n.toNat ≤ m by omega)).1]
    exact hf _ _ (alF.e h1 h2)
  · rw [ofA_n h, ofA_n h]
theorem sylA_l {t w : Int} : ∀ a b, alF a b → sylA t w a = sylA t w b := fun a b h => by
  obtain ⟨q, hv, ed, hv2, ed2, o, rfl, rfl, h1, h2⟩ := h.i
  unfold sylA
  by_cases h : 0 ≤ t ∧ t < (q : Int)
  · show (if ¬ (0 ≤ t ∧ t < (q : Int)) then _ else if w = 0 then ((tb hv t.toNat : Nat) : Int) else if w = 1 then ((tb ed t.toNat : Nat) : Int) else _) = (if ¬ (0 ≤ t ∧ t < (q : Int)) then _ else if w = 0 then ((tb hv2 t.toNat : Nat) : Int) else if w = 1 then ((tb ed2 t.toNat : Nat) : Int) else _)
    rw [tb_l h1 (show t.toNat < q by omega), tb_l h2 (show t.toNat < q by omega)]
  · show (if ¬ (0 ≤ t ∧ t < (q : Int)) then _ else _) = (if ¬ (0 ≤ t ∧ t < (q : Int)) then _ else _)
    rw [if_pos h, if_pos h]
-- answers, case by case
section Has
variable {w : Int} {q hv ed : Nat} {o : Wo}
variable {t : Nat} {t9 : Int}
theorem sylA_n (h : ¬ (0 ≤ t9 ∧ t9 < (q : Int))) : sylA t9 w (q, hv, ed, o) = -1 := by unfold sylA; rw [if_pos h]
theorem sylA_in (h : t < q) : sylA (t : Int) w (q, hv, ed, o) = if w = 0 then ((tb hv t : Nat) : Int) else if w = 1 then ((tb ed t : Nat) : Int) else if w = 2 then ((pop (tmk o.2.2 t o.1) : Nat) : Int) else if w = 3 then orN (lowI (tmk o.2.2 t o.1)) else if w = 4 then orN (higI (tmk o.2.2 t o.1)) else if w = 5 then ((rdW9 o t : Nat) : Int) else -1 := by unfold sylA; rw [if_neg (by omega), Int.toNat_natCast]
theorem sylA_0 (h : t < q) (hw : w = 0) : sylA (t : Int) w (q, hv, ed, o) = ((tb hv t : Nat) : Int) := by rw [sylA_in h, if_pos hw]
theorem sylA_1 (h : t < q) (hw : w = 1) : sylA (t : Int) w (q, hv, ed, o) = ((tb ed t : Nat) : Int) := by rw [sylA_in h, if_neg (by omega), if_pos hw]
theorem sylA_2 (h : t < q) (hw : w = 2) : sylA (t : Int) w (q, hv, ed, o) = ((pop (tmk o.2.2 t o.1) : Nat) : Int) := by rw [sylA_in h, if_neg (by omega), if_neg (by omega), if_pos hw]
theorem sylA_3 (h : t < q) (hw : w = 3) : sylA (t : Int) w (q, hv, ed, o) = orN (lowI (tmk o.2.2 t o.1)) := by rw [sylA_in h, if_neg (by omega), if_neg (by omega), if_neg (by omega), if_pos hw]
theorem sylA_4 (h : t < q) (hw : w = 4) : sylA (t : Int) w (q, hv, ed, o) = orN (higI (tmk o.2.2 t o.1)) := by rw [sylA_in h, if_neg (by omega), if_neg (by omega), if_neg (by omega), if_neg (by omega), if_pos hw]
theorem sylA_5 (h : t < q) (hw : w = 5) : sylA (t : Int) w (q, hv, ed, o) = ((rdW9 o t : Nat) : Int) := by rw [sylA_in h, if_neg (by omega), if_neg (by omega), if_neg (by omega), if_neg (by omega), if_neg (by omega), if_pos hw]
theorem sylA_d (h : t < q) (hw : w ≠ 0 ∧ w ≠ 1 ∧ w ≠ 2 ∧ w ≠ 3 ∧ w ≠ 4 ∧ w ≠ 5) : sylA (t : Int) w (q, hv, ed, o) = -1 := by rw [sylA_in h, if_neg (by omega), if_neg (by omega), if_neg (by omega), if_neg (by omega), if_neg (by omega), if_neg (by omega)]
end Has
theorem mul_zz {a b : Nat} {z : Int} (h : z = ((a * b : Nat) : Int)) : zI (a : Int) * zI (b : Int) = zI z := by rw [zI_mul, h, Int.natCast_mul]
/-- what the reference's reading has added up -/
def rdI9 (K L : Nat → Nat) (s n t al by9 : Nat) : Prop := al + by9 * rdV9 K L s (n - t) t = rdV9 K L s n 0 ∧ by9 ≤ 4 ^ t
theorem rdI_0 {K L : Nat → Nat} {s n : Nat} : rdI9 K L s n 0 0 1 := ⟨by rw [Nat.sub_zero]; omega, Nat.le_refl _⟩
theorem rdI9_y {K L : Nat → Nat} {s n t al by9 p : Nat} (h : rdI9 K L s n t al by9) (ht : t < n) (hb : (L t).testBit s = true) (hp : p = by9 * (K t + 1)) : rdI9 K L s n (t + 1) (al + p) (by9 * 4) := by
  obtain ⟨h1, h2⟩ := h
  rw [show n - t = (n - (t + 1)) + 1 by omega, rd_y hb] at h1
  refine ⟨?_, by rw [Nat.pow_succ]; omega⟩
  rw [← h1, hp]
  generalize rdV9 K L s (n - (t + 1)) (t + 1) = v
  have e1 : by9 * (v * 4 + K t + 1) = by9 * (K t + 1) + by9 * 4 * v := by
    rw [show v * 4 + K t + 1 = (K t + 1) + 4 * v by omega, Nat.mul_add, Nat.mul_assoc]
  omega
theorem rdI9_n {K L : Nat → Nat} {s n t al by9 : Nat} (h : rdI9 K L s n t al by9) (ht : t < n) (hb : ¬ (L t).testBit s = true) : rdI9 K L s n (t + 1) al by9 := by
  obtain ⟨h1, h2⟩ := h
  rw [show n - t = (n - (t + 1)) + 1 by omega, rd_n hb] at h1
  exact ⟨h1, by rw [Nat.pow_succ]; omega⟩
theorem rdI_e {K L : Nat → Nat} {s n al by9 : Nat} (h : rdI9 K L s n n al by9) : al = rdV9 K L s n 0 := by
  have h1 := h.1
  rw [Nat.sub_self] at h1
  have h2 : rdV9 K L s 0 n = 0 := rfl
  rw [h2] at h1
  omega
theorem rdI_b {K L : Nat → Nat} {s n t al by9 : Nat} (h : rdI9 K L s n t al by9) (hn : n ≤ 12) (ht : t ≤ n) (hK : ∀ j, j < n → K j ≤ 2) : al < 16777216 ∧ by9 ≤ 16777216 ∧ ∀ p, p = by9 * (K t + 1) → t < n → p ≤ 50331648 := by
  have h1 := rd_b (K := K) (L := L) (s := s) n 0 (fun j _ hj => hK j (by omega))
  have h2 := p4_12 hn
  have h3 := h.1
  have h4 := h.2
  have h5 := p4_12 (show t ≤ 12 by omega)
  refine ⟨?_, by omega, fun p hp htn => ?_⟩
  · have : al ≤ al + by9 * rdV9 K L s (n - t) t := Nat.le_add_right _ _
    omega
  · rw [hp]
    have h6 : by9 * (K t + 1) ≤ 16777216 * 3 := Nat.mul_le_mul (by omega) (by have := hK t htn; omega)
    omega
theorem orN_b (z : Int) (h : -1 ≤ z) (h1 : z ≤ 12) : -2 ≤ orN z ∧ orN z ≤ 12 := by
  unfold orN
  by_cases h2 : z = -1
  · rw [if_pos h2]; omega
  · rw [if_neg h2]; omega
