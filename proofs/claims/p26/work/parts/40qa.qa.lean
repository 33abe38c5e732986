-- what is asked of a word
/-- the reading of a syllable, from a tone on -/
def rdV9 (K L : Nat → Nat) (s : Nat) : Nat → Nat → Nat
  | 0, _ => 0
  | d + 1, k => if (L k).testBit s = true then rdV9 K L s d (k + 1) * 4 + K k + 1 else rdV9 K L s d (k + 1)
theorem rd_y {K L : Nat → Nat} {s d k : Nat} (h : (L k).testBit s = true) : rdV9 K L s (d + 1) k = rdV9 K L s d (k + 1) * 4 + K k + 1 := by rw [rdV9, if_pos h]
theorem rd_n {K L : Nat → Nat} {s d k : Nat} (h : ¬ (L k).testBit s = true) : rdV9 K L s (d + 1) k = rdV9 K L s d (k + 1) := by rw [rdV9, if_neg h]
theorem rd_b {K L : Nat → Nat} {s : Nat} : ∀ (d k : Nat), (∀ j, k ≤ j → j < k + d → K j ≤ 2) → rdV9 K L s d k < 4 ^ d
  | 0, _, _ => by show 0 < 1; decide
  | d + 1, k, h => by
    have h1 := rd_b (K := K) (L := L) (s := s) d (k + 1) (fun j a b => h j (by omega) (by omega))
    have h2 := h k (Nat.le_refl k) (by omega)
    rw [Nat.pow_succ]
    by_cases h3 : (L k).testBit s = true
    · rw [rd_y h3]; omega
    · rw [rd_n h3]; omega
theorem p4_12 {d : Nat} (h : d ≤ 12) : 4 ^ d ≤ 16777216 := Nat.le_trans (Nat.pow_le_pow_right (by decide) h) (by decide)
/-- the reading of a syllable of a word -/
def rdW9 (o : Wo) (s : Nat) : Nat := rdV9 o.2.1 o.2.2 s o.1 0
theorem rdW_b {q s : Nat} {o : Wo} (h : okW q o) : rdW9 o s < 16777216 := by
  have h1 := rd_b (K := o.2.1) (L := o.2.2) (s := s) o.1 0 (fun j _ hj => (h.2.2 j (by omega)).1)
  have h2 := p4_12 h.1
  unfold rdW9
  omega
-- the answers
-- answers, case by case
section Has
variable {w : Int} {q hv ed : Nat} {o : Wo}
variable {t : Nat} {t9 : Int}
end Has
theorem mul_zz {a b : Nat} {z : Int} (h : z = ((a * b : Nat) : Int)) : zI (a : Int) * zI (b : Int) = zI z := by rw [zI_mul, h, Int.natCast_mul]
/-- what the reference's reading has added up -/
def rdI9 (K L : Nat → Nat) (s n t al by9 : Nat) : Prop := al + by9 * rdV9 K L s (n - t) t = rdV9 K L s n 0 ∧ by9 ≤ 4 ^ t
theorem rdI_0 {K L : Nat → Nat} {s n : Nat} : rdI9 K L s n 0 0 1 := ⟨by rw [Nat.sub_zero]; omega, Nat.le_refl _⟩
theorem rdI9_y {K L : Nat → Nat} {s n t al by9 p : Nat} (h : rdI9 K L s n t al by9) (ht : t < n) (hb : (L t).testBit s = true) (hp : p = by9 * (K t + 1)) : rdI9 K L s n (t + 1) (al + p) (by9 * 4) := by
  obtain ⟨h1, h2⟩ := h
  rw [show n - t = (n - (t + 1)) + 1 by omega, rd_y hb] at h1
  refine ⟨?_, by rw [Nat.pow_succ]; omega⟩
  rw [← h1, hp]
  generalize rdV9 K L s (n - (t + 1)) (t + 1) = v
  have e1 : by9 * (v * 4 + K t + 1) = by9 * (K t + 1) + by9 * 4 * v := by
    rw [show v * 4 + K t + 1 = (K t + 1) + 4 * v by omega, Nat.mul_add, Nat.mul_assoc]
  omega
theorem rdI9_n {K L : Nat → Nat} {s n t al by9 : Nat} (h : rdI9 K L s n t al by9) (ht : t < n) (hb : ¬ (L t).testBit s = true) : rdI9 K L s n (t + 1) al by9 := by
  obtain ⟨h1, h2⟩ := h
  rw [show n - t = (n - (t + 1)) + 1 by omega, rd_n hb] at h1
  exact ⟨h1, by rw [Nat.pow_succ]; omega⟩
theorem rdI_e {K L : Nat → Nat} {s n al by9 : Nat} (h : rdI9 K L s n n al by9) : al = rdV9 K L s n 0 := by
  have h1 := h.1
  rw [Nat.sub_self] at h1
  have h2 : rdV9 K L s 0 n = 0 := rfl
  rw [h2] at h1
  omega
theorem rdI_b {K L : Nat → Nat} {s n t al by9 : Nat} (h : rdI9 K L s n t al by9) (hn : n ≤ 12) (ht : t ≤ n) (hK : ∀ j, j < n → K j ≤ 2) : al < 16777216 ∧ by9 ≤ 16777216 ∧ ∀ p, p = by9 * (K t + 1) → t < n → p ≤ 50331648 := by
  have h1 := rd_b (K := K) (L := L) (s := s) n 0 (fun j _ hj => hK j (by omega))
  have h2 := p4_12 hn
  have h3 := h.1
  have h4 := h.2
  have h5 := p4_12 (show t ≤ 12 by omega)
  refine ⟨?_, by omega, fun p hp htn => ?_⟩
  · have : al ≤ al + by9 * rdV9 K L s (n - t) t := Nat.le_add_right _ _
    omega
  · rw [hp]
    have h6 : by9 * (K t + 1) ≤ 16777216 * 3 := Nat.mul_le_mul (by omega) (by have := hK t htn; omega)
    omega
