-- WORDS: what a memory holds at a word's place
def isW (M : Mem) (a n q hv ed : Nat) (K L : Nat → Nat) : Prop := M.1 a 0 = zI (n : Int) ∧ M.1 a 1 = zI (q : Int) ∧ M.1 a 2 = zI (hv : Int) ∧ M.1 a 3 = zI (ed : Int) ∧ (∀ k, k < n → M.1 (a + 1) k = zI (K k : Int)) ∧ ∀ k, k < n → M.1 (a + 2) k = zI (L k : Int)
def wf (n q hv ed : Nat) (K L : Nat → Nat) : Prop := n ≤ 12 ∧ q ≤ 12 ∧ hv < 4096 ∧ ed < 4096 ∧ ∀ k, k < n → K k ≤ 2 ∧ L k < 4096
theorem kd_w1 {a : Nat} (hk : kd a = (9, 0, 0)) : kd (a + 1) = (22, 12, 0) := by
  have h : ∀ a, a < 159 → kd a = (9, 0, 0) → kd (a + 1) = (22, 12, 0) := by decide +kernel
  exact h a (kd_lt hk (by decide)) hk
theorem kd_w2 {a : Nat} (hk : kd a = (9, 0, 0)) : kd (a + 2) = (22, 12, 0) := by
  have h : ∀ a, a < 159 → kd a = (9, 0, 0) → kd (a + 2) = (22, 12, 0) := by decide +kernel
  exact h a (kd_lt hk (by decide)) hk
/-- all lines together -/
def orL (L : Nat → Nat) : Nat → Nat
  | 0 => 0
  | t + 1 => orL L t ||| L t
theorem orL_lt {L : Nat → Nat} {b : Nat} : ∀ {n : Nat}, (∀ k, k < n → L k < 2 ^ b) → orL L n < 2 ^ b
  | 0, _ => Nat.two_pow_pos b
  | n + 1, h => Nat.or_lt_two_pow (orL_lt (fun k hk => h k (by omega))) (h n (by omega))
theorem orL_bit {L : Nat → Nat} {i : Nat} : ∀ {n : Nat}, (orL L n).testBit i = true ↔ ∃ k, k < n ∧ (L k).testBit i = true
  | 0 => by simp [orL]
  | n + 1 => by
    rw [orL, Nat.testBit_or, Bool.or_eq_true, orL_bit]
    constructor
    · rintro (⟨k, h1, h2⟩ | h)
      · exact ⟨k, by omega, h2⟩
      · exact ⟨n, by omega, h⟩
    · rintro ⟨k, h1, h2⟩
      by_cases hk : k = n
      · subst hk; exact Or.inr h2
      · exact Or.inl ⟨k, by omega, h2⟩
