theorem shr_le (m s : Nat) : m >>> s ≤ m := by rw [Nat.shiftRight_eq_div_pow]; exact Nat.div_le_self _ _
theorem tbp_lt {m j t : Nat} (ht : t < 12) : tb m j * 2 ^ t < 4096 := by
  have h1 := p2_le (n := t) (by omega)
  have h2 : 2 ^ t ≤ 2 ^ 11 := Nat.pow_le_pow_right (by omega) (by omega)
  rcases tb01 m j with h | h <;> rw [h] <;> omega
def SF (L : Nat → Nat) (j : Nat) : Nat → Nat := fun u => (L u >>> j) >>> 1
def BF (L : Nat → Nat) (j : Nat) : Nat → Nat := fun u => L u &&& (2 ^ j - 1)
theorem orL_zero {F : Nat → Nat} : ∀ {n : Nat}, orL F n = 0 ↔ ∀ k, k < n → F k = 0
  | 0 => by simp [orL]
  | n + 1 => by
    rw [orL, Nat.or_eq_zero_iff, orL_zero]
    constructor
    · rintro ⟨h1, h2⟩ k hk
      by_cases h : k = n
      · subst h; exact h2
      · exact h1 k (by omega)
    · exact fun h => ⟨fun k hk => h k (by omega), h n (by omega)⟩
theorem SF_zero {L : Nat → Nat} {j u : Nat} : SF L j u = 0 ↔ ∀ i, (L u).testBit i = true → i ≤ j := by
  unfold SF
  constructor
  · intro h i hi
    rcases Nat.lt_or_ge j i with h1 | h1
    · have h2 := congrArg (fun m => m.testBit (i - j - 1)) h
      simp only [Nat.testBit_shiftRight, Nat.zero_testBit] at h2
      rw [show j + (1 + (i - j - 1)) = i by omega, hi] at h2
      cases h2
    · exact h1
  · intro h
    refine zero_bits fun i => ?_
    rw [Nat.testBit_shiftRight, Nat.testBit_shiftRight]
    rcases hb : (L u).testBit (j + (1 + i)) with _ | _
    · rfl
    · have := h _ hb
      omega
theorem BF_zero {L : Nat → Nat} {j u : Nat} : BF L j u = 0 ↔ ∀ i, (L u).testBit i = true → j ≤ i := by
  unfold BF
  constructor
  · intro h i hi
    rcases Nat.lt_or_ge i j with h1 | h1
    · have h2 := congrArg (fun m => m.testBit i) h
      simp only [Nat.testBit_and, p2m1_bit, Nat.zero_testBit, hi, h1, decide_true, Bool.and_true] at h2
      cases h2
    · exact h1
  · intro h
    refine zero_bits fun i => ?_
    rw [Nat.testBit_and, p2m1_bit]
    rcases hb : (L u).testBit i with _ | _
    · rfl
    · rw [decide_eq_false (by have := h i hb; omega)]; rfl
theorem side_iff {n x y j : Nat} {L : Nat → Nat} (hx : x ≤ n) (hy : y ≤ n) : (orL (SF L j) x = 0 ∧ orL (fun i => BF L j (y + i)) (n - y) = 0) ↔ sideP n L x y j := by
  rw [orL_zero, orL_zero]
  constructor
  · rintro ⟨h1, h2⟩
    refine ⟨fun u hu _ => SF_zero.mp (h1 u hu), fun u hu hn => ?_⟩
    have := h2 (u - y) (by omega)
    rw [show y + (u - y) = u by omega] at this
    exact BF_zero.mp this
  · rintro ⟨h1, h2⟩
    exact ⟨fun u hu => SF_zero.mpr (h1 u hu (by omega)), fun u hu => BF_zero.mpr (h2 (y + u) (by omega) (by omega))⟩
theorem orL_lt12 {F : Nat → Nat} {n : Nat} (h : ∀ k, k < n → F k < 4096) : orL F n < 4096 := orL_lt (b := 12) h
theorem SF_lt {L : Nat → Nat} {j u : Nat} (h : L u < 4096) : SF L j u < 4096 := Nat.lt_of_le_of_lt (Nat.le_trans (shr_le _ _) (shr_le _ _)) h
theorem BF_lt {L : Nat → Nat} {j u : Nat} (h : L u < 4096) : BF L j u < 4096 := Nat.lt_of_le_of_lt Nat.and_le_left h
theorem bare_bit {n q k : Nat} {L : Nat → Nat} : (andn (2 ^ q - 1) (orL L n)).testBit k = true ↔ k < q ∧ bareP n L k := by
  rw [andn_bit, p2m1_bit, ← orL_bare]
  cases (orL L n).testBit k <;> simp
theorem cast0 {n : Nat} (h : (n : Int) = 0) : n = 0 := by omega
