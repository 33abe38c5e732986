-- SETS OF AT MOST TWELVE, AS MASKS
def pop (m : Nat) : Nat := ((List.range 12).filter (fun i => m.testBit i)).length
def low (m : Nat) : Nat := ((List.range 12).find? (fun i => m.testBit i)).getD 0
def hig (m : Nat) : Nat := ((List.range 12).reverse.find? (fun i => m.testBit i)).getD 0
theorem dec12 {P : Nat → Prop} (h : ∀ a, a < 64 → ∀ b, b < 64 → P (64 * a + b)) : ∀ m, m < 4096 → P m := fun m hm => by
  have h1 := h (m / 64) (by omega) (m % 64) (by omega)
  rwa [show 64 * (m / 64) + m % 64 = m by omega] at h1
theorem low_t : ∀ m, m < 4096 → m ≠ 0 → m.testBit (low m) = true ∧ low m < 12 := dec12 (P := fun m => m ≠ 0 → m.testBit (low m) = true ∧ low m < 12) (by decide +kernel)
theorem hig_t : ∀ m, m < 4096 → m ≠ 0 → m.testBit (hig m) = true ∧ hig m < 12 := dec12 (P := fun m => m ≠ 0 → m.testBit (hig m) = true ∧ hig m < 12) (by decide +kernel)
theorem bit_lt {m i b : Nat} (hm : m < 2 ^ b) (h : m.testBit i = true) : i < b := by
  rcases Nat.lt_or_ge i b with h1 | h1
  · exact h1
  · rw [Nat.testBit_lt_two_pow (Nat.lt_of_lt_of_le hm (Nat.pow_le_pow_right (by omega) h1))] at h
    cases h
theorem low_md : ∀ m, m < 4096 → m % 2 ^ low m = 0 := dec12 (P := fun m => m % 2 ^ low m = 0) (by decide +kernel)
theorem hig_md : ∀ m, m < 4096 → m < 2 ^ (hig m + 1) := dec12 (P := fun m => m < 2 ^ (hig m + 1)) (by decide +kernel)
theorem low_l : ∀ m, m < 4096 → ∀ i, i < 12 → m.testBit i = true → low m ≤ i := fun m hm i _ h => by
  rcases Nat.lt_or_ge i (low m) with h1 | h1
  · have h2 := Nat.testBit_mod_two_pow m (low m) i
    rw [low_md m hm, Nat.zero_testBit, decide_eq_true h1, Bool.true_and, h] at h2
    cases h2
  · exact h1
theorem hig_l : ∀ m, m < 4096 → ∀ i, i < 12 → m.testBit i = true → i ≤ hig m := fun m hm i _ h => Nat.le_of_lt_succ (bit_lt (b := hig m + 1) (hig_md m hm) h)
theorem pop_le : ∀ m, m < 4096 → pop m ≤ 12 ∧ (pop m = 0 ↔ m = 0) := dec12 (P := fun m => pop m ≤ 12 ∧ (pop m = 0 ↔ m = 0)) (by decide +kernel)
theorem pop_dec : ∀ m, m < 4096 → m ≠ 0 → pop (m &&& (m - 1)) + 1 = pop m := dec12 (P := fun m => m ≠ 0 → pop (m &&& (m - 1)) + 1 = pop m) (by decide +kernel)
theorem bit_lt12 {m i : Nat} (hm : m < 4096) (h : m.testBit i = true) : i < 12 := bit_lt (b := 12) hm h
theorem zero_bits {m : Nat} (h : ∀ i, m.testBit i = false) : m = 0 := Nat.eq_of_testBit_eq fun i => by rw [h i, Nat.zero_testBit]
/-- the tones of a syllable -/
def tmk (L : Nat → Nat) (j : Nat) : Nat → Nat
  | 0 => 0
  | t + 1 => tmk L j t ||| (tb (L t) j * 2 ^ t)
theorem tmk_bit {L : Nat → Nat} {j i : Nat} : ∀ {n : Nat}, (tmk L j n).testBit i = (decide (i < n) && (L i).testBit j)
  | 0 => by simp [tmk]
  | n + 1 => by
    rw [tmk, Nat.testBit_or, tmk_bit]
    unfold tb
    by_cases h : i = n
    · subst h
      cases hb : (L i).testBit j
      · simp
      · simp [Nat.testBit_two_pow_self]
    · have h3 : (((L n).testBit j).toNat * 2 ^ n).testBit i = false := by
        cases (L n).testBit j
        · simp
        · simp [Nat.testBit_two_pow, show ¬ n = i from fun q => h q.symm]
      rw [h3, Bool.or_false]
      by_cases h1 : i < n
      · simp [h1, show i < n + 1 by omega]
      · simp [h1, show ¬ i < n + 1 by omega]
theorem tmk_lt {L : Nat → Nat} {j n : Nat} (hn : n ≤ 12) : tmk L j n < 4096 := by
  refine Nat.lt_pow_two_of_testBit (n := 12) _ fun i hi => ?_
  rw [tmk_bit, decide_eq_false (by omega), Bool.false_and]
def bareP (n : Nat) (L : Nat → Nat) (j : Nat) : Prop := ∀ t, t < n → (L t).testBit j = false
def sideP (n : Nat) (L : Nat → Nat) (x y j : Nat) : Prop := (∀ u, u < x → u < n → ∀ i, (L u).testBit i = true → i ≤ j) ∧ ∀ u, y ≤ u → u < n → ∀ i, (L u).testBit i = true → j ≤ i
def openP (n : Nat) (L : Nat → Nat) (t j : Nat) : Prop := (L t).testBit j = false ∧ sideP n L t (t + 1) j
theorem tmk_bare {n j : Nat} {L : Nat → Nat} : tmk L j n = 0 ↔ bareP n L j := by
  constructor
  · intro h t ht
    have h1 := tmk_bit (L := L) (j := j) (i := t) (n := n)
    rw [h, Nat.zero_testBit, decide_eq_true ht, Bool.true_and] at h1
    exact h1.symm
  · intro h
    refine zero_bits fun i => ?_
    rw [tmk_bit]
    by_cases hi : i < n
    · rw [h i hi, Bool.and_false]
    · rw [decide_eq_false hi, Bool.false_and]
theorem orL_bare {n j : Nat} {L : Nat → Nat} : (orL L n).testBit j = false ↔ bareP n L j := by
  constructor
  · intro h t ht
    rcases hb : (L t).testBit j with _ | _
    · rfl
    · have := orL_bit.mpr ⟨t, ht, hb⟩
      rw [h] at this
      cases this
  · intro h
    rcases hb : (orL L n).testBit j with _ | _
    · rfl
    · obtain ⟨k, h1, h2⟩ := orL_bit.mp hb
      rw [h k h1] at h2
      cases h2
theorem p2m1_bit {q i : Nat} : (2 ^ q - 1).testBit i = decide (i < q) := Nat.testBit_two_pow_sub_one q i
theorem zb_shl01 {a n : Nat} (ha : a = 0 ∨ a = 1) (h : n < 31) : zI (a : Int) <<< (zI (n : Int) &&& 31) = zI ((a * 2 ^ n : Nat) : Int) := by
  rcases ha with rfl | rfl
  · rw [Nat.zero_mul, zI_nI, zI_nI]
    exact (by decide +kernel : ∀ n, n < 31 → (0 : Int32) <<< (nI n &&& 31) = 0) n h
  · rw [Nat.one_mul]
    exact zb_shl h
theorem zb_tst {a n : Nat} : zI ((a >>> n : Nat) : Int) &&& zI 1 = zI ((tb a n : Nat) : Int) := by
  rw [show (1 : Int) = ((1 : Nat) : Int) from rfl, zb_and, Nat.and_one_is_mod]
  unfold tb
  rw [Nat.toNat_testBit, Nat.shiftRight_eq_div_pow]
