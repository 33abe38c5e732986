-- THE REFERENCE'S WORDS: one row of 28
def isR (M : Mem) (r n q hv ed : Nat) (K L : Nat → Nat) : Prop := M.1 r 0 = zI (n : Int) ∧ M.1 r 25 = zI (q : Int) ∧ M.1 r 26 = zI (hv : Int) ∧ M.1 r 27 = zI (ed : Int) ∧ (∀ k, k < n → M.1 r (1 + k) = zI (K k : Int)) ∧ ∀ k, k < n → M.1 r (13 + k) = zI (L k : Int)
theorem pop_step {m c p : Nat} (hm : m < 4096) (h0 : m ≠ 0) (h : c + pop m = p) : c + 1 + pop (m &&& (m - 1)) = p := by
  have := pop_dec m hm h0
  omega
theorem pop_0 {m c p : Nat} (h0 : m = 0) (h : c + pop m = p) : c = p := by
  subst h0
  have : pop 0 = 0 := by decide
  omega
theorem low_is {m k : Nat} (hm : m < 4096) (hb : m.testBit k = true) (h : ∀ i, i < k → m.testBit i = false) : (k : Int) = lowI m := by
  have h0 : m ≠ 0 := fun q => by rw [q, Nat.zero_testBit] at hb; cases hb
  have h1 := low_l m hm k (bit_lt12 hm hb) hb
  have h2 := (low_t m hm h0).1
  have h3 : ¬ low m < k := fun q => by rw [h _ q] at h2; cases h2
  simp [lowI, h0]; omega
theorem low_go {m k : Nat} (hm : m < 4096) (h0 : m ≠ 0) (hk : k ≤ low m) (hb : ¬ m.testBit k = true) : k + 1 ≤ low m := by
  have h2 := (low_t m hm h0).1
  rcases Nat.lt_or_ge k (low m) with h | h
  · omega
  · rw [show low m = k by omega] at h2
    exact absurd h2 hb
theorem low12 {m : Nat} (hm : m < 4096) (h0 : m ≠ 0) : low m < 12 := (low_t m hm h0).2
theorem nb {m k : Nat} (h : ¬ m.testBit k = true) : m.testBit k = false := by cases hb : m.testBit k <;> simp_all
theorem tmk_1 {L : Nat → Nat} {j t : Nat} (h : (L t).testBit j = true) : tmk L j t ||| 2 ^ t = tmk L j (t + 1) := by simp [tmk, tb, h]
theorem tmk_0 {L : Nat → Nat} {j t : Nat} (h : ¬ (L t).testBit j = true) : tmk L j t = tmk L j (t + 1) := by simp [tmk, tb, nb h]
theorem hig_le {m j : Nat} (hm : m < 4096) (h0 : m ≠ 0) : higI m ≤ (j : Int) ↔ ∀ i, m.testBit i = true → i ≤ j := by
  rw [show higI m = (hig m : Int) by simp [higI, h0]]
  constructor
  · intro h i hi
    have := hig_l m hm i (bit_lt12 hm hi) hi
    omega
  · intro h
    have := h _ (hig_t m hm h0).1
    omega
theorem low_ge {m j : Nat} (hm : m < 4096) (h0 : m ≠ 0) : (j : Int) ≤ lowI m ↔ ∀ i, m.testBit i = true → j ≤ i := by
  rw [show lowI m = (low m : Int) by simp [lowI, h0]]
  constructor
  · intro h i hi
    have := low_l m hm i (bit_lt12 hm hi) hi
    omega
  · intro h
    have := h _ (low_t m hm h0).1
    omega
def okU (L : Nat → Nat) (t j u : Nat) : Prop := (u < t → ∀ i, (L u).testBit i = true → i ≤ j) ∧ (t < u → ∀ i, (L u).testBit i = true → j ≤ i)
theorem ok_step {L : Nat → Nat} {t j k : Nat} (hm : L k < 4096) (h : L k = 0 ∨ ((t ≤ k ∨ higI (L k) ≤ (j : Int)) ∧ (k ≤ t ∨ (j : Int) ≤ lowI (L k)))) : okU L t j k := by
  by_cases h0 : L k = 0
  · exact ⟨fun _ i hi => (by rw [h0, Nat.zero_testBit] at hi; cases hi), fun _ i hi => (by rw [h0, Nat.zero_testBit] at hi; cases hi)⟩
  · rcases h with h | ⟨h1, h2⟩
    · exact absurd h h0
    · exact ⟨fun hu => (hig_le hm h0).mp (by omega), fun hu => (low_ge hm h0).mp (by omega)⟩
theorem open_no {n : Nat} {L : Nat → Nat} {t j k : Nat} (hk : k < n) (hm : L k < 4096) (h0 : L k ≠ 0) (h : (k < t ∧ (j : Int) < higI (L k)) ∨ (t < k ∧ lowI (L k) < (j : Int))) : ¬ openP n L t j := by
  rintro ⟨_, h1, h2⟩
  rcases h with ⟨a, b⟩ | ⟨a, b⟩
  · have := (hig_le hm h0).mpr (h1 k a hk)
    omega
  · have := (low_ge hm h0).mpr (h2 k (by omega) hk)
    omega
theorem open_yes {n : Nat} {L : Nat → Nat} {t j : Nat} (h0 : (L t).testBit j = false) (h : ∀ u, u < n → okU L t j u) : openP n L t j := ⟨h0, fun u hu hn => (h u hn).1 hu, fun u hu hn => (h u hn).2 (by omega)⟩
