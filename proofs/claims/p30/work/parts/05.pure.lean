-- SETS OF AT MOST TWELVE, AS MASKS
def pop (m : Nat) : Nat := ((List.range 12).filter (fun i => m.testBit i)).length
def low (m : Nat) : Nat := ((List.range 12).find? (fun i => m.testBit i)).getD 0
def hig (m : Nat) : Nat := ((List.range 12).reverse.find? (fun i => m.testBit i)).getD 0
theorem dec12 {P : Nat → Prop} (h : ∀ a, a < 64 → ∀ b, b < 64 → P (64 * a + b)) : ∀ m, m < 4096 → P m := fun m hm => by
  have h1 := h (m / 64) (by omega) (m % 64) (by omega)
  rwa [show 64 * (m / 64) + m % 64 = m by omega] at h1
theorem bit_lt {m i b : Nat} (hm : m < 2 ^ b) (h : m.testBit i = true) : i < b := by
  rcases Nat.lt_or_ge i b with h1 | h1
  · exact h1
  · rw [Nat.testBit_lt_two_pow (Nat.lt_of_lt_of_le hm (Nat.pow_le_pow_right (by omega) h1))] at h
    cases h
-- masks, by their bits
theorem nz_bit_f {m : Nat} (hm : m < 4096) (h : m ≠ 0) : ∃ i, i < 12 ∧ m.testBit i = true := by
  obtain ⟨i, hi⟩ := Nat.exists_testBit_of_ne_zero h
  exact ⟨i, bit_lt (b := 12) hm hi, hi⟩
theorem low_f {m : Nat} (hm : m < 4096) (h : m ≠ 0) : (m.testBit (low m) = true ∧ low m < 12) ∧ ∀ i, m.testBit i = true → low m ≤ i := by
  obtain ⟨i, hi, hb⟩ := nz_bit_f hm h
  cases hf : (List.range 12).find? (fun i => m.testBit i) with
  | none => exact absurd hb (List.find?_eq_none.mp hf i (List.mem_range.mpr hi))
  | some j =>
    have e : low m = j := by
      unfold low
      rw [hf]
      rfl
    obtain ⟨h1, h2, h3⟩ := List.find?_range_eq_some.mp hf
    rw [e]
    refine ⟨⟨h1, List.mem_range.mp h2⟩, fun k hk => ?_⟩
    rcases Nat.lt_or_ge k j with h4 | h4
    · have h5 : (!m.testBit k) = true := h3 k h4
      rw [hk] at h5
      cases h5
    · exact h4
theorem rv_find_f {p : Nat → Bool} : ∀ (n : Nat), (∀ j, (List.range n).reverse.find? p = some j → p j = true ∧ j < n ∧ ∀ i, i < n → p i = true → i ≤ j) ∧ ((List.range n).reverse.find? p = none → ∀ i, i < n → p i = false)
  | 0 => ⟨fun j h => (by cases h), fun _ i hi => absurd hi (Nat.not_lt_zero i)⟩
  | n + 1 => by
    have ih := rv_find_f (p := p) n
    have e : (List.range (n + 1)).reverse = n :: (List.range n).reverse := by
      rw [List.range_succ, List.reverse_append]
      rfl
    rw [e]
    cases h : p n
    · rw [List.find?_cons_of_neg (by rw [h]; decide)]
      refine ⟨fun j hj => ?_, fun hj i hi => ?_⟩
      · obtain ⟨a, b, c⟩ := ih.1 j hj
        refine ⟨a, by omega, fun i hi hp => ?_⟩
        by_cases h1 : i = n
        · subst h1
          rw [h] at hp
          cases hp
        · exact c i (by omega) hp
      · by_cases h1 : i = n
        · subst h1
          exact h
        · exact ih.2 hj i (by omega)
    · rw [List.find?_cons_of_pos h]
      refine ⟨fun j hj => ?_, fun hj => by cases hj⟩
      cases hj
      exact ⟨h, Nat.lt_succ_self n, fun i hi _ => by omega⟩
theorem hig_f {m : Nat} (hm : m < 4096) (h : m ≠ 0) : (m.testBit (hig m) = true ∧ hig m < 12) ∧ ∀ i, m.testBit i = true → i ≤ hig m := by
  obtain ⟨i, hi, hb⟩ := nz_bit_f hm h
  have hr := rv_find_f (p := fun i => m.testBit i) 12
  cases hf : (List.range 12).reverse.find? (fun i => m.testBit i) with
  | none =>
    have h9 : m.testBit i = false := hr.2 hf i hi
    rw [h9] at hb
    cases hb
  | some j =>
    have e : hig m = j := by
      unfold hig
      rw [hf]
      rfl
    obtain ⟨h1, h2, h3⟩ := hr.1 j hf
    rw [e]
    exact ⟨⟨h1, h2⟩, fun k hk => h3 k (bit_lt (b := 12) hm hk) hk⟩
theorem low_md_f : ∀ m, m < 4096 → m % 2 ^ low m = 0 := fun m hm => by
  by_cases h0 : m = 0
  · rw [h0, Nat.zero_mod]
  · refine Nat.eq_of_testBit_eq fun i => ?_
    rw [Nat.testBit_mod_two_pow, Nat.zero_testBit]
    cases h : m.testBit i
    · rw [Bool.and_false]
    · have h9 := (low_f hm h0).2 i h
      rw [decide_eq_false (by omega)]
      rfl
theorem hig_md_f : ∀ m, m < 4096 → m < 2 ^ (hig m + 1) := fun m hm => by
  by_cases h0 : m = 0
  · rw [h0]
    exact Nat.two_pow_pos _
  · refine Nat.lt_pow_two_of_testBit m fun i hi => ?_
    cases h : m.testBit i
    · rfl
    · have h9 := (hig_f hm h0).2 i h
      omega
theorem pop_le_f : ∀ m, m < 4096 → pop m ≤ 12 ∧ (pop m = 0 ↔ m = 0) := fun m hm => by
  refine ⟨?_, fun h => ?_, fun h => by subst h; decide⟩
  · have h9 := List.length_filter_le (fun i => m.testBit i) (List.range 12)
    rw [List.length_range] at h9
    exact h9
  · by_cases h0 : m = 0
    · exact h0
    · obtain ⟨i, hi, hb⟩ := nz_bit_f hm h0
      exact absurd hb (List.filter_eq_nil_iff.mp (List.eq_nil_of_length_eq_zero h) i (List.mem_range.mpr hi))
theorem fl_n_f {p : Nat → Bool} {n : Nat} : ((List.range (n + 1)).filter p).length = ((List.range n).filter p).length + (p n).toNat := by
  rw [List.range_succ, List.filter_append, List.length_append]
  congr 1
  cases h : p n
  · simp [h]
  · simp [h]
theorem fl_l_f {p q : Nat → Bool} {l : Nat} (hl : p l = true) (hq : ∀ i, q i = (p i && !(decide (i = l)))) : ∀ n, ((List.range n).filter q).length + (if l < n then 1 else 0) = ((List.range n).filter p).length
  | 0 => rfl
  | n + 1 => by
    have ih := fl_l_f hl hq n
    rw [fl_n_f, fl_n_f, hq n]
    by_cases h : n = l
    · subst h
      rw [if_neg (Nat.lt_irrefl n)] at ih
      rw [if_pos (Nat.lt_succ_self n), hl, decide_eq_true rfl]
      show _ + 0 + 1 = _ + 1
      omega
    · have e : (p n && !(decide (n = l))) = p n := by
        rw [decide_eq_false h]
        cases p n <;> rfl
      rw [e]
      by_cases h1 : l < n
      · rw [if_pos h1] at ih
        rw [if_pos (by omega)]
        omega
      · rw [if_neg h1] at ih
        rw [if_neg (by omega)]
        omega
theorem pop_cl_f {m l : Nat} (hb : m.testBit l = true) (hl : l < 12) : pop (andn m (2 ^ l)) + 1 = pop m := by
  have hq : ∀ i, (andn m (2 ^ l)).testBit i = (m.testBit i && !(decide (i = l))) := fun i => by
    rw [andn_bit]
    by_cases h : i = l
    · subst h
      rw [Nat.testBit_two_pow_self, decide_eq_true rfl]
    · rw [Nat.testBit_two_pow_of_ne (fun q => h q.symm), decide_eq_false h]
  have h := fl_l_f (p := fun i => m.testBit i) (q := fun i => (andn m (2 ^ l)).testBit i) (l := l) hb hq 12
  rw [if_pos hl] at h
  exact h
theorem low_and_f : ∀ m, m < 4096 → m ≠ 0 → m &&& (m - 1) = andn m (2 ^ low m) := fun m hm h0 => by
  obtain ⟨⟨hb, hl⟩, hle⟩ := low_f hm h0
  generalize low m = l at hb hl hle
  have h1 : m % 2 ^ (l + 1) = 2 ^ l := by
    refine Nat.eq_of_testBit_eq fun i => ?_
    rw [Nat.testBit_mod_two_pow]
    by_cases h : i = l
    · subst h
      rw [Nat.testBit_two_pow_self, hb, decide_eq_true (Nat.lt_succ_self i)]
      rfl
    · rw [Nat.testBit_two_pow_of_ne (fun q => h q.symm)]
      by_cases h2 : i < l + 1
      · cases h3 : m.testBit i
        · rw [Bool.and_false]
        · have h9 := hle i h3
          omega
      · rw [decide_eq_false h2]
        rfl
  have h2 : m = 2 ^ (l + 1) * (m / 2 ^ (l + 1)) + 2 ^ l := by
    have h9 := Nat.div_add_mod m (2 ^ (l + 1))
    rw [h1] at h9
    exact h9.symm
  have hp := Nat.two_pow_pos l
  have h3 : m - 1 = 2 ^ (l + 1) * (m / 2 ^ (l + 1)) + (2 ^ l - 1) := by omega
  have p1 : 2 ^ l < 2 ^ (l + 1) := Nat.pow_lt_pow_right (by decide) (Nat.lt_succ_self l)
  refine Nat.eq_of_testBit_eq fun i => ?_
  have e1 := (congrArg (fun x => Nat.testBit x i) h2).trans (Nat.testBit_two_pow_mul_add _ p1 i)
  have e2 := (congrArg (fun x => Nat.testBit x i) h3).trans (Nat.testBit_two_pow_mul_add _ (show 2 ^ l - 1 < 2 ^ (l + 1) by omega) i)
  rw [Nat.testBit_and, andn_bit]
  by_cases h : i < l + 1
  · rw [if_pos h] at e1 e2
    rw [e1, e2, Nat.testBit_two_pow_sub_one]
    by_cases h4 : i = l
    · subst h4
      rw [Nat.testBit_two_pow_self, decide_eq_false (Nat.lt_irrefl i)]
      rfl
    · rw [Nat.testBit_two_pow_of_ne (fun q => h4 q.symm)]
      rfl
  · rw [if_neg h] at e1 e2
    rw [e1, e2, Nat.testBit_two_pow_of_ne (show l ≠ i by omega)]
    cases (m / 2 ^ (l + 1)).testBit (i - (l + 1)) <;> rfl
theorem pop_low_f : ∀ m, m < 4096 → m ≠ 0 → pop (andn m (2 ^ low m)) + 1 = pop m := fun m hm h => pop_cl_f (low_f hm h).1.1 (low_f hm h).1.2
theorem pop_hig_f : ∀ m, m < 4096 → m ≠ 0 → pop (andn m (2 ^ hig m)) + 1 = pop m := fun m hm h => pop_cl_f (hig_f hm h).1.1 (hig_f hm h).1.2
theorem pop_dec_f : ∀ m, m < 4096 → m ≠ 0 → pop (m &&& (m - 1)) + 1 = pop m := fun m hm h => by
  rw [low_and_f m hm h]
  exact pop_low_f m hm h
theorem clr_f {x b : Nat} (h : x.testBit b = true) : andn x (2 ^ b) < x := by
  have h1 := andn_le x (2 ^ b)
  rcases Nat.lt_or_ge (andn x (2 ^ b)) x with h2 | h2
  · exact h2
  · have h3 : andn x (2 ^ b) = x := by omega
    have h4 := andn_bit x (2 ^ b) b
    rw [h3, h, Nat.testBit_two_pow_self] at h4
    cases h4
theorem clr_low_f : ∀ x, x < 4096 → x = 0 ∨ andn x (2 ^ low x) < x := fun x hx => by
  by_cases h : x = 0
  · exact Or.inl h
  · exact Or.inr (clr_f (low_f hx h).1.1)
theorem clr_hig_f : ∀ x, x < 4096 → x = 0 ∨ andn x (2 ^ hig x) < x := fun x hx => by
  by_cases h : x = 0
  · exact Or.inl h
  · exact Or.inr (clr_f (hig_f hx h).1.1)
theorem or_cl_f {m k : Nat} (h : m.testBit k = false) : andn (m ||| 2 ^ k) (2 ^ k) = m := by
  refine Nat.eq_of_testBit_eq fun i => ?_
  rw [andn_bit, Nat.testBit_or]
  by_cases h1 : i = k
  · subst h1
    rw [Nat.testBit_two_pow_self, h]
    rfl
  · rw [Nat.testBit_two_pow_of_ne (fun q => h1 q.symm)]
    cases m.testBit i <;> rfl
theorem or_at_f {m k j : Nat} (h : (m ||| 2 ^ k).testBit j = true) : m.testBit j = true ∨ j = k := by
  rw [Nat.testBit_or, Bool.or_eq_true] at h
  rcases h with h | h
  · exact Or.inl h
  · by_cases h1 : j = k
    · exact Or.inr h1
    · rw [Nat.testBit_two_pow_of_ne (fun q => h1 q.symm)] at h
      cases h
theorem or_nz_f {m k : Nat} (hm : m < 4096) (hk : k < 12) : (m ||| 2 ^ k).testBit k = true ∧ m ||| 2 ^ k < 4096 ∧ m ||| 2 ^ k ≠ 0 := by
  have hb : (m ||| 2 ^ k).testBit k = true := by rw [Nat.testBit_or, Nat.testBit_two_pow_self, Bool.or_true]
  refine ⟨hb, Nat.or_lt_two_pow (n := 12) hm (Nat.pow_lt_pow_right (by decide) hk), fun q => ?_⟩
  rw [q, Nat.zero_testBit] at hb
  cases hb
theorem hig_nx_f : ∀ m, m < 4096 → m ≠ 0 → hig m + 1 < 12 → hig (m ||| 2 ^ (hig m + 1)) = hig m + 1 ∧ andn (m ||| 2 ^ (hig m + 1)) (2 ^ (hig m + 1)) = m := fun m hm h0 h1 => by
  have hf := hig_f hm h0
  generalize hig m = g at hf h1
  have hn : m.testBit (g + 1) = false := by
    cases h : m.testBit (g + 1)
    · rfl
    · have h9 := hf.2 _ h
      omega
  refine ⟨?_, or_cl_f hn⟩
  obtain ⟨a, b, c⟩ := or_nz_f hm h1
  have hf2 := hig_f b c
  have h3 := hf2.2 _ a
  rcases or_at_f hf2.1.1 with h4 | h4
  · have h5 := hf.2 _ h4
    omega
  · exact h4
theorem low_nx_f : ∀ m, m < 4096 → m ≠ 0 → 1 ≤ low m → low (m ||| 2 ^ (low m - 1)) = low m - 1 ∧ andn (m ||| 2 ^ (low m - 1)) (2 ^ (low m - 1)) = m := fun m hm h0 h1 => by
  have hf := low_f hm h0
  generalize low m = g at hf h1
  have hn : m.testBit (g - 1) = false := by
    cases h : m.testBit (g - 1)
    · rfl
    · have h9 := hf.2 _ h
      omega
  refine ⟨?_, or_cl_f hn⟩
  obtain ⟨a, b, c⟩ := or_nz_f hm (show g - 1 < 12 by omega)
  have hf2 := low_f b c
  have h3 := hf2.2 _ a
  rcases or_at_f hf2.1.1 with h4 | h4
  · have h5 := hf.2 _ h4
    omega
  · exact h4
theorem low_t : ∀ m, m < 4096 → m ≠ 0 → m.testBit (low m) = true ∧ low m < 12 := fun _ hm h => (low_f hm h).1
theorem hig_t : ∀ m, m < 4096 → m ≠ 0 → m.testBit (hig m) = true ∧ hig m < 12 := fun _ hm h => (hig_f hm h).1
theorem low_md : ∀ m, m < 4096 → m % 2 ^ low m = 0 := low_md_f
theorem hig_md : ∀ m, m < 4096 → m < 2 ^ (hig m + 1) := hig_md_f
theorem low_l : ∀ m, m < 4096 → ∀ i, i < 12 → m.testBit i = true → low m ≤ i := fun m hm i _ h => by
  rcases Nat.lt_or_ge i (low m) with h1 | h1
  · have h2 := Nat.testBit_mod_two_pow m (low m) i
    rw [low_md m hm, Nat.zero_testBit, decide_eq_true h1, Bool.true_and, h] at h2
    cases h2
  · exact h1
theorem hig_l : ∀ m, m < 4096 → ∀ i, i < 12 → m.testBit i = true → i ≤ hig m := fun m hm i _ h => Nat.le_of_lt_succ (bit_lt (b := hig m + 1) (hig_md m hm) h)
theorem pop_le : ∀ m, m < 4096 → pop m ≤ 12 ∧ (pop m = 0 ↔ m = 0) := pop_le_f
theorem pop_dec : ∀ m, m < 4096 → m ≠ 0 → pop (m &&& (m - 1)) + 1 = pop m := pop_dec_f
theorem bit_lt12 {m i : Nat} (hm : m < 4096) (h : m.testBit i = true) : i < 12 := bit_lt (b := 12) hm h
theorem zero_bits {m : Nat} (h : ∀ i, m.testBit i = false) : m = 0 := Nat.eq_of_testBit_eq fun i => by rw [h i, Nat.zero_testBit]
/-- the tones of a syllable -/
def tmk (L : Nat → Nat) (j : Nat) : Nat → Nat
  | 0 => 0
  | t + 1 => tmk L j t ||| (tb (L t) j * 2 ^ t)
theorem tmk_bit {L : Nat → Nat} {j i : Nat} : ∀ {n : Nat}, (tmk L j n).testBit i = (decide (i < n) && (L i).testBit j)
  | 0 => by simp [tmk]
  | n + 1 => by
    rw [tmk, Nat.testBit_or, tmk_bit]
    unfold tb
    by_cases h : i = n
    · subst h
      cases hb : (L i).testBit j
      · simp
      · simp [Nat.testBit_two_pow_self]
    · have h3 : (((L n).testBit j).toNat * 2 ^ n).testBit i = false := by
        cases (L n).testBit j
        · simp
        · simp [Nat.testBit_two_pow, show ¬ n = i from fun q => h q.symm]
      rw [h3, Bool.or_false]
      by_cases h1 : i < n
      · simp [h1, show i < n + 1 by omega]
      · simp [h1, show ¬ i < n + 1 by omega]
theorem tmk_lt {L : Nat → Nat} {j n : Nat} (hn : n ≤ 12) : tmk L j n < 4096 := by
  refine Nat.lt_pow_two_of_testBit (n := 12) _ fun i hi => ?_
  rw [tmk_bit, decide_eq_false (by omega), Bool.false_and]
def bareP (n : Nat) (L : Nat → Nat) (j : Nat) : Prop := ∀ t, t < n → (L t).testBit j = false
def sideP (n : Nat) (L : Nat → Nat) (x y j : Nat) : Prop := (∀ u, u < x → u < n → ∀ i, (L u).testBit i = true → i ≤ j) ∧ ∀ u, y ≤ u → u < n → ∀ i, (L u).testBit i = true → j ≤ i
def openP (n : Nat) (L : Nat → Nat) (t j : Nat) : Prop := (L t).testBit j = false ∧ sideP n L t (t + 1) j
theorem tmk_bare {n j : Nat} {L : Nat → Nat} : tmk L j n = 0 ↔ bareP n L j := by
  constructor
  · intro h t ht
    have h1 := tmk_bit (L := L) (j := j) (i := t) (n := n)
    rw [h, Nat.zero_testBit, decide_eq_true ht, Bool.true_and] at h1
    exact h1.symm
  · intro h
    refine zero_bits fun i => ?_
    rw [tmk_bit]
    by_cases hi : i < n
    · rw [h i hi, Bool.and_false]
    · rw [decide_eq_false hi, Bool.false_and]
theorem orL_bare {n j : Nat} {L : Nat → Nat} : (orL L n).testBit j = false ↔ bareP n L j := by
  constructor
  · intro h t ht
    rcases hb : (L t).testBit j with _ | _
    · rfl
    · have := orL_bit.mpr ⟨t, ht, hb⟩
      rw [h] at this
      cases this
  · intro h
    rcases hb : (orL L n).testBit j with _ | _
    · rfl
    · obtain ⟨k, h1, h2⟩ := orL_bit.mp hb
      rw [h k h1] at h2
      cases h2
theorem p2m1_bit {q i : Nat} : (2 ^ q - 1).testBit i = decide (i < q) := Nat.testBit_two_pow_sub_one q i
theorem zb_shl01 {a n : Nat} (ha : a = 0 ∨ a = 1) (h : n < 31) : zI (a : Int) <<< (zI (n : Int) &&& 31) = zI ((a * 2 ^ n : Nat) : Int) := by
  rcases ha with rfl | rfl
  · rw [Nat.zero_mul, zI_nI, zI_nI]
    exact (by decide +kernel : ∀ n, n < 31 → (0 : Int32) <<< (nI n &&& 31) = 0) n h
  · rw [Nat.one_mul]
    exact zb_shl h
theorem zb_tst {a n : Nat} : zI ((a >>> n : Nat) : Int) &&& zI 1 = zI ((tb a n : Nat) : Int) := by
  rw [show (1 : Int) = ((1 : Nat) : Int) from rfl, zb_and, Nat.and_one_is_mod]
  unfold tb
  rw [Nat.toNat_testBit, Nat.shiftRight_eq_div_pow]
