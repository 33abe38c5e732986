-- what is asked of a word
/-- tones that fall: how many among the first, whether a high one stands there, whether a low one since -/
def fwS (K : Nat → Nat) : Nat → Nat × Nat × Nat
  | 0 => (0, 0, 0)
  | u + 1 => if K u = 0 then ((fwS K u).1, (fwS K u).2.1, 1) else if K u = 2 then (if (fwS K u).2.1 = 1 ∧ (fwS K u).2.2 = 1 then ((fwS K u).1 + 1, 1, 0) else ((fwS K u).1, 1, 0)) else fwS K u
theorem fw_0 {K : Nat → Nat} {u : Nat} (h : K u = 0) : fwS K (u + 1) = ((fwS K u).1, (fwS K u).2.1, 1) := by rw [fwS, if_pos h]
theorem fw_1 {K : Nat → Nat} {u : Nat} (h : K u ≠ 0) (h1 : K u ≠ 2) : fwS K (u + 1) = fwS K u := by rw [fwS, if_neg h, if_neg h1]
theorem fw_y {K : Nat → Nat} {u : Nat} (h : K u = 2) (h1 : (fwS K u).2.1 = 1) (h2 : (fwS K u).2.2 = 1) : fwS K (u + 1) = ((fwS K u).1 + 1, 1, 0) := by rw [fwS, if_neg (by omega), if_pos h, if_pos ⟨h1, h2⟩]
theorem fw_n {K : Nat → Nat} {u : Nat} (h : K u = 2) (h1 : ¬ ((fwS K u).2.1 = 1 ∧ (fwS K u).2.2 = 1)) : fwS K (u + 1) = ((fwS K u).1, 1, 0) := by rw [fwS, if_neg (by omega), if_pos h, if_neg h1]
theorem fw_b {K : Nat → Nat} : ∀ u, (fwS K u).1 ≤ u ∧ (fwS K u).2.1 ≤ 1 ∧ (fwS K u).2.2 ≤ 1
  | 0 => ⟨Nat.le_refl 0, Nat.zero_le 1, Nat.zero_le 1⟩
  | u + 1 => by
    have h := fw_b (K := K) u
    by_cases h0 : K u = 0
    · rw [fw_0 h0]; exact ⟨by show (fwS K u).1 ≤ u + 1; omega, h.2.1, Nat.le_refl 1⟩
    · by_cases h2 : K u = 2
      · by_cases h3 : (fwS K u).2.1 = 1 ∧ (fwS K u).2.2 = 1
        · rw [fw_y h2 h3.1 h3.2]; exact ⟨by show (fwS K u).1 + 1 ≤ u + 1; omega, Nat.le_refl 1, Nat.zero_le 1⟩
        · rw [fw_n h2 h3]; exact ⟨by show (fwS K u).1 ≤ u + 1; omega, Nat.le_refl 1, Nat.zero_le 1⟩
      · rw [fw_1 h0 h2]; omega
/-- whether a tone is one that falls -/
def isF (K : Nat → Nat) (t : Nat) : Prop := K t = 2 ∧ (fwS K t).2.1 = 1 ∧ (fwS K t).2.2 = 1
theorem fw_s {K : Nat → Nat} {u : Nat} : (isF K u → (fwS K (u + 1)).1 = (fwS K u).1 + 1) ∧ (¬ isF K u → (fwS K (u + 1)).1 = (fwS K u).1) := by
  refine ⟨fun h => by rw [fw_y h.1 h.2.1 h.2.2], fun h => ?_⟩
  by_cases h0 : K u = 0
  · rw [fw_0 h0]
  · by_cases h2 : K u = 2
    · rw [fw_n h2 (fun q => h ⟨h2, q.1, q.2⟩)]
    · rw [fw_1 h0 h2]
/-- going back from t: at k, whether a low one came; no high one did -/
def bkI (K : Nat → Nat) (t k lw : Nat) : Prop := k ≤ t ∧ (fwS K t).2.1 = (fwS K k).2.1 ∧ ((lw = 1 ∧ (fwS K t).2.2 = 1) ∨ (lw = 0 ∧ (fwS K t).2.2 = (fwS K k).2.2))
theorem bkI_0 {K : Nat → Nat} {t : Nat} : bkI K t t 0 := ⟨Nat.le_refl t, rfl, Or.inr ⟨rfl, rfl⟩⟩
theorem bkI_l {K : Nat → Nat} {t k lw : Nat} (h : bkI K t (k + 1) lw) (h0 : K k = 0) : bkI K t k 1 := by
  obtain ⟨a, b, c⟩ := h
  rw [fw_0 h0] at b c
  refine ⟨by omega, b, Or.inl ⟨rfl, ?_⟩⟩
  rcases c with c | c
  · exact c.2
  · exact c.2
theorem bkI_m {K : Nat → Nat} {t k lw : Nat} (h : bkI K t (k + 1) lw) (h0 : K k ≠ 2) (h1 : K k ≠ 0 ∨ lw = 1) : bkI K t k lw := by
  by_cases h2 : K k = 0
  · have h3 : lw = 1 := by omega
    subst h3
    exact bkI_l h h2
  · obtain ⟨a, b, c⟩ := h
    rw [fw_1 h2 h0] at b c
    exact ⟨by omega, b, c⟩
theorem bkI_h {K : Nat → Nat} {t k lw : Nat} (h : bkI K t (k + 1) lw) (ht : K t = 2) (h0 : K k = 2) : (isF K t ↔ lw = 1) := by
  obtain ⟨a, b, c⟩ := h
  have e1 : (fwS K (k + 1)).2.1 = 1 := by
    by_cases h3 : (fwS K k).2.1 = 1 ∧ (fwS K k).2.2 = 1
    · rw [fw_y h0 h3.1 h3.2]
    · rw [fw_n h0 h3]
  have e2 : (fwS K (k + 1)).2.2 = 0 := by
    by_cases h3 : (fwS K k).2.1 = 1 ∧ (fwS K k).2.2 = 1
    · rw [fw_y h0 h3.1 h3.2]
    · rw [fw_n h0 h3]
  unfold isF
  omega
theorem bkI_e {K : Nat → Nat} {t lw : Nat} (h : bkI K t 0 lw) : ¬ isF K t := by
  obtain ⟨a, b, c⟩ := h
  have e1 : (fwS K 0).2.1 = 0 := rfl
  unfold isF
  omega
/-- the reading of a syllable, from a tone on -/
def rdV9 (K L : Nat → Nat) (s : Nat) : Nat → Nat → Nat
  | 0, _ => 0
  | d + 1, k => if (L k).testBit s = true then rdV9 K L s d (k + 1) * 4 + K k + 1 else rdV9 K L s d (k + 1)
theorem rd_y {K L : Nat → Nat} {s d k : Nat} (h : (L k).testBit s = true) : rdV9 K L s (d + 1) k = rdV9 K L s d (k + 1) * 4 + K k + 1 := by rw [rdV9, if_pos h]
theorem rd_n {K L : Nat → Nat} {s d k : Nat} (h : ¬ (L k).testBit s = true) : rdV9 K L s (d + 1) k = rdV9 K L s d (k + 1) := by rw [rdV9, if_neg h]
theorem rd_b {K L : Nat → Nat} {s : Nat} : ∀ (d k : Nat), (∀ j, k ≤ j → j < k + d → K j ≤ 2) → rdV9 K L s d k < 4 ^ d
  | 0, _, _ => by show 0 < 1; decide
  | d + 1, k, h => by
    have h1 := rd_b (K := K) (L := L) (s := s) d (k + 1) (fun j a b => h j (by omega) (by omega))
    have h2 := h k (Nat.le_refl k) (by omega)
    rw [Nat.pow_succ]
    by_cases h3 : (L k).testBit s = true
    · rw [rd_y h3]; omega
    · rw [rd_n h3]; omega
theorem p4_12 {d : Nat} (h : d ≤ 12) : 4 ^ d ≤ 16777216 := Nat.le_trans (Nat.pow_le_pow_right (by decide) h) (by decide)
/-- the reading of a syllable of a word -/
def rdW9 (o : Wo) (s : Nat) : Nat := rdV9 o.2.1 o.2.2 s o.1 0
theorem rdW_b {q s : Nat} {o : Wo} (h : okW q o) : rdW9 o s < 16777216 := by
  have h1 := rd_b (K := o.2.1) (L := o.2.2) (s := s) o.1 0 (fun j _ hj => (h.2.2 j (by omega)).1)
  have h2 := p4_12 h.1
  unfold rdW9
  omega
/-- the first bare syllable; how many there are, if none is -/
def fbF (n q : Nat) (L : Nat → Nat) : Nat := if andn (2 ^ q - 1) (orL L n) = 0 then q else low (andn (2 ^ q - 1) (orL L n))
theorem fb_lt {n q : Nat} {L : Nat → Nat} (hq : q ≤ 12) : andn (2 ^ q - 1) (orL L n) < 4096 := by
  have h := andn_le (2 ^ q - 1) (orL L n)
  have h1 : 2 ^ q ≤ 4096 := Nat.le_trans (Nat.pow_le_pow_right (by decide) hq) (by decide)
  have h2 : 0 < 2 ^ q := Nat.two_pow_pos q
  omega
theorem fb_at {n q s : Nat} {L : Nat → Nat} (hq : q ≤ 12) (hs : s ≤ q) (hb : ∀ j, j < s → ¬ bareP n L j) (he : s = q ∨ bareP n L s) : s = fbF n q L := by
  unfold fbF
  by_cases h0 : andn (2 ^ q - 1) (orL L n) = 0
  · rw [if_pos h0]
    rcases he with he | he
    · exact he
    · rcases Nat.lt_or_ge s q with h1 | h1
      · have h2 := (bare_bit (n := n) (q := q) (k := s) (L := L)).mpr ⟨h1, he⟩
        rw [h0, Nat.zero_testBit] at h2
        cases h2
      · omega
  · rw [if_neg h0]
    have h1 := low_t _ (fb_lt hq) h0
    have h2 := (bare_bit (n := n) (q := q) (L := L)).mp h1.1
    rcases Nat.lt_trichotomy s (low (andn (2 ^ q - 1) (orL L n))) with h3 | h3 | h3
    · rcases he with he | he
      · omega
      · have h4 := (bare_bit (n := n) (q := q) (k := s) (L := L)).mpr ⟨by omega, he⟩
        have h5 := low_l _ (fb_lt hq) s (by omega) h4
        omega
    · exact h3
    · exact absurd h2.2 (hb _ h3)
/-- bare ones, one by one -/
noncomputable def brF (n : Nat) (L : Nat → Nat) : Nat → Nat
  | 0 => 0
  | s + 1 => @ite Nat (bareP n L s) (Classical.propDecidable _) (brF n L s ||| 2 ^ s) (brF n L s)
theorem br_y {n s : Nat} {L : Nat → Nat} (h : bareP n L s) : brF n L (s + 1) = brF n L s ||| 2 ^ s := by rw [brF]; exact @if_pos _ (Classical.propDecidable _) h _ _ _
theorem br_n {n s : Nat} {L : Nat → Nat} (h : ¬ bareP n L s) : brF n L (s + 1) = brF n L s := by rw [brF]; exact @if_neg _ (Classical.propDecidable _) h _ _ _
theorem br_bit {n k : Nat} {L : Nat → Nat} : ∀ {s : Nat}, (brF n L s).testBit k = true ↔ k < s ∧ bareP n L k
  | 0 => ⟨fun h => (by rw [show brF n L 0 = 0 from rfl, Nat.zero_testBit] at h; cases h), fun h => absurd h.1 (Nat.not_lt_zero k)⟩
  | s + 1 => by
    have ih := br_bit (n := n) (k := k) (L := L) (s := s)
    by_cases h : bareP n L s
    · rw [br_y h, Nat.testBit_or, Bool.or_eq_true, ih]
      by_cases h1 : k = s
      · subst h1
        rw [Nat.testBit_two_pow_self]
        exact ⟨fun _ => ⟨Nat.lt_succ_self k, h⟩, fun _ => Or.inr rfl⟩
      · rw [Nat.testBit_two_pow_of_ne (fun q => h1 q.symm)]
        constructor
        · rintro (h2 | h2)
          · exact ⟨by omega, h2.2⟩
          · cases h2
        · rintro ⟨h2, h3⟩
          exact Or.inl ⟨by omega, h3⟩
    · rw [br_n h, ih]
      constructor
      · rintro ⟨h2, h3⟩
        exact ⟨by omega, h3⟩
      · rintro ⟨h2, h3⟩
        by_cases h1 : k = s
        · subst h1; exact absurd h3 h
        · exact ⟨by omega, h3⟩
theorem br_eq {n q : Nat} {L : Nat → Nat} : brF n L q = andn (2 ^ q - 1) (orL L n) := by
  refine Nat.eq_of_testBit_eq fun k => ?_
  have h1 := br_bit (n := n) (k := k) (L := L) (s := q)
  have h2 := bare_bit (n := n) (q := q) (k := k) (L := L)
  cases ha : (brF n L q).testBit k <;> cases hb : (andn (2 ^ q - 1) (orL L n)).testBit k
  · rfl
  · exact absurd (h1.mpr (h2.mp hb)) (by rw [ha]; decide)
  · exact absurd (h2.mpr (h1.mp ha)) (by rw [hb]; decide)
  · rfl
theorem br_le {n : Nat} {L : Nat → Nat} {s : Nat} (h : s ≤ 12) : brF n L s < 4096 := by rw [br_eq]; exact fb_lt h
theorem maxP_s {F : Nat → Nat} {t : Nat} : maxP F (t + 1) = if maxP F t < F t then F t else maxP F t := by rw [maxP]
theorem maxP_y {F : Nat → Nat} {t : Nat} (h : maxP F t < F t) : maxP F (t + 1) = F t := by rw [maxP_s, if_pos h]
theorem maxP_n {F : Nat → Nat} {t : Nat} (h : ¬ maxP F t < F t) : maxP F (t + 1) = maxP F t := by rw [maxP_s, if_neg h]
-- the answers
def orN (z : Int) : Int := if z = -1 then -2 else z
theorem orN_y {z : Int} (h : z = -1) : orN z = -2 := by unfold orN; rw [if_pos h]
theorem orN_n {z : Int} (h : z ≠ -1) : orN z = z := by unfold orN; rw [if_neg h]
theorem orN_0 {m : Nat} (h : m = 0) : orN (lowI m) = -2 ∧ orN (higI m) = -2 := by
  subst h
  exact ⟨rfl, rfl⟩
theorem orN_z {m : Nat} (h : m ≠ 0) : orN (lowI m) = lowI m ∧ orN (higI m) = higI m := by
  rw [lowI_nz h, higI_nz h]
  exact ⟨orN_n (by omega), orN_n (by omega)⟩
/-- a word asked: how many tones, syllables, lines .. -/
def hasA (w : Int) (x : Fw) : Int := if w = 0 then (x.2.2.2.1 : Int) else if w = 1 then (x.1 : Int) else if w = 2 then ((sumP (fun t => pop (x.2.2.2.2.2 t)) x.2.2.2.1 : Nat) : Int) else if w = 3 then ((flt x.2.2.2.2.2 x.2.2.2.1 : Nat) : Int) else if w = 4 then ((andn (2 ^ x.1 - 1) (orL x.2.2.2.2.2 x.2.2.2.1) : Nat) : Int) else if w = 5 then (((fwS x.2.2.2.2.1 x.2.2.2.1).1 : Nat) : Int) else if w = 6 then ((maxP (fun s => pop (tmk x.2.2.2.2.2 s x.2.2.2.1)) x.1 : Nat) : Int) else if w = 7 then ((maxP (fun t => pop (x.2.2.2.2.2 t)) x.2.2.2.1 : Nat) : Int) else if w = 8 then ((fbF x.2.2.2.1 x.1 x.2.2.2.2.2 : Nat) : Int) else -1
def toneA (t w : Int) (x : Fw) : Int := if ¬ (0 ≤ t ∧ t < (x.2.2.2.1 : Int)) then (if w = 4 then -100 else -1) else if w = 0 then ((x.2.2.2.2.1 t.toNat : Nat) : Int) else if w = 1 then orN (lowI (x.2.2.2.2.2 t.toNat)) else if w = 2 then orN (higI (x.2.2.2.2.2 t.toNat)) else if w = 3 then ((pop (x.2.2.2.2.2 t.toNat) : Nat) : Int) else if w = 4 then 3 * ((x.2.2.2.2.1 t.toNat : Nat) : Int) + 3 - (((fwS x.2.2.2.2.1 (t.toNat + 1)).1 : Nat) : Int) else -1
def sylA (u w : Int) (x : Fw) : Int := if ¬ (0 ≤ u ∧ u < (x.1 : Int)) then -1 else if w = 0 then ((tb x.2.1 u.toNat : Nat) : Int) else if w = 1 then ((tb x.2.2.1 u.toNat : Nat) : Int) else if w = 2 then ((pop (tmk x.2.2.2.2.2 u.toNat x.2.2.2.1) : Nat) : Int) else if w = 3 then orN (lowI (tmk x.2.2.2.2.2 u.toNat x.2.2.2.1)) else if w = 4 then orN (higI (tmk x.2.2.2.2.2 u.toNat x.2.2.2.1)) else if w = 5 then ((rdW9 x.2.2.2 u.toNat : Nat) : Int) else -1
def linA (t : Int) (x : Fw) : Int := if 0 ≤ t ∧ t < (x.2.2.2.1 : Int) then ((x.2.2.2.2.2 t.toNat : Nat) : Int) else -1
noncomputable def opnA (t u : Int) (x : Fw) : Int := if 0 ≤ t ∧ t < (x.2.2.2.1 : Int) ∧ 0 ≤ u ∧ u < (x.1 : Int) then @ite Int (openP x.2.2.2.1 x.2.2.2.2.2 t.toNat u.toNat) (Classical.propDecidable _) 1 0 else -1
/-- asked of the word that comes of the first rules -/
noncomputable def ofA (Ps : Nat → Nat → Int) (m : Nat) (x : Fw) (n : Int) (f : Fw → Int) : Int := if 0 ≤ n ∧ n ≤ (m : Int) then f (x.1, x.2.1, x.2.2.1, sg9 Ps x n.toNat) else -1
theorem ofA_y {Ps : Nat → Nat → Int} {m nn : Nat} {x : Fw} {f : Fw → Int} (h : nn ≤ m) : ofA Ps m x (nn : Int) f = f (x.1, x.2.1, x.2.2.1, sg9 Ps x nn) := by
  unfold ofA
  rw [if_pos (by omega), Int.toNat_natCast]
theorem ofA_n {Ps : Nat → Nat → Int} {m : Nat} {x : Fw} {n : Int} {f : Fw → Int} (h : ¬ (0 ≤ n ∧ n ≤ (m : Int))) : ofA Ps m x n f = -1 := by
  unfold ofA
  rw [if_neg h]
theorem al_of {Ps : Nat → Nat → Int} {m q hv ed hv2 ed2 : Nat} {o : Wo} {n : Int} {f : Fw → Int} (hf : ∀ a b, alF a b → f a = f b) (hG : ∀ j, j < m → okG (Ps j)) (hk : okW q o) (h1 : lkB q hv hv2) (h2 : lkB q ed ed2) : ofA Ps m (q, hv, ed, o) n f = ofA Ps m (q, hv2, ed2, o) n f := by
  by_cases h : 0 ≤ n ∧ n ≤ (m : Int)
  · unfold ofA
    rw [if_pos h, if_pos h, (sg9_l hG hk h1 h2 (show n.toNat ≤ m by omega)).1]
    exact hf _ _ (alF.e h1 h2)
  · rw [ofA_n h, ofA_n h]
theorem hasA_l {w : Int} : ∀ a b, alF a b → hasA w a = hasA w b := fun a b h => by
  obtain ⟨q, hv, ed, hv2, ed2, o, rfl, rfl, _, _⟩ := h.i
  rfl
theorem toneA_l {t w : Int} : ∀ a b, alF a b → toneA t w a = toneA t w b := fun a b h => by
  obtain ⟨q, hv, ed, hv2, ed2, o, rfl, rfl, _, _⟩ := h.i
  rfl
theorem sylA_l {t w : Int} : ∀ a b, alF a b → sylA t w a = sylA t w b := fun a b h => by
  obtain ⟨q, hv, ed, hv2, ed2, o, rfl, rfl, h1, h2⟩ := h.i
  unfold sylA
  by_cases h : 0 ≤ t ∧ t < (q : Int)
  · show (if ¬ (0 ≤ t ∧ t < (q : Int)) then _ else if w = 0 then ((tb hv t.toNat : Nat) : Int) else if w = 1 then ((tb ed t.toNat : Nat) : Int) else _) = (if ¬ (0 ≤ t ∧ t < (q : Int)) then _ else if w = 0 then ((tb hv2 t.toNat : Nat) : Int) else if w = 1 then ((tb ed2 t.toNat : Nat) : Int) else _)
    rw [tb_l h1 (show t.toNat < q by omega), tb_l h2 (show t.toNat < q by omega)]
  · show (if ¬ (0 ≤ t ∧ t < (q : Int)) then _ else _) = (if ¬ (0 ≤ t ∧ t < (q : Int)) then _ else _)
    rw [if_pos h, if_pos h]
theorem linA_l {t : Int} : ∀ a b, alF a b → linA t a = linA t b := fun a b h => by
  obtain ⟨q, hv, ed, hv2, ed2, o, rfl, rfl, _, _⟩ := h.i
  rfl
theorem opnA_l {t u : Int} : ∀ a b, alF a b → opnA t u a = opnA t u b := fun a b h => by
  obtain ⟨q, hv, ed, hv2, ed2, o, rfl, rfl, _, _⟩ := h.i
  rfl
-- answers, case by case
theorem fb_c1 {n q : Nat} {L : Nat → Nat} (hq : q ≤ 12) (h : lowI (andn (2 ^ q - 1) (orL L n)) = -1) : fbF n q L = q := by
  unfold fbF
  by_cases h0 : andn (2 ^ q - 1) (orL L n) = 0
  · rw [if_pos h0]
  · rw [lowI_nz h0] at h; omega
theorem fb_c2 {n q : Nat} {L : Nat → Nat} (hq : q ≤ 12) (h : lowI (andn (2 ^ q - 1) (orL L n)) ≠ -1) : lowI (andn (2 ^ q - 1) (orL L n)) = ((fbF n q L : Nat) : Int) := by
  unfold fbF
  by_cases h0 : andn (2 ^ q - 1) (orL L n) = 0
  · exact absurd (lowI_0 h0) h
  · rw [if_neg h0, lowI_nz h0]
section Has
variable {w : Int} {q hv ed : Nat} {o : Wo}
theorem hasA_0 (h : w = 0) : hasA w (q, hv, ed, o) = (o.1 : Int) := by unfold hasA; rw [if_pos h]
theorem hasA_1 (h : w = 1) : hasA w (q, hv, ed, o) = (q : Int) := by unfold hasA; rw [if_neg (by omega), if_pos h]
theorem hasA_2 (h : w = 2) : hasA w (q, hv, ed, o) = ((sumP (fun t => pop (o.2.2 t)) o.1 : Nat) : Int) := by unfold hasA; rw [if_neg (by omega), if_neg (by omega), if_pos h]
theorem hasA_3 (h : w = 3) : hasA w (q, hv, ed, o) = ((flt o.2.2 o.1 : Nat) : Int) := by unfold hasA; rw [if_neg (by omega), if_neg (by omega), if_neg (by omega), if_pos h]
theorem hasA_4 (h : w = 4) : hasA w (q, hv, ed, o) = ((andn (2 ^ q - 1) (orL o.2.2 o.1) : Nat) : Int) := by unfold hasA; rw [if_neg (by omega), if_neg (by omega), if_neg (by omega), if_neg (by omega), if_pos h]
theorem hasA_5 (h : w = 5) : hasA w (q, hv, ed, o) = (((fwS o.2.1 o.1).1 : Nat) : Int) := by unfold hasA; rw [if_neg (by omega), if_neg (by omega), if_neg (by omega), if_neg (by omega), if_neg (by omega), if_pos h]
theorem hasA_6 (h : w = 6) : hasA w (q, hv, ed, o) = ((maxP (fun s => pop (tmk o.2.2 s o.1)) q : Nat) : Int) := by unfold hasA; rw [if_neg (by omega), if_neg (by omega), if_neg (by omega), if_neg (by omega), if_neg (by omega), if_neg (by omega), if_pos h]
theorem hasA_7 (h : w = 7) : hasA w (q, hv, ed, o) = ((maxP (fun t => pop (o.2.2 t)) o.1 : Nat) : Int) := by unfold hasA; rw [if_neg (by omega), if_neg (by omega), if_neg (by omega), if_neg (by omega), if_neg (by omega), if_neg (by omega), if_neg (by omega), if_pos h]
theorem hasA_8 (h : w = 8) : hasA w (q, hv, ed, o) = ((fbF o.1 q o.2.2 : Nat) : Int) := by unfold hasA; rw [if_neg (by omega), if_neg (by omega), if_neg (by omega), if_neg (by omega), if_neg (by omega), if_neg (by omega), if_neg (by omega), if_neg (by omega), if_pos h]
theorem hasA_d (h : w ≠ 0 ∧ w ≠ 1 ∧ w ≠ 2 ∧ w ≠ 3 ∧ w ≠ 4 ∧ w ≠ 5 ∧ w ≠ 6 ∧ w ≠ 7 ∧ w ≠ 8) : hasA w (q, hv, ed, o) = -1 := by unfold hasA; rw [if_neg (by omega), if_neg (by omega), if_neg (by omega), if_neg (by omega), if_neg (by omega), if_neg (by omega), if_neg (by omega), if_neg (by omega), if_neg (by omega)]
variable {t : Nat} {t9 : Int}
theorem toneA_n (h : ¬ (0 ≤ t9 ∧ t9 < (o.1 : Int))) : toneA t9 w (q, hv, ed, o) = if w = 4 then -100 else -1 := by unfold toneA; rw [if_pos h]
theorem toneA_in (h : t < o.1) : toneA (t : Int) w (q, hv, ed, o) = if w = 0 then ((o.2.1 t : Nat) : Int) else if w = 1 then orN (lowI (o.2.2 t)) else if w = 2 then orN (higI (o.2.2 t)) else if w = 3 then ((pop (o.2.2 t) : Nat) : Int) else if w = 4 then 3 * ((o.2.1 t : Nat) : Int) + 3 - (((fwS o.2.1 (t + 1)).1 : Nat) : Int) else -1 := by unfold toneA; rw [if_neg (fun h9 => h9 ⟨Int.natCast_nonneg t, by show (t : Int) < (o.1 : Int); omega⟩), Int.toNat_natCast]
theorem toneA_0 (h : t < o.1) (hw : w = 0) : toneA (t : Int) w (q, hv, ed, o) = ((o.2.1 t : Nat) : Int) := by rw [toneA_in h, if_pos hw]
theorem toneA_1 (h : t < o.1) (hw : w = 1) : toneA (t : Int) w (q, hv, ed, o) = orN (lowI (o.2.2 t)) := by rw [toneA_in h, if_neg (by omega), if_pos hw]
theorem toneA_2 (h : t < o.1) (hw : w = 2) : toneA (t : Int) w (q, hv, ed, o) = orN (higI (o.2.2 t)) := by rw [toneA_in h, if_neg (by omega), if_neg (by omega), if_pos hw]
theorem toneA_3 (h : t < o.1) (hw : w = 3) : toneA (t : Int) w (q, hv, ed, o) = ((pop (o.2.2 t) : Nat) : Int) := by rw [toneA_in h, if_neg (by omega), if_neg (by omega), if_neg (by omega), if_pos hw]
theorem toneA_4 (h : t < o.1) (hw : w = 4) : toneA (t : Int) w (q, hv, ed, o) = 3 * ((o.2.1 t : Nat) : Int) + 3 - (((fwS o.2.1 (t + 1)).1 : Nat) : Int) := by rw [toneA_in h, if_neg (by omega), if_neg (by omega), if_neg (by omega), if_neg (by omega), if_pos hw]
theorem toneA_d (h : t < o.1) (hw : w ≠ 0 ∧ w ≠ 1 ∧ w ≠ 2 ∧ w ≠ 3 ∧ w ≠ 4) : toneA (t : Int) w (q, hv, ed, o) = -1 := by rw [toneA_in h, if_neg (by omega), if_neg (by omega), if_neg (by omega), if_neg (by omega), if_neg (by omega)]
theorem toneA_n4 (h : ¬ (0 ≤ t9 ∧ t9 < (o.1 : Int))) (hw : w = 4) : toneA t9 w (q, hv, ed, o) = -100 := by rw [toneA_n h, if_pos hw]
theorem toneA_nn (h : ¬ (0 ≤ t9 ∧ t9 < (o.1 : Int))) (hw : w ≠ 4) : toneA t9 w (q, hv, ed, o) = -1 := by rw [toneA_n h, if_neg hw]
theorem sylA_n (h : ¬ (0 ≤ t9 ∧ t9 < (q : Int))) : sylA t9 w (q, hv, ed, o) = -1 := by unfold sylA; rw [if_pos h]
theorem sylA_in (h : t < q) : sylA (t : Int) w (q, hv, ed, o) = if w = 0 then ((tb hv t : Nat) : Int) else if w = 1 then ((tb ed t : Nat) : Int) else if w = 2 then ((pop (tmk o.2.2 t o.1) : Nat) : Int) else if w = 3 then orN (lowI (tmk o.2.2 t o.1)) else if w = 4 then orN (higI (tmk o.2.2 t o.1)) else if w = 5 then ((rdW9 o t : Nat) : Int) else -1 := by unfold sylA; rw [if_neg (by omega), Int.toNat_natCast]
theorem sylA_0 (h : t < q) (hw : w = 0) : sylA (t : Int) w (q, hv, ed, o) = ((tb hv t : Nat) : Int) := by rw [sylA_in h, if_pos hw]
theorem sylA_1 (h : t < q) (hw : w = 1) : sylA (t : Int) w (q, hv, ed, o) = ((tb ed t : Nat) : Int) := by rw [sylA_in h, if_neg (by omega), if_pos hw]
theorem sylA_2 (h : t < q) (hw : w = 2) : sylA (t : Int) w (q, hv, ed, o) = ((pop (tmk o.2.2 t o.1) : Nat) : Int) := by rw [sylA_in h, if_neg (by omega), if_neg (by omega), if_pos hw]
theorem sylA_3 (h : t < q) (hw : w = 3) : sylA (t : Int) w (q, hv, ed, o) = orN (lowI (tmk o.2.2 t o.1)) := by rw [sylA_in h, if_neg (by omega), if_neg (by omega), if_neg (by omega), if_pos hw]
theorem sylA_4 (h : t < q) (hw : w = 4) : sylA (t : Int) w (q, hv, ed, o) = orN (higI (tmk o.2.2 t o.1)) := by rw [sylA_in h, if_neg (by omega), if_neg (by omega), if_neg (by omega), if_neg (by omega), if_pos hw]
theorem sylA_5 (h : t < q) (hw : w = 5) : sylA (t : Int) w (q, hv, ed, o) = ((rdW9 o t : Nat) : Int) := by rw [sylA_in h, if_neg (by omega), if_neg (by omega), if_neg (by omega), if_neg (by omega), if_neg (by omega), if_pos hw]
theorem sylA_d (h : t < q) (hw : w ≠ 0 ∧ w ≠ 1 ∧ w ≠ 2 ∧ w ≠ 3 ∧ w ≠ 4 ∧ w ≠ 5) : sylA (t : Int) w (q, hv, ed, o) = -1 := by rw [sylA_in h, if_neg (by omega), if_neg (by omega), if_neg (by omega), if_neg (by omega), if_neg (by omega), if_neg (by omega)]
theorem linA_y (h : t < o.1) : linA (t : Int) (q, hv, ed, o) = ((o.2.2 t : Nat) : Int) := by unfold linA; rw [if_pos (by show 0 ≤ (t : Int) ∧ (t : Int) < (o.1 : Int); omega), Int.toNat_natCast]
theorem linA_n (h : ¬ (0 ≤ t9 ∧ t9 < (o.1 : Int))) : linA t9 (q, hv, ed, o) = -1 := by unfold linA; rw [if_neg h]
theorem opnA_1 {u : Nat} (h : t < o.1) (h1 : u < q) (h2 : openP o.1 o.2.2 t u) : opnA (t : Int) (u : Int) (q, hv, ed, o) = 1 := by
  unfold opnA
  rw [if_pos (by show 0 ≤ (t : Int) ∧ (t : Int) < (o.1 : Int) ∧ 0 ≤ (u : Int) ∧ (u : Int) < (q : Int); omega)]
  exact @if_pos _ (Classical.propDecidable _) h2 _ _ _
theorem opnA_0 {u : Nat} (h : t < o.1) (h1 : u < q) (h2 : ¬ openP o.1 o.2.2 t u) : opnA (t : Int) (u : Int) (q, hv, ed, o) = 0 := by
  unfold opnA
  rw [if_pos (by show 0 ≤ (t : Int) ∧ (t : Int) < (o.1 : Int) ∧ 0 ≤ (u : Int) ∧ (u : Int) < (q : Int); omega)]
  exact @if_neg _ (Classical.propDecidable _) h2 _ _ _
theorem opnA_n {u9 : Int} (h : ¬ (0 ≤ t9 ∧ t9 < (o.1 : Int) ∧ 0 ≤ u9 ∧ u9 < (q : Int))) : opnA t9 u9 (q, hv, ed, o) = -1 := by unfold opnA; rw [if_neg h]
end Has
theorem sumP_le {F : Nat → Nat} {b : Nat} : ∀ {n : Nat}, (∀ k, k < n → F k ≤ b) → sumP F n ≤ b * n
  | 0, _ => Nat.zero_le _
  | n + 1, h => by
    have h1 := sumP_le (n := n) (fun k hk => h k (by omega))
    have h2 := h n (Nat.lt_succ_self n)
    rw [sumP, Nat.mul_succ]
    omega
theorem flt_lt {L : Nat → Nat} : ∀ {n : Nat}, n ≤ 12 → flt L n < 4096
  | 0, _ => by show 0 < 4096; decide
  | n + 1, h => by
    have h1 := flt_lt (L := L) (n := n) (by omega)
    by_cases h2 : L n = 0
    · rw [← flt_1 (L := L) (t := n) h2]; exact or_lt12 h1 (by have h9 := p2_b (n := n) (by omega); omega)
    · rw [← flt_0 (L := L) (t := n) h2]; exact h1
theorem fb_le {n q : Nat} {L : Nat → Nat} (hq : q ≤ 12) : fbF n q L ≤ 12 := by
  unfold fbF
  by_cases h0 : andn (2 ^ q - 1) (orL L n) = 0
  · rw [if_pos h0]; exact hq
  · rw [if_neg h0]; exact Nat.le_of_lt (low_t _ (fb_lt hq) h0).2
theorem bkI_s1 {K : Nat → Nat} {t k lw : Nat} (h : bkI K t (k + 1) lw) (h0 : K k ≠ 2) (h1 : lw ≠ 0) (h2 : lw ≤ 1) : bkI K t k 1 := by
  obtain rfl : lw = 1 := by omega
  exact bkI_m h h0 (Or.inr rfl)
theorem bkI_s0 {K : Nat → Nat} {t k lw : Nat} (h : bkI K t (k + 1) lw) (h0 : K k ≠ 2) (h1 : K k ≠ 0) (h2 : lw = 0) : bkI K t k 0 := by
  subst h2
  exact bkI_m h h0 (Or.inl h1)
theorem bk_out {K : Nat → Nat} {t lw : Nat} (h : isF K t ↔ lw = 1) (hb : lw ≤ 1) : (isF K t ∧ zI (lw : Int) = zI 1) ∨ (¬ isF K t ∧ zI (lw : Int) = zI 0) := by
  rcases (show lw = 0 ∨ lw = 1 by omega) with h1 | h1
  · exact Or.inr ⟨fun q => by have := h.mp q; omega, congrArg zI (by omega)⟩
  · exact Or.inl ⟨h.mpr h1, congrArg zI (by omega)⟩
theorem mul_zz {a b : Nat} {z : Int} (h : z = ((a * b : Nat) : Int)) : zI (a : Int) * zI (b : Int) = zI z := by rw [zI_mul, h, Int.natCast_mul]
/-- what the reference's reading has added up -/
def rdI9 (K L : Nat → Nat) (s n t al by9 : Nat) : Prop := al + by9 * rdV9 K L s (n - t) t = rdV9 K L s n 0 ∧ by9 ≤ 4 ^ t
theorem rdI_0 {K L : Nat → Nat} {s n : Nat} : rdI9 K L s n 0 0 1 := ⟨by rw [Nat.sub_zero]; omega, Nat.le_refl _⟩
theorem rdI9_y {K L : Nat → Nat} {s n t al by9 p : Nat} (h : rdI9 K L s n t al by9) (ht : t < n) (hb : (L t).testBit s = true) (hp : p = by9 * (K t + 1)) : rdI9 K L s n (t + 1) (al + p) (by9 * 4) := by
  obtain ⟨h1, h2⟩ := h
  rw [show n - t = (n - (t + 1)) + 1 by omega, rd_y hb] at h1
  refine ⟨?_, by rw [Nat.pow_succ]; omega⟩
  rw [← h1, hp]
  generalize rdV9 K L s (n - (t + 1)) (t + 1) = v
  have e1 : by9 * (v * 4 + K t + 1) = by9 * (K t + 1) + by9 * 4 * v := by
    rw [show v * 4 + K t + 1 = (K t + 1) + 4 * v by omega, Nat.mul_add, Nat.mul_assoc]
  omega
theorem rdI9_n {K L : Nat → Nat} {s n t al by9 : Nat} (h : rdI9 K L s n t al by9) (ht : t < n) (hb : ¬ (L t).testBit s = true) : rdI9 K L s n (t + 1) al by9 := by
  obtain ⟨h1, h2⟩ := h
  rw [show n - t = (n - (t + 1)) + 1 by omega, rd_n hb] at h1
  exact ⟨h1, by rw [Nat.pow_succ]; omega⟩
theorem rdI_e {K L : Nat → Nat} {s n al by9 : Nat} (h : rdI9 K L s n n al by9) : al = rdV9 K L s n 0 := by
  have h1 := h.1
  rw [Nat.sub_self] at h1
  have h2 : rdV9 K L s 0 n = 0 := rfl
  rw [h2] at h1
  omega
theorem rdI_b {K L : Nat → Nat} {s n t al by9 : Nat} (h : rdI9 K L s n t al by9) (hn : n ≤ 12) (ht : t ≤ n) (hK : ∀ j, j < n → K j ≤ 2) : al < 16777216 ∧ by9 ≤ 16777216 ∧ ∀ p, p = by9 * (K t + 1) → t < n → p ≤ 50331648 := by
  have h1 := rd_b (K := K) (L := L) (s := s) n 0 (fun j _ hj => hK j (by omega))
  have h2 := p4_12 hn
  have h3 := h.1
  have h4 := h.2
  have h5 := p4_12 (show t ≤ 12 by omega)
  refine ⟨?_, by omega, fun p hp htn => ?_⟩
  · have : al ≤ al + by9 * rdV9 K L s (n - t) t := Nat.le_add_right _ _
    omega
  · rw [hp]
    have h6 : by9 * (K t + 1) ≤ 16777216 * 3 := Nat.mul_le_mul (by omega) (by have := hK t htn; omega)
    omega
theorem orN_b (z : Int) (h : -1 ≤ z) (h1 : z ≤ 12) : -2 ≤ orN z ∧ orN z ≤ 12 := by
  unfold orN
  by_cases h2 : z = -1
  · rw [if_pos h2]; omega
  · rw [if_neg h2]; omega
