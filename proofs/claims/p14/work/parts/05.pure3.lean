def bcF (x : Int32) : Int32 :=
  let a := x - (((x).toUInt32 >>> ((zI 1).toUInt32 &&& Int32.toUInt32 31)).toInt32 &&& 1431655765)
  let b := (a &&& 858993459) + (((a).toUInt32 >>> ((zI 2).toUInt32 &&& Int32.toUInt32 31)).toInt32 &&& 858993459)
  let d := (b + ((b).toUInt32 >>> ((zI 4).toUInt32 &&& Int32.toUInt32 31)).toInt32) &&& 252645135
  let e := d + ((d).toUInt32 >>> ((zI 8).toUInt32 &&& Int32.toUInt32 31)).toInt32
  let f := e + ((e).toUInt32 >>> ((zI 16).toUInt32 &&& Int32.toUInt32 31)).toInt32
  f &&& zI 63
theorem bc_pop0 : ∀ m, m < 4096 → bcF (nI m) = nI (pop m) := dec12 (P := fun m => bcF (nI m) = nI (pop m)) (by decide +kernel)
theorem bc_pop {m : Nat} (h : m < 4096) : bcF (zI (m : Int)) = zI ((pop m : Nat) : Int) := by rw [zI_nI, zI_nI]; exact bc_pop0 m h
theorem low_iso0 : ∀ m, m < 4096 → m ≠ 0 → nI m &&& -nI m = nI (2 ^ low m) := dec12 (P := fun m => m ≠ 0 → nI m &&& -nI m = nI (2 ^ low m)) (by decide +kernel)
theorem low_tw : ∀ k, k < 12 → bcF (nI (2 ^ k) - zI 1) = nI k := by decide +kernel
theorem low_bc0 : ∀ m, m < 4096 → m ≠ 0 → bcF ((nI m &&& -nI m) - zI 1) = nI (low m) := fun m hm h => by
  rw [low_iso0 m hm h]
  exact low_tw _ (low_t m hm h).2
def lowI (m : Nat) : Int := if m = 0 then -1 else (low m : Int)
def higI (m : Nat) : Int := if m = 0 then -1 else (hig m : Int)
theorem lowI_0 {m : Nat} (h : m = 0) : lowI m = -1 := by simp [lowI, h]
theorem low_bc9 {m : Nat} (hm : m < 4096) (h : m ≠ 0) : bcF ((zI (m : Int) &&& -zI (m : Int)) - zI 1) = zI (lowI m) := by
  rw [show lowI m = (low m : Int) by simp [lowI, h], zI_nI, zI_nI]
  exact low_bc0 m hm h
theorem lowI_rg (m : Nat) (hm : m < 4096) : -1 ≤ lowI m ∧ lowI m < 12 := by
  unfold lowI
  by_cases h : m = 0
  · simp [h]
  · have := (low_t m hm h).2
    simp [h]; omega
theorem higI_rg (m : Nat) (hm : m < 4096) : -1 ≤ higI m ∧ higI m < 12 := by
  unfold higI
  by_cases h : m = 0
  · simp [h]
  · have := (hig_t m hm h).2
    simp [h]; omega
theorem hig_out {m i : Nat} (hm : m < 4096) (hi : 12 ≤ i) : m.testBit i = false := Nat.testBit_lt_two_pow (Nat.lt_of_lt_of_le hm (Nat.pow_le_pow_right (n := 2) (by omega) hi))
theorem higI_0 {m : Nat} (h : ∀ i, m.testBit i = false) : higI m = -1 := by simp [higI, zero_bits h]
theorem higI_1 {m k : Nat} (hm : m < 4096) (hk : k < 12) (hb : m.testBit k = true) (h : ∀ i, k + 1 ≤ i → m.testBit i = false) : higI m = (k : Int) := by
  have h0 : m ≠ 0 := fun q => by rw [q, Nat.zero_testBit] at hb; cases hb
  have h1 := hig_l m hm k hk hb
  have h2 := (hig_t m hm h0).1
  have h3 : ¬ k + 1 ≤ hig m := fun q => by rw [h _ q] at h2; cases h2
  simp [higI, h0]; omega
def sumP (F : Nat → Nat) : Nat → Nat
  | 0 => 0
  | t + 1 => sumP F t + F t
def flt (L : Nat → Nat) : Nat → Nat
  | 0 => 0
  | t + 1 => flt L t ||| (if L t = 0 then 2 ^ t else 0)
theorem flt_1 {L : Nat → Nat} {t : Nat} (h : L t = 0) : flt L t ||| 2 ^ t = flt L (t + 1) := by simp [flt, h]
theorem flt_0 {L : Nat → Nat} {t : Nat} (h : L t ≠ 0) : flt L t = flt L (t + 1) := by simp [flt, h]
