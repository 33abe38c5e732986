def bcF (x : Int32) : Int32 :=
  let a := x - (((x).toUInt32 >>> ((zI 1).toUInt32 &&& Int32.toUInt32 31)).toInt32 &&& 1431655765)
  let b := (a &&& 858993459) + (((a).toUInt32 >>> ((zI 2).toUInt32 &&& Int32.toUInt32 31)).toInt32 &&& 858993459)
  let d := (b + ((b).toUInt32 >>> ((zI 4).toUInt32 &&& Int32.toUInt32 31)).toInt32) &&& 252645135
  let e := d + ((d).toUInt32 >>> ((zI 8).toUInt32 &&& Int32.toUInt32 31)).toInt32
  let f := e + ((e).toUInt32 >>> ((zI 16).toUInt32 &&& Int32.toUInt32 31)).toInt32
  f &&& zI 63
theorem n_and {a b : Nat} : nI a &&& nI b = nI (a &&& b) := by
  show (⟨⟨BitVec.ofNat 32 a &&& BitVec.ofNat 32 b⟩⟩ : Int32) = ⟨⟨BitVec.ofNat 32 (a &&& b)⟩⟩
  rw [BitVec.ofNat_and]
theorem n_add {a b : Nat} : nI a + nI b = nI (a + b) := by
  show (⟨⟨BitVec.ofNat 32 a + BitVec.ofNat 32 b⟩⟩ : Int32) = ⟨⟨BitVec.ofNat 32 (a + b)⟩⟩
  rw [BitVec.ofNat_add]
theorem n_sub {a b : Nat} (h : b ≤ a) (hb : b < 2 ^ 32) : nI a - nI b = nI (a - b) := by
  show (⟨⟨BitVec.ofNat 32 a - BitVec.ofNat 32 b⟩⟩ : Int32) = ⟨⟨BitVec.ofNat 32 (a - b)⟩⟩
  rw [BitVec.ofNat_sub_ofNat_of_le a b hb h]
theorem n_neg {a : Nat} (h : a < 2 ^ 32) : -nI a = nI (2 ^ 32 - a) := by
  have e : -(BitVec.ofNat 32 a) = BitVec.ofNat 32 (2 ^ 32 - a) := by
    apply BitVec.eq_of_toNat_eq
    rw [BitVec.toNat_neg, BitVec.toNat_ofNat, BitVec.toNat_ofNat, Nat.mod_eq_of_lt h]
  show (⟨⟨-(BitVec.ofNat 32 a)⟩⟩ : Int32) = ⟨⟨BitVec.ofNat 32 (2 ^ 32 - a)⟩⟩
  rw [e]
theorem n_shr {a k : Nat} (h : a < 2 ^ 32) : BitVec.ofNat 32 a >>> k = BitVec.ofNat 32 (a >>> k) := by
  apply BitVec.eq_of_toNat_eq
  rw [BitVec.toNat_ushiftRight, BitVec.toNat_ofNat, BitVec.toNat_ofNat, Nat.mod_eq_of_lt h, Nat.mod_eq_of_lt (Nat.lt_of_le_of_lt (Nat.shiftRight_le a k) h)]
theorem n_sh1 {a : Nat} (h : a < 2 ^ 32) : ((nI a).toUInt32 >>> ((zI 1).toUInt32 &&& Int32.toUInt32 31)).toInt32 = nI (a >>> 1) := by
  have hk : ((zI 1).toUInt32 &&& Int32.toUInt32 31) = (1 : UInt32) := by decide +kernel
  have hm : (UInt32.mod 1 32).toBitVec.toNat = 1 := by decide +kernel
  have e : ((nI a).toUInt32 >>> (1 : UInt32)).toInt32 = (⟨⟨BitVec.ofNat 32 a >>> (1 : Nat)⟩⟩ : Int32) := by
    show (⟨⟨BitVec.ofNat 32 a >>> (UInt32.mod 1 32).toBitVec.toNat⟩⟩ : Int32) = _
    rw [hm]
  rw [hk, e, n_shr h]
  rfl
theorem n_sh2 {a : Nat} (h : a < 2 ^ 32) : ((nI a).toUInt32 >>> ((zI 2).toUInt32 &&& Int32.toUInt32 31)).toInt32 = nI (a >>> 2) := by
  have hk : ((zI 2).toUInt32 &&& Int32.toUInt32 31) = (2 : UInt32) := by decide +kernel
  have hm : (UInt32.mod 2 32).toBitVec.toNat = 2 := by decide +kernel
  have e : ((nI a).toUInt32 >>> (2 : UInt32)).toInt32 = (⟨⟨BitVec.ofNat 32 a >>> (2 : Nat)⟩⟩ : Int32) := by
    show (⟨⟨BitVec.ofNat 32 a >>> (UInt32.mod 2 32).toBitVec.toNat⟩⟩ : Int32) = _
    rw [hm]
  rw [hk, e, n_shr h]
  rfl
theorem n_sh4 {a : Nat} (h : a < 2 ^ 32) : ((nI a).toUInt32 >>> ((zI 4).toUInt32 &&& Int32.toUInt32 31)).toInt32 = nI (a >>> 4) := by
  have hk : ((zI 4).toUInt32 &&& Int32.toUInt32 31) = (4 : UInt32) := by decide +kernel
  have hm : (UInt32.mod 4 32).toBitVec.toNat = 4 := by decide +kernel
  have e : ((nI a).toUInt32 >>> (4 : UInt32)).toInt32 = (⟨⟨BitVec.ofNat 32 a >>> (4 : Nat)⟩⟩ : Int32) := by
    show (⟨⟨BitVec.ofNat 32 a >>> (UInt32.mod 4 32).toBitVec.toNat⟩⟩ : Int32) = _
    rw [hm]
  rw [hk, e, n_shr h]
  rfl
theorem n_sh8 {a : Nat} (h : a < 2 ^ 32) : ((nI a).toUInt32 >>> ((zI 8).toUInt32 &&& Int32.toUInt32 31)).toInt32 = nI (a >>> 8) := by
  have hk : ((zI 8).toUInt32 &&& Int32.toUInt32 31) = (8 : UInt32) := by decide +kernel
  have hm : (UInt32.mod 8 32).toBitVec.toNat = 8 := by decide +kernel
  have e : ((nI a).toUInt32 >>> (8 : UInt32)).toInt32 = (⟨⟨BitVec.ofNat 32 a >>> (8 : Nat)⟩⟩ : Int32) := by
    show (⟨⟨BitVec.ofNat 32 a >>> (UInt32.mod 8 32).toBitVec.toNat⟩⟩ : Int32) = _
    rw [hm]
  rw [hk, e, n_shr h]
  rfl
theorem n_sh16 {a : Nat} (h : a < 2 ^ 32) : ((nI a).toUInt32 >>> ((zI 16).toUInt32 &&& Int32.toUInt32 31)).toInt32 = nI (a >>> 16) := by
  have hk : ((zI 16).toUInt32 &&& Int32.toUInt32 31) = (16 : UInt32) := by decide +kernel
  have hm : (UInt32.mod 16 32).toBitVec.toNat = 16 := by decide +kernel
  have e : ((nI a).toUInt32 >>> (16 : UInt32)).toInt32 = (⟨⟨BitVec.ofNat 32 a >>> (16 : Nat)⟩⟩ : Int32) := by
    show (⟨⟨BitVec.ofNat 32 a >>> (UInt32.mod 16 32).toBitVec.toNat⟩⟩ : Int32) = _
    rw [hm]
  rw [hk, e, n_shr h]
  rfl
def bs1 (x : Int32) : Int32 := x - (((x).toUInt32 >>> ((zI 1).toUInt32 &&& Int32.toUInt32 31)).toInt32 &&& 1431655765)
def bn1 (a : Nat) : Nat := a - (a >>> 1 &&& 1431655765)
def bs2 (x : Int32) : Int32 := (x &&& 858993459) + (((x).toUInt32 >>> ((zI 2).toUInt32 &&& Int32.toUInt32 31)).toInt32 &&& 858993459)
def bn2 (a : Nat) : Nat := (a &&& 858993459) + (a >>> 2 &&& 858993459)
def bs3 (x : Int32) : Int32 := (x + ((x).toUInt32 >>> ((zI 4).toUInt32 &&& Int32.toUInt32 31)).toInt32) &&& 252645135
def bn3 (a : Nat) : Nat := (a + a >>> 4) &&& 252645135
def bs4 (x : Int32) : Int32 := x + ((x).toUInt32 >>> ((zI 8).toUInt32 &&& Int32.toUInt32 31)).toInt32
def bn4 (a : Nat) : Nat := a + a >>> 8
def bs5 (x : Int32) : Int32 := x + ((x).toUInt32 >>> ((zI 16).toUInt32 &&& Int32.toUInt32 31)).toInt32
def bn5 (a : Nat) : Nat := a + a >>> 16
theorem bcF_s (x : Int32) : bcF x = bs5 (bs4 (bs3 (bs2 (bs1 x)))) &&& zI 63 := rfl
theorem n_c1 : (1431655765 : Int32) = nI 1431655765 := by decide +kernel
theorem n_c2 : (858993459 : Int32) = nI 858993459 := by decide +kernel
theorem n_c3 : (252645135 : Int32) = nI 252645135 := by decide +kernel
theorem bs1_n {a : Nat} (h : a < 2 ^ 31) : bs1 (nI a) = nI (bn1 a) ∧ bn1 a ≤ a := by
  have h1 : a >>> 1 &&& 1431655765 ≤ a := Nat.le_trans Nat.and_le_left (Nat.shiftRight_le a 1)
  refine ⟨?_, Nat.sub_le _ _⟩
  unfold bs1 bn1
  rw [n_sh1 (by omega), n_c1, n_and, n_sub h1 (by omega)]
theorem bs2_n {a : Nat} (h : a < 2 ^ 31) : bs2 (nI a) = nI (bn2 a) ∧ bn2 a ≤ a + a := by
  have h1 : a >>> 2 &&& 858993459 ≤ a := Nat.le_trans Nat.and_le_left (Nat.shiftRight_le a 2)
  have h2 : a &&& 858993459 ≤ a := Nat.and_le_left
  refine ⟨?_, Nat.add_le_add h2 h1⟩
  unfold bs2 bn2
  rw [n_sh2 (by omega), n_c2, n_and, n_and, n_add]
theorem bs3_n {a : Nat} (h : a < 2 ^ 31) : bs3 (nI a) = nI (bn3 a) ∧ bn3 a ≤ a + a := by
  have h1 : a >>> 4 ≤ a := Nat.shiftRight_le a 4
  refine ⟨?_, Nat.le_trans Nat.and_le_left (Nat.add_le_add_left h1 a)⟩
  unfold bs3 bn3
  rw [n_sh4 (by omega), n_add, n_c3, n_and]
theorem bs4_n {a : Nat} (h : a < 2 ^ 31) : bs4 (nI a) = nI (bn4 a) ∧ bn4 a ≤ a + a := by
  have h1 : a >>> 8 ≤ a := Nat.shiftRight_le a 8
  refine ⟨?_, Nat.add_le_add_left h1 a⟩
  unfold bs4 bn4
  rw [n_sh8 (by omega), n_add]
theorem bs5_n {a : Nat} (h : a < 2 ^ 31) : bs5 (nI a) = nI (bn5 a) := by
  unfold bs5 bn5
  rw [n_sh16 (by omega), n_add]
def bcN (a : Nat) : Nat := bn5 (bn4 (bn3 (bn2 (bn1 a)))) &&& 63
theorem bcF_n {a : Nat} (h : a < 4096) : bcF (nI a) = nI (bcN a) := by
  obtain ⟨e1, b1⟩ := bs1_n (a := a) (by omega)
  obtain ⟨e2, b2⟩ := bs2_n (a := bn1 a) (by omega)
  obtain ⟨e3, b3⟩ := bs3_n (a := bn2 (bn1 a)) (by omega)
  obtain ⟨e4, b4⟩ := bs4_n (a := bn3 (bn2 (bn1 a))) (by omega)
  have e5 := bs5_n (a := bn4 (bn3 (bn2 (bn1 a)))) (by omega)
  have h63 : zI 63 = nI 63 := zI_nI 63
  rw [bcF_s, e1, e2, e3, e4, e5, h63, n_and]
  rfl
theorem bcN_pop : ∀ m, m < 4096 → bcN m = pop m := dec12 (P := fun m => bcN m = pop m) (by decide +kernel)
theorem bc_pop0 : ∀ m, m < 4096 → bcF (nI m) = nI (pop m) := fun m hm => by rw [bcF_n hm, bcN_pop m hm]
theorem bc_pop {m : Nat} (h : m < 4096) : bcF (zI (m : Int)) = zI ((pop m : Nat) : Int) := by rw [zI_nI, zI_nI]; exact bc_pop0 m h
theorem low_isoN : ∀ m, m < 4096 → m ≠ 0 → m &&& (2 ^ 32 - m) = 2 ^ low m := dec12 (P := fun m => m ≠ 0 → m &&& (2 ^ 32 - m) = 2 ^ low m) (by decide +kernel)
theorem low_tw : ∀ k, k < 12 → bcF (nI (2 ^ k) - zI 1) = nI k := by decide +kernel
theorem low_bc0 : ∀ m, m < 4096 → m ≠ 0 → bcF ((nI m &&& -nI m) - zI 1) = nI (low m) := fun m hm h => by
  rw [n_neg (by omega), n_and, low_isoN m hm h]
  exact low_tw _ (low_t m hm h).2
def lowI (m : Nat) : Int := if m = 0 then -1 else (low m : Int)
def higI (m : Nat) : Int := if m = 0 then -1 else (hig m : Int)
theorem lowI_0 {m : Nat} (h : m = 0) : lowI m = -1 := by simp [lowI, h]
theorem low_bc9 {m : Nat} (hm : m < 4096) (h : m ≠ 0) : bcF ((zI (m : Int) &&& -zI (m : Int)) - zI 1) = zI (lowI m) := by
  rw [show lowI m = (low m : Int) by simp [lowI, h], zI_nI, zI_nI]
  exact low_bc0 m hm h
theorem lowI_rg (m : Nat) (hm : m < 4096) : -1 ≤ lowI m ∧ lowI m < 12 := by
  unfold lowI
  by_cases h : m = 0
  · simp [h]
  · have := (low_t m hm h).2
    simp [h]; omega
theorem higI_rg (m : Nat) (hm : m < 4096) : -1 ≤ higI m ∧ higI m < 12 := by
  unfold higI
  by_cases h : m = 0
  · simp [h]
  · have := (hig_t m hm h).2
    simp [h]; omega
theorem hig_out {m i : Nat} (hm : m < 4096) (hi : 12 ≤ i) : m.testBit i = false := Nat.testBit_lt_two_pow (Nat.lt_of_lt_of_le hm (Nat.pow_le_pow_right (n := 2) (by omega) hi))
theorem higI_0 {m : Nat} (h : ∀ i, m.testBit i = false) : higI m = -1 := by simp [higI, zero_bits h]
theorem higI_1 {m k : Nat} (hm : m < 4096) (hk : k < 12) (hb : m.testBit k = true) (h : ∀ i, k + 1 ≤ i → m.testBit i = false) : higI m = (k : Int) := by
  have h0 : m ≠ 0 := fun q => by rw [q, Nat.zero_testBit] at hb; cases hb
  have h1 := hig_l m hm k hk hb
  have h2 := (hig_t m hm h0).1
  have h3 : ¬ k + 1 ≤ hig m := fun q => by rw [h _ q] at h2; cases h2
  simp [higI, h0]; omega
def sumP (F : Nat → Nat) : Nat → Nat
  | 0 => 0
  | t + 1 => sumP F t + F t
def flt (L : Nat → Nat) : Nat → Nat
  | 0 => 0
  | t + 1 => flt L t ||| (if L t = 0 then 2 ^ t else 0)
theorem flt_1 {L : Nat → Nat} {t : Nat} (h : L t = 0) : flt L t ||| 2 ^ t = flt L (t + 1) := by simp [flt, h]
theorem flt_0 {L : Nat → Nat} {t : Nat} (h : L t ≠ 0) : flt L t = flt L (t + 1) := by simp [flt, h]
