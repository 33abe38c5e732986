-- SAFETY: what lies in each cell of the class (its interval), what a call may write
def ivT : List (List (Int × Int)) := [[(-2147483648, 2147483647)], [(-2147483648, 2147483647), (0, 300)], [(-128, 127)], [(-2147483648, 2147483647), (-2147483648, 2147483647)], [(-2147483648, 2147483647), (-2147483648, 2147483647), (0, 8), (-2147483648, 2147483647), (-2147483648, 2147483647), (0, 1)], [(-2147483648, 2147483647)], [(-2147483648, 2147483647)], [(-2, 99)], [(-2147483648, 2147483647)], [(-2, 99)], [(-2147483648, 2147483647)], [(-2, 99)], [(-2147483648, 2147483647)], [(-2, 99)], [(-2147483648, 2147483647)], [(-2, 99)], [(-2147483648, 2147483647)], [(-2, 99)], [(-2147483648, 2147483647)], [(-2, 99)], [(-2147483648, 2147483647)], [(-2, 99)], [(-2147483648, 2147483647), (-2147483648, 2147483647), (0, 8), (-2147483648, 2147483647), (-2147483648, 2147483647), (-2147483648, 2147483647), (-2147483648, 2147483647), (0, 8)], [(0, 20)], [(-2147483648, 2147483647)], [(-2147483648, 2147483647)], [(-2147483648, 2147483647)], [(-2147483648, 2147483647)], [(-2147483648, 2147483647)], [(-2, 99)], [(-2147483648, 2147483647)], [(-2, 99)], [(-2147483648, 2147483647)], [(-2, 99)], [(-2147483648, 2147483647)], [(-2, 99)], [(-2147483648, 2147483647)], [(-2, 99)], [(-2147483648, 2147483647)], [(-2, 99)], [(-2147483648, 2147483647)], [(-2, 99)], [(-2147483648, 2147483647)], [(-2, 99)], [(0, 12), (0, 12), (0, 4095), (0, 4095)], [(-2, 99)], [(0, 4095)], [(0, 12), (0, 12), (0, 4095), (0, 4095)], [(-2, 99)], [(0, 4095)], [(0, 12), (0, 12), (0, 4095), (0, 4095)], [(-2, 99)], [(0, 4095)], [(0, 12), (0, 12), (0, 4095), (0, 4095)], [(-2, 99)], [(0, 4095)], [(0, 12), (0, 12), (0, 4095), (0, 4095)], [(-2, 99)], [(0, 4095)], [(0, 12), (0, 12), (0, 4095), (0, 4095)], [(-2, 99)], [(0, 4095)], [(0, 12), (0, 12), (0, 4095), (0, 4095)], [(-2, 99)], [(0, 4095)], [(0, 12), (0, 12), (0, 4095), (0, 4095)], [(-2, 99)], [(0, 4095)], [(0, 12), (0, 12), (0, 4095), (0, 4095)], [(-2, 99)], [(0, 4095)], [(-2147483648, 2147483647), (0, 11), (0, 12)], [(-2147483648, 2147483647)], [(0, 12), (0, 12), (0, 4095), (0, 4095)], [(-2, 99)], [(0, 4095)], [(0, 12), (0, 12), (0, 4095), (0, 4095)], [(-2, 99)], [(0, 4095)], [(0, 12), (0, 12), (0, 4095), (0, 4095)], [(-2, 99)], [(0, 4095)], [(0, 12), (0, 12), (0, 4095), (0, 4095)], [(-2, 99)], [(0, 4095)], [(0, 12), (0, 12), (0, 4095), (0, 4095)], [(-2, 99)], [(0, 4095)], [(0, 12), (0, 12), (0, 4095), (0, 4095)], [(-2, 99)], [(0, 4095)], [(0, 12), (0, 12), (0, 4095), (0, 4095)], [(-2, 99)], [(0, 4095)], [(0, 12), (0, 12), (0, 4095), (0, 4095)], [(-2, 99)], [(0, 4095)], [(0, 12), (0, 12), (0, 4095), (0, 4095)], [(-2, 99)], [(0, 4095)], [(0, 12), (0, 12), (0, 4095), (0, 4095)], [(-2, 99)], [(0, 4095)], [(0, 12), (0, 12), (0, 4095), (0, 4095)], [(-2, 99)], [(0, 4095)], [(0, 12), (0, 12), (0, 4095), (0, 4095)], [(-2, 99)], [(0, 4095)], [(0, 1), (0, 720), (-2147483648, 2147483647), (-2147483648, 2147483647)], [(0, 5)], [(-2147483648, 2147483647)], [(-2147483648, 2147483647)], [(-2147483648, 2147483647)], [(0, 12), (0, 12), (0, 4095), (0, 4095)], [(-2, 99)], [(0, 4095)], [(0, 12), (0, 12), (0, 4095), (0, 4095)], [(-2, 99)], [(0, 4095)], [(0, 12), (0, 12), (0, 4095), (0, 4095)], [(-2, 99)], [(0, 4095)], [(0, 12), (0, 12), (0, 4095), (0, 4095)], [(-2, 99)], [(0, 4095)], [(0, 12), (0, 12), (0, 4095), (0, 4095)], [(-2, 99)], [(0, 4095)], [(0, 12), (0, 12), (0, 4095), (0, 4095)], [(-2, 99)], [(0, 4095)], [(0, 12), (0, 12), (0, 4095), (0, 4095)], [(-2, 99)], [(0, 4095)], [(-2147483648, 2147483647)], [(-2147483648, 2147483647)], [(-2147483648, 2147483647)], [(0, 12), (0, 12), (0, 4095), (0, 4095)], [(-2, 99)], [(0, 4095)], [(-2147483648, 2147483647), (0, 256)], [(0, 65535)], [(0, 12), (0, 12), (0, 4095), (0, 4095)], [(-2, 99)], [(0, 4095)]]
def iv (a k : Nat) : Int × Int := match ivT.getD a [] with
  | [x] => x
  | l => l.getD k (-2147483648, 2147483647)
def Inv (M : Mem) : Prop := ∀ a k, a < 146 → ∃ z : Int, (iv a k).1 ≤ z ∧ z ≤ (iv a k).2 ∧ M.1 a k = zI z
def Fr (S : Nat → Nat → Prop) (M1 M : Mem) : Prop := ∀ b k, ¬ S b k → M1.1 b k = M.1 b k
theorem Fr.rf {S : Nat → Nat → Prop} {M : Mem} : Fr S M M := fun _ _ _ => rfl
theorem Fr.tr {S S1 : Nat → Nat → Prop} {M M1 M2 : Mem} (h : Fr S M1 M) (h1 : Fr S1 M2 M1) (hs : ∀ b k, S1 b k → S b k) : Fr S M2 M := fun b k hb => (h1 b k (fun q => hb (hs b k q))).trans (h b k hb)
theorem Fr.to {S : Nat → Nat → Prop} {M M1 : Mem} (h : Fr S M1 M) {a k : Nat} {x : Int32} (hs : S a k) : Fr S (st M1 a k x) M := fun b j hb => by
  rw [st_ne]
  · exact h b j hb
  · by_cases h1 : b = a
    · by_cases h2 : j = k
      · subst h1; subst h2; exact absurd hs hb
      · exact Or.inr h2
    · exact Or.inl h1
theorem Fr.sA {S : Nat → Nat → Prop} {M M1 : Mem} (h : Fr S M1 M) {a : Nat} {f : Nat → Int32} (hs : ∀ k, S a k) : Fr S (sA M1 a f) M := fun b j hb => by
  have h1 : b ≠ a := fun q => hb (q ▸ hs j)
  show (if b = a then f else M1.1 b) j = _
  rw [if_neg h1]
  exact h b j hb
theorem Inv.ld {M : Mem} (h : Inv M) {a k : Nat} {lo hi : Int} (hv : iv a k = (lo, hi)) (ha : a < 146) : ∃ z : Int, (lo ≤ z ∧ z ≤ hi) ∧ M.1 a k = zI z := by
  obtain ⟨z, h1, h2, h3⟩ := h a k ha
  rw [hv] at h1 h2
  exact ⟨z, ⟨h1, h2⟩, h3⟩
theorem Inv.to {M : Mem} (h : Inv M) {a k : Nat} {lo hi x : Int} (hv : iv a k = (lo, hi)) (hx : lo ≤ x ∧ x ≤ hi) : Inv (st M a k (zI x)) := fun b j hb => by
  by_cases h1 : b = a ∧ j = k
  · obtain ⟨rfl, rfl⟩ := h1
    rw [st_at, hv]
    exact ⟨x, hx.1, hx.2, rfl⟩
  · rw [st_ne (by omega)]
    exact h b j hb
theorem Inv.fr {S : Nat → Nat → Prop} {M M1 : Mem} (h : Inv M) (hf : Fr S M1 M) (hs : ∀ b k, S b k → 146 ≤ b) : Inv M1 := fun a k ha => by
  rw [hf a k (fun q => by have := hs a k q; omega)]
  exact h a k ha
theorem Inv.cp {M : Mem} (h : Inv M) {a b n : Nat} {lo hi : Int} (ha : ∀ k, iv a k = (lo, hi)) (hb : ∀ k, iv b k = (lo, hi)) (h1 : a < 146) : Inv (sA M b (va_cpy (M.1 a) (M.1 b) 0 0 n)) := fun e j he => by
  show ∃ z : Int, _ ∧ _ ∧ (if e = b then va_cpy (M.1 a) (M.1 b) 0 0 n else M.1 e) j = zI z
  by_cases h2 : e = b
  · rw [if_pos h2]
    unfold va_cpy
    subst h2
    rw [hb j]
    split
    · obtain ⟨z, q1, q2⟩ := h.ld (ha (0 + (j - 0))) h1
      exact ⟨z, q1.1, q1.2, q2⟩
    · obtain ⟨z, q1, q2⟩ := h.ld (hb j) he
      exact ⟨z, q1.1, q1.2, q2⟩
  · rw [if_neg h2]
    exact h e j he
theorem iv_w {a : Nat} (hk : kd a = (9, 0, 0)) : iv a 0 = (0, 12) ∧ iv a 1 = (0, 12) ∧ iv a 2 = (0, 4095) ∧ iv a 3 = (0, 4095) ∧ a + 2 < 146 ∧ ivT.getD (a + 1) [] = [(-2, 99)] ∧ ivT.getD (a + 2) [] = [(0, 4095)] := ⟨(by decide +kernel : ∀ a, a < 159 → kd a = (9, 0, 0) → iv a 0 = (0, 12)) a (kd_lt hk (by decide)) hk, (by decide +kernel : ∀ a, a < 159 → kd a = (9, 0, 0) → iv a 1 = (0, 12)) a (kd_lt hk (by decide)) hk, (by decide +kernel : ∀ a, a < 159 → kd a = (9, 0, 0) → iv a 2 = (0, 4095)) a (kd_lt hk (by decide)) hk, (by decide +kernel : ∀ a, a < 159 → kd a = (9, 0, 0) → iv a 3 = (0, 4095)) a (kd_lt hk (by decide)) hk, (by decide +kernel : ∀ a, a < 159 → kd a = (9, 0, 0) → a + 2 < 146) a (kd_lt hk (by decide)) hk, (by decide +kernel : ∀ a, a < 159 → kd a = (9, 0, 0) → ivT.getD (a + 1) [] = [(-2, 99)]) a (kd_lt hk (by decide)) hk, (by decide +kernel : ∀ a, a < 159 → kd a = (9, 0, 0) → ivT.getD (a + 2) [] = [(0, 4095)]) a (kd_lt hk (by decide)) hk⟩
theorem iv_w0 {a : Nat} (hk : kd a = (9, 0, 0)) : iv a 0 = (0, 12) := (iv_w hk).1
theorem iv_w1 {a : Nat} (hk : kd a = (9, 0, 0)) : iv a 1 = (0, 12) := (iv_w hk).2.1
theorem iv_w2 {a : Nat} (hk : kd a = (9, 0, 0)) : iv a 2 = (0, 4095) := (iv_w hk).2.2.1
theorem iv_w3 {a : Nat} (hk : kd a = (9, 0, 0)) : iv a 3 = (0, 4095) := (iv_w hk).2.2.2.1
theorem lt_w {a : Nat} (hk : kd a = (9, 0, 0)) : a + 2 < 146 := (iv_w hk).2.2.2.2.1
theorem iv_wk {a : Nat} (hk : kd a = (9, 0, 0)) (k : Nat) : iv (a + 1) k = (-2, 99) := by unfold iv; rw [(iv_w hk).2.2.2.2.2.1]
theorem iv_wl {a : Nat} (hk : kd a = (9, 0, 0)) (k : Nat) : iv (a + 2) k = (0, 4095) := by unfold iv; rw [(iv_w hk).2.2.2.2.2.2]
theorem iv_u {a : Nat} (hk : kd a = (4, 0, 0)) : a + 1 < 146 ∧ ivT.getD (a + 1) [] = [(-2, 99)] ∧ kd (a + 1) = (22, 8, 0) := by
  have h : ∀ a, a < 159 → kd a = (4, 0, 0) → a + 1 < 146 ∧ ivT.getD (a + 1) [] = [(-2, 99)] ∧ kd (a + 1) = (22, 8, 0) := by decide +kernel
  exact h a (kd_lt hk (by decide)) hk
theorem iv_up {a : Nat} (hk : kd a = (4, 0, 0)) (k : Nat) : iv (a + 1) k = (-2, 99) := by unfold iv; rw [(iv_u hk).2.1]
theorem lt_u {a : Nat} (hk : kd a = (4, 0, 0)) : a + 1 < 146 := (iv_u hk).1
theorem kd_stg {j : Nat} (h : j < 9) : kd (44 + 3 * j) = (9, 0, 0) := (by decide +kernel : ∀ j, j < 9 → kd (44 + 3 * j) = (9, 0, 0)) j h
theorem kd_rng {j : Nat} (h : j < 12) : kd (73 + 3 * j) = (9, 0, 0) := (by decide +kernel : ∀ j, j < 12 → kd (73 + 3 * j) = (9, 0, 0)) j h
theorem kd_lev {j : Nat} (h : j < 7) : kd (114 + 3 * j) = (9, 0, 0) := (by decide +kernel : ∀ j, j < 7 → kd (114 + 3 * j) = (9, 0, 0)) j h
theorem kd_lst {j : Nat} (h : j < 8) : kd (28 + 2 * j) = (4, 0, 0) := (by decide +kernel : ∀ j, j < 8 → kd (28 + 2 * j) = (4, 0, 0)) j h
theorem kd_dra {j : Nat} (h : j < 8) : kd (6 + 2 * j) = (4, 0, 0) := (by decide +kernel : ∀ j, j < 8 → kd (6 + 2 * j) = (4, 0, 0)) j h
-- values whose writing isn't told, with what is known of them
theorem rg_ex (x : Int32) : ∃ z : Int, (-2147483648 ≤ z ∧ z ≤ 2147483647) ∧ x = zI z := by
  obtain ⟨z, h1, h2⟩ := zI_ex x
  exact ⟨z, ⟨h1.1, by have := h1.2; omega⟩, h2⟩
theorem add_ex (x y : Int) : ∃ z : Int, (-2147483648 ≤ z ∧ z ≤ 2147483647) ∧ (z = x + y ∨ x + y < -2147483648 ∨ 2147483647 < x + y) ∧ zI x + zI y = zI z := by
  obtain ⟨z, h1, h2⟩ := rg_ex (zI x + zI y)
  refine ⟨z, h1, ?_, h2⟩
  by_cases h : x + y < -2147483648 ∨ 2147483647 < x + y
  · exact Or.inr h
  · refine Or.inl ?_
    rw [zI_add] at h2
    exact ((zI_eq (by constructor <;> omega) (by constructor <;> omega)).mp h2).symm
theorem sub_ex (x y : Int) : ∃ z : Int, (-2147483648 ≤ z ∧ z ≤ 2147483647) ∧ (z = x - y ∨ x - y < -2147483648 ∨ 2147483647 < x - y) ∧ zI x - zI y = zI z := by
  obtain ⟨z, h1, h2⟩ := rg_ex (zI x - zI y)
  refine ⟨z, h1, ?_, h2⟩
  by_cases h : x - y < -2147483648 ∨ 2147483647 < x - y
  · exact Or.inr h
  · refine Or.inl ?_
    rw [zI_sub] at h2
    exact ((zI_eq (by constructor <;> omega) (by constructor <;> omega)).mp h2).symm
theorem neg_ex (x : Int) : ∃ z : Int, (-2147483648 ≤ z ∧ z ≤ 2147483647) ∧ (z = -x ∨ -x < -2147483648 ∨ 2147483647 < -x) ∧ -zI x = zI z := by
  obtain ⟨z, h1, h2⟩ := rg_ex (-zI x)
  refine ⟨z, h1, ?_, h2⟩
  by_cases h : -x < -2147483648 ∨ 2147483647 < -x
  · exact Or.inr h
  · refine Or.inl ?_
    rw [zI_neg] at h2
    exact ((zI_eq (by constructor <;> omega) (by constructor <;> omega)).mp h2).symm
theorem and_l {x : Nat} {y : Int32} (hx : x < 2147483648) : ∃ z : Nat, z ≤ x ∧ zI (x : Int) &&& y = zI (z : Int) := by
  refine ⟨x &&& y.toUInt32.toNat, Nat.and_le_left, ?_⟩
  refine b_ext fun i hi => ?_
  rw [b_and, bt_zI _ hi, bt_zI _ hi, Nat.testBit_and]
  congr 1
theorem and_ex (x y : Int) (hx : -2147483648 ≤ x ∧ x ≤ 2147483647) (hy : -2147483648 ≤ y ∧ y ≤ 2147483647) : ∃ z : Int, (-2147483648 ≤ z ∧ z ≤ 2147483647) ∧ (x < 0 ∨ (0 ≤ z ∧ z ≤ x)) ∧ (y < 0 ∨ (0 ≤ z ∧ z ≤ y)) ∧ zI x &&& zI y = zI z := by
  obtain ⟨z, h1, h2⟩ := rg_ex (zI x &&& zI y)
  refine ⟨z, h1, ?_, ?_, h2⟩
  · by_cases h : x < 0
    · exact Or.inl h
    · refine Or.inr ?_
      obtain ⟨k, h3, h4⟩ := and_l (x := x.toNat) (y := zI y) (by omega)
      rw [show ((x.toNat : Nat) : Int) = x by omega, h2] at h4
      have := (zI_eq (by constructor <;> omega) (by constructor <;> omega)).mp h4
      omega
  · by_cases h : y < 0
    · exact Or.inl h
    · refine Or.inr ?_
      obtain ⟨k, h3, h4⟩ := and_l (x := y.toNat) (y := zI x) (by omega)
      rw [show ((y.toNat : Nat) : Int) = y by omega, Int32.and_comm, h2] at h4
      have := (zI_eq (by constructor <;> omega) (by constructor <;> omega)).mp h4
      omega
theorem or_ex (x y : Int) : ∃ z : Int, (-2147483648 ≤ z ∧ z ≤ 2147483647) ∧ (x < 0 ∨ 4095 < x ∨ y < 0 ∨ 4095 < y ∨ (x ≤ z ∧ y ≤ z ∧ z ≤ 4095)) ∧ zI x ||| zI y = zI z := by
  obtain ⟨z, h1, h2⟩ := rg_ex (zI x ||| zI y)
  refine ⟨z, h1, ?_, h2⟩
  by_cases h : x < 0 ∨ 4095 < x ∨ y < 0 ∨ 4095 < y
  · omega
  · have h3 := zb_or x.toNat y.toNat
    rw [show ((x.toNat : Nat) : Int) = x by omega, show ((y.toNat : Nat) : Int) = y by omega, h2] at h3
    have h4 := or_lt12 (a := x.toNat) (b := y.toNat) (by omega) (by omega)
    have h5 := (zI_eq (by constructor <;> omega) (by constructor <;> omega)).mp h3
    have h6 : x.toNat ≤ x.toNat ||| y.toNat := Nat.left_le_or
    have h7 : y.toNat ≤ x.toNat ||| y.toNat := Nat.right_le_or
    omega
theorem not_ex (x : Int) : zI x ^^^ zI (-1) = zI (-x - 1) := by
  have h : ∀ a : Int32, a ^^^ (-1) = -a - 1 := fun a => by
    rw [← Int32.toBitVec_inj]
    rw [Int32.toBitVec_xor, Int32.toBitVec_sub, show (-1 : Int32).toBitVec = BitVec.allOnes 32 by decide, BitVec.xor_allOnes, Int32.toBitVec_neg, BitVec.neg_eq_not_add, show (1 : Int32).toBitVec = 1#32 by decide, BitVec.add_sub_cancel]
  rw [show zI (-1) = (-1 : Int32) by decide, h, zI_neg, show (1 : Int32) = zI 1 by decide, zI_sub]
theorem shl_k : ∀ n, n < 13 → ∀ b, b < 2 → (nI b) <<< (nI n &&& 31) = nI (b * 2 ^ n) := by decide +kernel
theorem shl_ex (x y : Int) : ∃ z : Int, (-2147483648 ≤ z ∧ z ≤ 2147483647) ∧ (x < 0 ∨ 1 < x ∨ y < 0 ∨ 12 < y ∨ (x ≤ z ∧ z ≤ 4096 ∧ (12 ≤ y ∨ z ≤ 2048))) ∧ zI x <<< (zI y &&& 31) = zI z := by
  obtain ⟨z, h1, h2⟩ := rg_ex (zI x <<< (zI y &&& 31))
  refine ⟨z, h1, ?_, h2⟩
  by_cases h : x < 0 ∨ 1 < x ∨ y < 0 ∨ 12 < y
  · omega
  · have h3 := shl_k y.toNat (by omega) x.toNat (by omega)
    rw [← zI_nI, ← zI_nI, ← zI_nI, show ((x.toNat : Nat) : Int) = x by omega, show ((y.toNat : Nat) : Int) = y by omega, h2] at h3
    have h4 : 2 ^ y.toNat ≤ 2 ^ 12 := Nat.pow_le_pow_right (by omega) (by omega)
    have h4' : 12 ≤ y ∨ 2 ^ y.toNat ≤ 2 ^ 11 := by
      by_cases h : 12 ≤ y
      · exact Or.inl h
      · exact Or.inr (Nat.pow_le_pow_right (by omega) (by omega))
    have h6 : 0 < 2 ^ y.toNat := Nat.two_pow_pos _
    have h5 : x.toNat * 2 ^ y.toNat ≤ 2 ^ y.toNat ∧ x.toNat ≤ x.toNat * 2 ^ y.toNat := by
      rcases (show x.toNat = 0 ∨ x.toNat = 1 by omega) with h | h <;> rw [h] <;> omega
    generalize 2 ^ y.toNat = P at h3 h4 h4' h5 h6
    generalize x.toNat * P = X at h3 h5
    have h7 := (zI_eq (by constructor <;> omega) (by constructor <;> omega)).mp h3
    omega
theorem shr_ex (x y : Int) (hx : -2147483648 ≤ x ∧ x ≤ 2147483647) : ∃ z : Int, (-2147483648 ≤ z ∧ z ≤ 2147483647) ∧ (x < 0 ∨ y < 0 ∨ 31 < y ∨ (0 ≤ z ∧ z ≤ x)) ∧ zI x >>> (zI y &&& 31) = zI z := by
  obtain ⟨z, h1, h2⟩ := rg_ex (zI x >>> (zI y &&& 31))
  refine ⟨z, h1, ?_, h2⟩
  by_cases h : x < 0 ∨ y < 0 ∨ 31 < y
  · omega
  · have h3 := zb_shr (a := x.toNat) (n := y.toNat) (by omega) (by omega)
    rw [show ((x.toNat : Nat) : Int) = x by omega, show ((y.toNat : Nat) : Int) = y by omega, h2] at h3
    have h4 := shr_le x.toNat y.toNat
    generalize x.toNat >>> y.toNat = r at h3 h4
    have h7 := (zI_eq (by constructor <;> omega) (by constructor <;> omega)).mp h3
    omega
theorem i2b_ex (x : Int32) : ∃ z : Int, (-128 ≤ z ∧ z ≤ 127) ∧ x.toInt8.toInt32 = zI z := by
  refine ⟨x.toInt8.toInt, ⟨Int8.le_toInt _, by have := Int8.toInt_lt x.toInt8; omega⟩, ?_⟩
  rw [zI_of x.toInt8.toInt32, Int8.toInt_toInt32]
theorem i2c_ex (x : Int32) : ∃ z : Int, (0 ≤ z ∧ z ≤ 65535) ∧ (x.toUInt32 % 65536).toInt32 = zI z := by
  refine ⟨((x.toUInt32 % 65536).toNat : Int), ?_, ?_⟩
  · have : (x.toUInt32 % 65536).toNat < 65536 := by
      rw [UInt32.toNat_mod]
      exact Nat.mod_lt _ (by decide)
    omega
  · rw [zI_nI]
    unfold nI
    refine Int32.toBitVec_inj.mp ?_
    refine BitVec.eq_of_toNat_eq ?_
    have h9 : (x.toUInt32 % 65536).toNat < 65536 := by
      rw [UInt32.toNat_mod]
      exact Nat.mod_lt _ (by decide)
    rw [show (Int32.ofNat (x.toUInt32 % 65536).toNat).toBitVec = BitVec.ofNat 32 (x.toUInt32 % 65536).toNat from rfl, BitVec.toNat_ofNat, Nat.mod_eq_of_lt (by omega)]
    rfl
theorem nar_b {z : Int} (h : -128 ≤ z ∧ z ≤ 127) : vp_nar .byte (zI z) = zI z := by
  have h1 : ∀ k : Nat, k < 256 → vp_nar .byte (zI ((k : Int) - 128)) = zI ((k : Int) - 128) := by decide +kernel
  have h2 := h1 (z + 128).toNat (by omega)
  rwa [show (((z + 128).toNat : Nat) : Int) - 128 = z by omega] at h2
theorem s_anyQ {l : Launch} {D : va_G} {B : Nat} {cy : Nat → ClassId} {M : Mem} {cc : ByteArray} {y : MethodName} {n : Nat} {ret : Option FieldType} {fr lo : Nat} {av : List Value} {Qc : Array Value → State → Outcome → State → Prop} (hy : plainName y.cls = true) (hn : (lg_sl av).length ≤ n)
    (body : ∀ (p : Program) (e : Env) (s : State) (m : MethodId) (args : Array Value) (below : List Frame) (meth : Method) (c : Code) (ls : Array Slot) (Q : State → Prop), CallFix p m c cc n s args TB y.cls → meth.sig.returnType = ret → meth.locks = false → Q = MQ below Qc args s 0 0 (fun q => B ≤ q) → Wd D B cy s s.heap M s.heap [] → lv_has ls n (lv_args 0 av) → W p l e (rmm fr lo) s m args below meth c s.heap [] 0 0 Q (F0 m 0 ls [])) : Met l y (cw y cc n ret) (rmm fr lo) (va_Pc av (Wp D B cy M)) Qc 0 0 (fun q => B ≤ q) :=
  s_any hy hn (fun p e s m below meth c ls F hr hl w h => body p e s m _ below meth c ls _ F hr hl rfl w h)
