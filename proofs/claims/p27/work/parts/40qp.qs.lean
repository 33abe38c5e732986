-- sources: words without lines, told by a number
def p39 (i : Nat) : Nat := 3 ^ i
def sr3 (c i : Nat) : Nat := c / p39 i
def srK (n c : Nat) : Nat → Nat := fun k => sr3 c (n - 1 - k) % 3
def srL : Nat → Nat := fun _ => 0
def srO (n c : Nat) : Wo := (n, srK n c, srL)
theorem isW.cg {M : Mem} {a n q hv ed : Nat} {K L K2 L2 : Nat → Nat} (h : isW M a n q hv ed K L) (e : ∀ k, k < n → K k = K2 k) (e2 : ∀ k, k < n → L k = L2 k) : isW M a n q hv ed K2 L2 := ⟨h.1, h.2.1, h.2.2.1, h.2.2.2.1, fun k hk => by rw [← e k hk]; exact h.2.2.2.2.1 k hk, fun k hk => by rw [← e2 k hk]; exact h.2.2.2.2.2 k hk⟩
theorem isR.cg {M : Mem} {a n q hv ed : Nat} {K L K2 L2 : Nat → Nat} (h : isR M a n q hv ed K L) (e : ∀ k, k < n → K k = K2 k) (e2 : ∀ k, k < n → L k = L2 k) : isR M a n q hv ed K2 L2 := ⟨h.1, h.2.1, h.2.2.1, h.2.2.2.1, fun k hk => by rw [← e k hk]; exact h.2.2.2.2.1 k hk, fun k hk => by rw [← e2 k hk]; exact h.2.2.2.2.2 k hk⟩
/-- the word that a source gives; is it read as the one due -/
noncomputable def srW (Ps : Nat → Nat → Int) (m : Nat) (x : Fw) (n c : Nat) : Wo := sg9 Ps (x.1, x.2.1, x.2.2.1, srO n c) m
noncomputable def srP (Ps : Nat → Nat → Int) (m : Nat) (x : Fw) (n c : Nat) : Nat := yn (rdE x.1 (srW Ps m x n c) (sg9 Ps x m))
noncomputable def scF (Ps : Nat → Nat → Int) (m : Nat) (x : Fw) (n : Nat) : Nat → Nat
  | 0 => 0
  | c + 1 => scF Ps m x n c + srP Ps m x n c
noncomputable def sfF (Ps : Nat → Nat → Int) (m : Nat) (x : Fw) (n : Nat) : Nat → Int
  | 0 => -2
  | c + 1 => if srP Ps m x n c = 1 ∧ scF Ps m x n c = 0 then (c : Int) else sfF Ps m x n c
theorem yn_le {p : Prop} : yn p ≤ 1 := by
  by_cases h : p
  · rw [yn_1 h]; decide
  · rw [yn_0 h]; decide
/-- what the class keeps of sources that it has reckoned: it is so -/
def JS9 (M : Mem) (Ps : Nat → Nat → Int) (m : Nat) (x : Fw) : Prop := ∃ kn : Nat, kn < 4096 ∧ M.1 135 0 = zI (kn : Int) ∧ ∀ n, n ≤ 6 → kn.testBit n = true → M.1 136 n = zI ((scF Ps m x n (p39 n) : Nat) : Int) ∧ M.1 137 n = zI (sfF Ps m x n (p39 n))
theorem JS9.fr {M M1 : Mem} {Ps : Nat → Nat → Int} {m : Nat} {x : Fw} (h : JS9 M Ps m x) (e0 : M1.1 135 = M.1 135) (e1 : M1.1 136 = M.1 136) (e2 : M1.1 137 = M.1 137) : JS9 M1 Ps m x := by
  obtain ⟨kn, h1, h2, h3⟩ := h
  exact ⟨kn, h1, by rw [e0]; exact h2, fun n hn hb => by rw [e1, e2]; exact h3 n hn hb⟩
theorem JS9.z {M : Mem} {Ps : Nat → Nat → Int} {m : Nat} {x : Fw} (h : M.1 135 0 = zI 0) : JS9 M Ps m x := ⟨0, by decide, h, fun n _ hb => by rw [Nat.zero_testBit] at hb; cases hb⟩
/-- one row more -/
def FrJ (n : Nat) (M1 M : Mem) : Prop := M1.1 135 = M.1 135 ∧ ∀ j, j ≠ n → M1.1 136 j = M.1 136 j ∧ M1.1 137 j = M.1 137 j
theorem JS9.add {M M1 : Mem} {Ps : Nat → Nat → Int} {m n kn : Nat} {x : Fw} (hk : kn < 4096) (hn : n ≤ 6) (h3 : ∀ n, n ≤ 6 → kn.testBit n = true → M.1 136 n = zI ((scF Ps m x n (p39 n) : Nat) : Int) ∧ M.1 137 n = zI (sfF Ps m x n (p39 n))) (hF : FrJ n M1 M) (h1 : M1.1 136 n = zI ((scF Ps m x n (p39 n) : Nat) : Int)) (h2 : M1.1 137 n = zI (sfF Ps m x n (p39 n))) : JS9 (st M1 135 0 (zI ((kn ||| 2 ^ n : Nat) : Int))) Ps m x := by
  refine ⟨kn ||| 2 ^ n, or_lt12 hk (by have h9 := p2_b (n := n) (by omega); omega), st_at, fun j hj hb => ?_⟩
  rw [st_ob (by decide), st_ob (by decide)]
  by_cases e : j = n
  · rw [e]; exact ⟨h1, h2⟩
  · rw [Nat.testBit_or, Nat.testBit_two_pow, decide_eq_false (fun q => e q.symm), Bool.or_false] at hb
    rw [(hF.2 j e).1, (hF.2 j e).2]
    exact h3 j hj hb
theorem CS.d13 {M : Mem} {Ps : Nat → Nat → Int} {m rd k a j : Nat} {x : Fw} {Hs : Nat → Fw} {v : Int32} (h : CS M Ps m x rd Hs k) (ha : 109 ≤ a) : CS (st M a j v) Ps m x rd Hs k := h.fr (st_ob (by omega)) (fun b a1 a2 => st_ob (by omega))
theorem FrJ.d {n : Nat} {M M1 M2 : Mem} (h : FrJ n M1 M) (hF : Fr4 M2 M1 138) : FrJ n M2 M := by
  have e : ∀ b, b < 138 → b ≠ 23 → M2.1 b = M1.1 b := fun b h1 h2 => hF.1 b (by omega) (by omega) (by omega) h2
  refine ⟨(e 135 (by decide) (by decide)).trans h.1, fun j hj => ?_⟩
  rw [e 136 (by decide) (by decide), e 137 (by decide) (by decide)]
  exact h.2 j hj
theorem FrJ.rf {n : Nat} {M : Mem} : FrJ n M M := ⟨rfl, fun _ _ => ⟨rfl, rfl⟩⟩
theorem Fr1.t2 {M M1 M2 : Mem} {a : Nat} (h1 : Fr1 M1 M a) (h2 : Fr1 M2 M1 a) : Fr1 M2 M a := ⟨fun b hb => (h2.1 b hb).trans (h1.1 b hb), h2.2.trans h1.2⟩
