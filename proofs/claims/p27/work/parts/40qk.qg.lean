-- a word as a text
-- the class's text; the reference's
def isTx (M : Mem) (tx : List Nat) : Prop := M.1 141 1 = zI ((tx.length : Nat) : Int) ∧ ∀ i, i < tx.length → M.1 142 i = zI ((tx.getD i 0 : Nat) : Int)
def isTy (M : Mem) (tx : List Nat) : Prop := M.1 146 22 = zI ((tx.length : Nat) : Int) ∧ ∀ i, i < tx.length → M.1 156 i = zI ((tx.getD i 0 : Nat) : Int)
theorem gd_l {tx : List Nat} {c i : Nat} (h : i < tx.length) : (tx ++ [c]).getD i 0 = tx.getD i 0 := by
  rw [List.getD_eq_getElem?_getD, List.getElem?_append_left h, ← List.getD_eq_getElem?_getD]
theorem gd_r {tx : List Nat} {c : Nat} : (tx ++ [c]).getD tx.length 0 = c := by
  rw [List.getD_eq_getElem?_getD, List.getElem?_append_right (Nat.le_refl _), Nat.sub_self]
  rfl
theorem isTx.put {M : Mem} {tx : List Nat} {c : Nat} (h : isTx M tx) : isTx (st (st M 142 tx.length (zI (c : Int))) 141 1 (zI ((tx.length + 1 : Nat) : Int))) (tx ++ [c]) := by
  have hl : (tx ++ [c]).length = tx.length + 1 := by rw [List.length_append]; rfl
  refine ⟨by rw [hl]; exact st_at, fun i hi => ?_⟩
  rw [hl] at hi
  rw [st_ob (by decide)]
  by_cases h1 : i = tx.length
  · rw [h1, gd_r]; exact st_at
  · rw [st_ne (Or.inr h1), gd_l (by omega)]; exact h.2 i (by omega)
theorem isTy.put {M : Mem} {tx : List Nat} {c : Nat} (h : isTy M tx) : isTy (st (st M 156 tx.length (zI (c : Int))) 146 22 (zI ((tx.length + 1 : Nat) : Int))) (tx ++ [c]) := by
  have hl : (tx ++ [c]).length = tx.length + 1 := by rw [List.length_append]; rfl
  refine ⟨by rw [hl]; exact st_at, fun i hi => ?_⟩
  rw [hl] at hi
  rw [st_ob (by decide)]
  by_cases h1 : i = tx.length
  · rw [h1, gd_r]; exact st_at
  · rw [st_ne (Or.inr h1), gd_l (by omega)]; exact h.2 i (by omega)
def FrX9 (M1 M : Mem) : Prop := ∀ b, b ≠ 141 → b ≠ 142 → M1.1 b = M.1 b
theorem FrX9.rf {M : Mem} : FrX9 M M := fun _ _ _ => rfl
theorem FrX9.tr {M M1 M2 : Mem} (h1 : FrX9 M1 M) (h2 : FrX9 M2 M1) : FrX9 M2 M := fun b x y => (h2 b x y).trans (h1 b x y)
theorem FrX9.p {M : Mem} {j : Nat} {x y : Int32} : FrX9 (st (st M 142 j x) 141 1 y) M := fun b h1 h2 => by rw [st_ob h1, st_ob h2]
theorem kd9_no {a : Nat} (hk : kd a = (9, 0, 0)) : a ≠ 141 ∧ a ≠ 142 ∧ a + 1 ≠ 141 ∧ a + 1 ≠ 142 ∧ a + 2 ≠ 141 ∧ a + 2 ≠ 142 := by
  have := w_ap hk
  omega
theorem CW.tx {M M1 : Mem} {a q hv ed : Nat} {o : Wo} (h : CW M a q hv ed o) (hk : kd a = (9, 0, 0)) (hf : FrX9 M1 M) : CW M1 a q hv ed o := by
  have h9 := kd9_no hk
  exact h.fr (hf _ (by omega) (by omega)) (hf _ (by omega) (by omega)) (hf _ (by omega) (by omega))
def FrZ (M1 M : Mem) : Prop := (∀ b, b ≠ 146 → b ≠ 156 → M1.1 b = M.1 b) ∧ ∀ k, k ≠ 22 → M1.1 146 k = M.1 146 k
theorem FrZ.rf {M : Mem} : FrZ M M := ⟨fun _ _ _ => rfl, fun _ _ => rfl⟩
theorem FrZ.tr {M M1 M2 : Mem} (h1 : FrZ M1 M) (h2 : FrZ M2 M1) : FrZ M2 M := ⟨fun b x y => (h2.1 b x y).trans (h1.1 b x y), fun k x => (h2.2 k x).trans (h1.2 k x)⟩
theorem FrZ.p {M : Mem} {j : Nat} {x y : Int32} : FrZ (st (st M 156 j x) 146 22 y) M := ⟨fun b h1 h2 => by rw [st_ob h1, st_ob h2], fun k hk => by rw [st_ne (Or.inr hk), st_ob (by decide)]⟩
theorem RW.tz {M M1 : Mem} {q hv ed : Nat} {o : Wo} {z : Int} (h : RW M q hv ed o z) (hf : FrZ M1 M) : RW M1 q hv ed o z := by
  have e := hf.1 148 (by decide) (by decide)
  exact ⟨by unfold isR; rw [e]; exact h.1, h.2.1, h.2.2.1, h.2.2.2.1, (hf.2 3 (by decide)).trans h.2.2.2.2⟩
theorem rem_zI {x y : Int} (hx : 0 ≤ x ∧ x ≤ 2147483647) (hy : 0 < y ∧ y ≤ 2147483647) : zI x - zI x / zI y * zI y = zI (x % y) := by
  rw [div_zI hx hy, zI_mul, zI_sub, Int.emod_def x y, Int.mul_comm y]
theorem FrX9.z {M : Mem} {y : Int32} : FrX9 (st M 141 1 y) M := fun b h1 h2 => st_ob h1
theorem FrZ.z {M : Mem} {y : Int32} : FrZ (st M 146 22 y) M := ⟨fun b h1 h2 => st_ob h1, fun k hk => st_ne (Or.inr hk)⟩
section Sp
variable {i : Int} {q hv ed : Nat} {o : Wo}
end Sp
