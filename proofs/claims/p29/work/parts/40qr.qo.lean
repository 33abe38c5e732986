-- orders: the next one, the one with a number
/-- the rules that are left, one picked by one -/
def nb9 (m : Nat) : Nat → Nat
  | 0 => low m
  | k + 1 => low (andn m (2 ^ (nb9 m k + 1) - 1))
def ec : Nat → Nat → Nat → Nat
  | 0, _, _ => 0
  | k + 1, m, c => nb9 m (c % (k + 1)) + 8 * ec k (andn m (2 ^ nb9 m (c % (k + 1)))) (c / (k + 1))
def ecF (n c : Nat) : Nat := ec n (2 ^ n - 1) c
def dg8 (v i : Nat) : Nat := v / 8 ^ i % 8
def ftl : Nat → Nat
  | 0 => 1
  | n + 1 => (n + 1) * ftl n
def iv9 : Nat → Nat → Nat
  | 0, _ => 0
  | n + 1, r => r / ftl n + (n + 1) * iv9 n (r % ftl n)
/-- the order with a rank, the first place at which it is another than the last -/
def odG (n t : Nat) : Nat → Nat := dg8 (ecF n (iv9 n t))
-- picks
/-- the words of all orders: by rank, by number -/
noncomputable def odW (Ps : Nat → Nat → Int) (m : Nat) (x : Fw) (t : Nat) : Wo := swW Ps x.1 x.2.1 x.2.2.1 (odG m t) m x.2.2.2
-- unlike readings
noncomputable def rpF (q : Nat) (w : Nat → Wo) : Nat → List Nat
  | 0 => []
  | t + 1 => if yn (∃ i, i ∈ rpF q w t ∧ rdE q (w i) (w t)) = 1 then rpF q w t else rpF q w t ++ [t]
noncomputable def smF (q : Nat) (w : Nat → Wo) (d : Wo) : Nat → Nat
  | 0 => 0
  | t + 1 => smF q w d t + yn (rdE q (w t) d)
/-- the answers -/
noncomputable def odU (Ps : Nat → Nat → Int) (m : Nat) (x : Fw) : Nat := (rpF x.1 (odW Ps m x) (ftl m)).length
noncomputable def odS (Ps : Nat → Nat → Int) (m : Nat) (x : Fw) : Nat := smF x.1 (odW Ps m x) (sg9 Ps x m) (ftl m)
-- what lies in memory
def isO (M : Mem) (n : Nat) (g : Nat → Nat) : Prop := ∀ k, k < n → M.1 110 k = zI ((g k : Nat) : Int)
theorem isO.fr {M M1 : Mem} {n : Nat} {g : Nat → Nat} (h : isO M n g) (e : M1.1 110 = M.1 110) : isO M1 n g := fun k hk => by rw [e]; exact h k hk
theorem isO.cg {M : Mem} {n : Nat} {g g2 : Nat → Nat} (h : isO M n g) (e : ∀ k, k < n → g k = g2 k) : isO M n g2 := fun k hk => by rw [← e k hk]; exact h k hk
def KVl (o : Wo) : Int64 := nL (kvr (sqR o.2.1 o.2.2 o.1))
def LRl (o : Wo) : Int64 := nL (lrF o.2.2 o.1)
def isE (M : Mem) (w : Nat → Wo) (l : List Nat) : Prop := M.1 109 1 = zI ((l.length : Nat) : Int) ∧ ∀ j, j < l.length → M.2 112 j = KVl (w (l.getD j 0)) ∧ M.2 113 j = LRl (w (l.getD j 0))
theorem isE.fr {M M1 : Mem} {w : Nat → Wo} {l : List Nat} (h : isE M w l) (e : M1.1 109 1 = M.1 109 1) (e2 : M1.2 = M.2) : isE M1 w l := ⟨e.trans h.1, fun j hj => by rw [e2]; exact h.2 j hj⟩
theorem gdo_l {l : List Nat} {t j : Nat} (h : j < l.length) : (l ++ [t]).getD j 0 = l.getD j 0 := by rw [List.getD_eq_getElem?_getD, List.getD_eq_getElem?_getD, List.getElem?_append_left h]
theorem gdo_r {l : List Nat} {t : Nat} : (l ++ [t]).getD l.length 0 = t := by
  rw [List.getD_eq_getElem?_getD, List.getElem?_append_right (Nat.le_refl _), Nat.sub_self]
  rfl
theorem sL_at {M : Mem} {a k : Nat} {x : Int64} : (sL M a k x).2 a k = x := by
  show (if a = a then vp_updL (M.2 a) k x else M.2 a) k = x
  rw [if_pos rfl]
  simp [vp_updL]
theorem sL_ne {M : Mem} {a k b j : Nat} {x : Int64} (h : b ≠ a ∨ j ≠ k) : (sL M a k x).2 b j = M.2 b j := by
  show (if b = a then vp_updL (M.2 a) k x else M.2 b) j = M.2 b j
  by_cases h1 : b = a
  · subst h1
    rw [if_pos rfl]
    rcases h with h | h
    · exact absurd rfl h
    · simp [vp_updL, h]
  · rw [if_neg h1]
theorem isE.add {M : Mem} {w : Nat → Wo} {l : List Nat} {t : Nat} (h : isE M w l) : isE (st (sL (sL M 112 l.length (KVl (w t))) 113 l.length (LRl (w t))) 109 1 (zI ((l.length + 1 : Nat) : Int))) w (l ++ [t]) := by
  refine ⟨?_, fun j hj => ?_⟩
  · rw [List.length_append]; exact st_at
  · rw [List.length_append] at hj
    have hj : j < l.length + 1 := hj
    show (sL (sL M 112 l.length (KVl (w t))) 113 l.length (LRl (w t))).2 112 j = _ ∧ (sL (sL M 112 l.length (KVl (w t))) 113 l.length (LRl (w t))).2 113 j = _
    by_cases e : j = l.length
    · subst e
      rw [gdo_r, sL_ne (Or.inl (by decide)), sL_at, sL_at]
      exact ⟨rfl, rfl⟩
    · rw [gdo_l (by omega), sL_ne (Or.inl (by decide)), sL_ne (Or.inr e), sL_ne (Or.inr e), sL_ne (Or.inl (by decide))]
      exact h.2 j (by omega)
/-- what the class keeps of orders: out of date, or so -/
def JO9 (M : Mem) (Ps : Nat → Nat → Int) (m : Nat) (x : Fw) : Prop := M.1 109 0 = zI 0 ∨ (M.1 109 0 = zI 1 ∧ M.1 109 1 = zI ((odU Ps m x : Nat) : Int) ∧ M.1 109 2 = zI ((odS Ps m x : Nat) : Int))
theorem JO9.fr {M M1 : Mem} {Ps : Nat → Nat → Int} {m : Nat} {x : Fw} (h : JO9 M Ps m x) (e : M1.1 109 = M.1 109) : JO9 M1 Ps m x := by
  unfold JO9
  rw [e]
  exact h
def FrN (M1 M : Mem) : Prop := (∀ b, b ≠ 109 → M1.1 b = M.1 b) ∧ ∀ k, k ≠ 1 → M1.1 109 k = M.1 109 k
theorem FrN.rf {M : Mem} : FrN M M := ⟨fun _ _ => rfl, fun _ _ => rfl⟩
theorem FrN.s {M : Mem} {a b i j : Nat} {x y : Int64} {v : Int32} : FrN (st (sL (sL M a i x) b j y) 109 1 v) M := ⟨fun b h => st_ob h, fun k hk => st_ne (Or.inr hk)⟩
def FrL9 (M1 M : Mem) : Prop := (∀ b, b ≠ 23 → (b < 114 ∨ 135 ≤ b) → M1.1 b = M.1 b) ∧ M1.2 = M.2
theorem FrL9.rf {M : Mem} : FrL9 M M := ⟨fun _ _ _ => rfl, rfl⟩
theorem FrL9.cp {M M1 M2 M3 : Mem} {a : Nat} (h : FrL9 M1 M) (h2 : Fr3 M2 M1 a) (h3 : Fr4 M3 M2 a) (ha : 114 ≤ a ∧ a + 2 < 135) : FrL9 M3 M := ⟨fun b hb hb2 => (h3.1 b (by omega) (by omega) (by omega) hb).trans ((h2.1 b (by omega) (by omega) (by omega)).trans (h.1 b hb hb2)), h3.2.trans (h2.2.trans h.2)⟩
theorem CS.lv {M M1 : Mem} {Ps : Nat → Nat → Int} {m rd k : Nat} {x : Fw} {Hs : Nat → Fw} (h : CS M Ps m x rd Hs k) (hF : FrL9 M1 M) : CS M1 Ps m x rd Hs k := h.fr (hF.1 22 (by decide) (by decide)) (fun b a1 a2 => hF.1 b (by omega) (by omega))
-- the reference's rows of readings
def duV (q : Nat) (o : Wo) (s : Nat) : Nat := if s < q then rdW9 o s else 0
def isY (M : Mem) (q : Nat) (w : Nat → Wo) (l : List Nat) : Prop := M.1 146 25 = zI ((l.length : Nat) : Int) ∧ ∀ j, j < l.length → ∀ s, s < 12 → M.1 158 (12 * j + s) = zI ((duV q (w (l.getD j 0)) s : Nat) : Int)
theorem isY.fr {M M1 : Mem} {q : Nat} {w : Nat → Wo} {l : List Nat} (h : isY M q w l) (e : M1.1 146 25 = M.1 146 25) (e2 : M1.1 158 = M.1 158) : isY M1 q w l := ⟨e.trans h.1, fun j hj s hs => by rw [e2]; exact h.2 j hj s hs⟩
theorem isY.add {M : Mem} {q t : Nat} {w : Nat → Wo} {l : List Nat} (h : ∀ j, j < l.length → ∀ s, s < 12 → M.1 158 (12 * j + s) = zI ((duV q (w (l.getD j 0)) s : Nat) : Int)) (h2 : ∀ s, s < 12 → M.1 158 (12 * l.length + s) = zI ((duV q (w t) s : Nat) : Int)) : isY (st M 146 25 (zI ((l.length + 1 : Nat) : Int))) q w (l ++ [t]) := by
  refine ⟨?_, fun j hj s hs => ?_⟩
  · rw [List.length_append]; exact st_at
  · rw [List.length_append] at hj
    have hj : j < l.length + 1 := hj
    rw [st_ob (by decide)]
    by_cases e : j = l.length
    · subst e; rw [gdo_r]; exact h2 s hs
    · rw [gdo_l (by omega)]; exact h j (by omega) s hs
theorem Fr1.t9 {M M1 : Mem} {q hv ed : Nat} {o : Wo} (hF : Fr1 M1 M 110) (h : CF M 44 (q, hv, ed, o)) : CW M1 44 q hv ed o := CW.fr h (hF.1 _ (by decide)) (hF.1 _ (by decide)) (hF.1 _ (by decide))
