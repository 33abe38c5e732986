-- the reference between two calls
def wA (g : Nat → Int32) (x : Fw) : Prop := g 0 = zI (x.2.2.2.1 : Int) ∧ g 25 = zI (x.1 : Int) ∧ g 26 = zI (x.2.1 : Int) ∧ g 27 = zI (x.2.2.1 : Int) ∧ (∀ k, k < x.2.2.2.1 → g (1 + k) = zI (x.2.2.2.2.1 k : Int)) ∧ ∀ k, k < x.2.2.2.1 → g (13 + k) = zI (x.2.2.2.2.2 k : Int)
def okF (x : Fw) : Prop := okW x.1 x.2.2.2 ∧ x.2.1 < 4096 ∧ x.2.2.1 < 4096
theorem wA.fr {g g2 : Nat → Int32} {x : Fw} (h : wA g x) (hx : okF x) (e : ∀ i, i < 28 → g2 i = g i) : wA g2 x := by
  have hn := hx.1.1
  exact ⟨(e 0 (by decide)).trans h.1, (e 25 (by decide)).trans h.2.1, (e 26 (by decide)).trans h.2.2.1, (e 27 (by decide)).trans h.2.2.2.1, fun k hk => (e _ (by omega)).trans (h.2.2.2.2.1 k hk), fun k hk => (e _ (by omega)).trans (h.2.2.2.2.2 k hk)⟩
def HM (M : Mem) (Hs : Nat → Fw) (k : Nat) : Prop := M.1 146 20 = zI (k : Int) ∧ k ≤ 12 ∧ ∀ j, j < k → wA (fun i => M.1 155 (28 * j + i)) (Hs j) ∧ okF (Hs j)
def MS (M : Mem) (Ps : Nat → Nat → Int) (m : Nat) (x : Fw) (Hs : Nat → Fw) (k : Nat) : Prop := GV M Ps m ∧ M.1 146 5 = zI (m : Int) ∧ (wA (M.1 147) x ∧ okF x) ∧ HM M Hs k
theorem MS.fr {M M1 : Mem} {Ps : Nat → Nat → Int} {m k : Nat} {x : Fw} {Hs : Nat → Fw} (h : MS M Ps m x Hs k) (e1 : M1.1 147 = M.1 147) (e2 : M1.1 149 = M.1 149) (e3 : M1.1 155 = M.1 155) (e4 : M1.1 146 5 = M.1 146 5) (e5 : M1.1 146 20 = M.1 146 20) : MS M1 Ps m x Hs k := ⟨h.1.fr e2, e4.trans h.2.1, ⟨by rw [e1]; exact h.2.2.1.1, h.2.2.1.2⟩, e5.trans h.2.2.2.1, h.2.2.2.2.1, fun j hj => ⟨by rw [e3]; exact (h.2.2.2.2.2 j hj).1, (h.2.2.2.2.2 j hj).2⟩⟩
theorem MS.told {M M1 : Mem} {Ps : Nat → Nat → Int} {m k : Nat} {x y : Fw} {Hs : Nat → Fw} (h : MS M Ps m x Hs k) (hF : Fr1 M1 M 147) (hC : wA (M1.1 147) y) (hy : okF y) : MS M1 Ps m y Hs k := ⟨h.1.fr (hF.1 149 (by decide)), (congrFun (hF.1 146 (by decide)) 5).trans h.2.1, ⟨hC, hy⟩, (congrFun (hF.1 146 (by decide)) 20).trans h.2.2.2.1, h.2.2.2.2.1, fun j hj => ⟨by rw [hF.1 155 (by decide)]; exact (h.2.2.2.2.2 j hj).1, (h.2.2.2.2.2 j hj).2⟩⟩
theorem MS.T {M : Mem} {Ps : Nat → Nat → Int} {m k : Nat} {x : Fw} {Hs : Nat → Fw} (h : MS M Ps m x Hs k) : TW M x.1 x.2.1 x.2.2.1 x.2.2.2 := ⟨h.2.2.1.1, h.2.2.1.2⟩
theorem MS.fw {M M1 : Mem} {Ps : Nat → Nat → Int} {m k : Nat} {x : Fw} {Hs : Nat → Fw} (h : MS M Ps m x Hs k) (hF : FrQ9 M1 M) : MS M1 Ps m x Hs k := h.fr (hF.1 _ (by decide) (by decide)) (hF.1 _ (by decide) (by decide)) (hF.1 _ (by decide) (by decide)) (hF.2.1 5 (by decide) (by decide)) (hF.2.1 20 (by decide) (by decide))
/-- rows that are moved, copied -/
def shM (M : Mem) (k : Nat) : Mem := sA M 155 (fun i => if i + 28 < k then M.1 155 (i + 28) else M.1 155 i)
theorem sA_id {M : Mem} {a : Nat} {f : Nat → Int32} (h : ∀ i, f i = M.1 a i) : sA M a f = M := by
  rw [show f = M.1 a from funext h, sA_self]
theorem st_sB {M : Mem} {a k : Nat} {f g : Nat → Int32} {x : Int32} (h : ∀ i, g i = if i = k then x else f i) : st (sA M a f) a k x = sA M a g := by
  refine Prod.ext (funext fun b => ?_) rfl
  by_cases hb : b = a
  · subst hb
    simp only [st, sA]
    simp
    funext i
    rw [h i]
    rfl
  · simp [st, sA, hb]
theorem shM_0 (M : Mem) : shM M 28 = M := sA_id fun i => if_neg (by omega)
theorem shM_rd {M : Mem} {k : Nat} : (shM M k).1 155 k = M.1 155 k := by
  show (if 155 = 155 then (fun i => if i + 28 < k then M.1 155 (i + 28) else M.1 155 i) else M.1 155) k = _
  rw [if_pos rfl]
  exact if_neg (by omega)
theorem shM_step {M : Mem} {k : Nat} (hk : 28 ≤ k) : st (shM M k) 155 (k - 28) (M.1 155 k) = shM M (k + 1) := st_sB fun i => by
  by_cases h : i = k - 28
  · rw [if_pos h, if_pos (by omega), show i + 28 = k by omega]
  · rw [if_neg h]
    by_cases h1 : i + 28 < k
    · rw [if_pos (by omega), if_pos h1]
    · rw [if_neg (by omega), if_neg h1]
theorem shM_o {M : Mem} {k b : Nat} (h : b ≠ 155) : (shM M k).1 b = M.1 b := by simp [shM, sA, h]
theorem shM_at {M : Mem} {i : Nat} (h : i + 28 < 336) : (shM M 336).1 155 i = M.1 155 (i + 28) := by
  show (if 155 = 155 then (fun i => if i + 28 < 336 then M.1 155 (i + 28) else M.1 155 i) else M.1 155) i = _
  rw [if_pos rfl]
  exact if_pos h
def cpO (M : Mem) (j k : Nat) : Mem := sA M 155 (fun i => if 28 * j ≤ i ∧ i < 28 * j + k then M.1 147 (i - 28 * j) else M.1 155 i)
theorem cpO_0 (M : Mem) (j : Nat) : cpO M j 0 = M := sA_id fun i => if_neg (by omega)
theorem cpO_o {M : Mem} {j k b : Nat} (h : b ≠ 155) : (cpO M j k).1 b = M.1 b := by simp [cpO, sA, h]
theorem cpO_step {M : Mem} {j k : Nat} : st (cpO M j k) 155 (28 * j + k) (M.1 147 k) = cpO M j (k + 1) := st_sB fun i => by
  by_cases h : i = 28 * j + k
  · rw [if_pos h, if_pos (by omega), show i - 28 * j = k by omega]
  · rw [if_neg h]
    by_cases h1 : 28 * j ≤ i ∧ i < 28 * j + k
    · rw [if_pos (by omega), if_pos h1]
    · rw [if_neg (by omega), if_neg h1]
theorem cpO_at {M : Mem} {j i : Nat} (h : i < 28) : (cpO M j 28).1 155 (28 * j + i) = M.1 147 i := by
  show (if 155 = 155 then (fun i => if 28 * j ≤ i ∧ i < 28 * j + 28 then M.1 147 (i - 28 * j) else M.1 155 i) else M.1 155) (28 * j + i) = _
  rw [if_pos rfl]
  show (if 28 * j ≤ 28 * j + i ∧ 28 * j + i < 28 * j + 28 then M.1 147 (28 * j + i - 28 * j) else M.1 155 (28 * j + i)) = _
  rw [if_pos (by omega), Nat.add_sub_cancel_left]
theorem cpO_ne {M : Mem} {j i : Nat} (h : ¬ (28 * j ≤ i ∧ i < 28 * j + 28)) : (cpO M j 28).1 155 i = M.1 155 i := by
  show (if 155 = 155 then (fun i => if 28 * j ≤ i ∧ i < 28 * j + 28 then M.1 147 (i - 28 * j) else M.1 155 i) else M.1 155) i = _
  rw [if_pos rfl]
  exact if_neg h
def cpB (M : Mem) (j k : Nat) : Mem := sA M 147 (fun i => if i < k then M.1 155 (28 * j + i) else M.1 147 i)
theorem cpB_0 (M : Mem) (j : Nat) : cpB M j 0 = M := sA_id fun i => if_neg (by omega)
theorem cpB_o {M : Mem} {j k b : Nat} (h : b ≠ 147) : (cpB M j k).1 b = M.1 b := by simp [cpB, sA, h]
theorem cpB_step {M : Mem} {j k : Nat} : st (cpB M j k) 147 k (M.1 155 (28 * j + k)) = cpB M j (k + 1) := st_sB fun i => by
  by_cases h : i = k
  · rw [if_pos h, if_pos (by omega), h]
  · rw [if_neg h]
    by_cases h1 : i < k
    · rw [if_pos (by omega), if_pos h1]
    · rw [if_neg (by omega), if_neg h1]
theorem cpB_at {M : Mem} {j i : Nat} (h : i < 28) : (cpB M j 28).1 147 i = M.1 155 (28 * j + i) := by
  show (if 147 = 147 then (fun i => if i < 28 then M.1 155 (28 * j + i) else M.1 147 i) else M.1 147) i = _
  rw [if_pos rfl]
  exact if_pos h
def FK (M1 M : Mem) : Prop := (∀ b, b ≠ 146 → b ≠ 155 → M1.1 b = M.1 b) ∧ (∀ k, k ≠ 20 → M1.1 146 k = M.1 146 k) ∧ M1.2 = M.2
theorem MS.keep1 {M : Mem} {Ps : Nat → Nat → Int} {m k : Nat} {x : Fw} {Hs : Nat → Fw} (h : MS M Ps m x Hs k) (hk : k < 12) : MS (st (cpO M k 28) 146 20 (zI ((k + 1 : Nat) : Int))) Ps m x (phH Hs k x) (phK k) ∧ FK (st (cpO M k 28) 146 20 (zI ((k + 1 : Nat) : Int))) M := by
  have e : ∀ b, b ≠ 146 → b ≠ 155 → (st (cpO M k 28) 146 20 (zI ((k + 1 : Nat) : Int))).1 b = M.1 b := fun b h1 h2 => by rw [st_ob h1, cpO_o h2]
  have e6 : ∀ i, i ≠ 20 → (st (cpO M k 28) 146 20 (zI ((k + 1 : Nat) : Int))).1 146 i = M.1 146 i := fun i hi => by rw [st_ne (Or.inr hi), cpO_o (by decide)]
  have hp : phK k = k + 1 := by unfold phK; rw [if_pos hk]
  refine ⟨⟨h.1.fr (e _ (by decide) (by decide)), (e6 5 (by decide)).trans h.2.1, ⟨by rw [e _ (by decide) (by decide)]; exact h.2.2.1.1, h.2.2.1.2⟩, by rw [hp]; exact st_at, by omega, fun j hj => ?_⟩, e, e6, rfl⟩
  rw [hp] at hj
  have e5 : ∀ i, (st (cpO M k 28) 146 20 (zI ((k + 1 : Nat) : Int))).1 155 i = (cpO M k 28).1 155 i := fun i => by rw [st_ob (by decide)]
  unfold phH
  rw [if_pos hk]
  by_cases h9 : j = k
  · subst h9
    show wA _ (if j = j then x else Hs j) ∧ okF (if j = j then x else Hs j)
    rw [if_pos rfl]
    exact ⟨h.2.2.1.1.fr h.2.2.1.2 (fun i hi => (e5 _).trans (cpO_at hi)), h.2.2.1.2⟩
  · show wA _ (if j = k then x else Hs j) ∧ okF (if j = k then x else Hs j)
    rw [if_neg h9]
    have h8 := h.2.2.2.2.2 j (by omega)
    exact ⟨h8.1.fr h8.2 (fun i hi => (e5 _).trans (cpO_ne (by omega))), h8.2⟩
theorem MS.keep2 {M : Mem} {Ps : Nat → Nat → Int} {m k : Nat} {x : Fw} {Hs : Nat → Fw} (h : MS M Ps m x Hs k) (hk : k = 12) : MS (st (cpO (st (shM M 336) 146 20 (zI 11)) 11 28) 146 20 (zI 12)) Ps m x (phH Hs k x) (phK k) ∧ FK (st (cpO (st (shM M 336) 146 20 (zI 11)) 11 28) 146 20 (zI 12)) M := by
  have e : ∀ b, b ≠ 146 → b ≠ 155 → (st (cpO (st (shM M 336) 146 20 (zI 11)) 11 28) 146 20 (zI 12)).1 b = M.1 b := fun b h1 h2 => by rw [st_ob h1, cpO_o h2, st_ob h1, shM_o h2]
  have e6 : ∀ i, i ≠ 20 → (st (cpO (st (shM M 336) 146 20 (zI 11)) 11 28) 146 20 (zI 12)).1 146 i = M.1 146 i := fun i hi => by rw [st_ne (Or.inr hi), cpO_o (by decide), st_ne (Or.inr hi), shM_o (by decide)]
  have hp : phK k = 12 := by unfold phK; rw [if_neg (by omega)]
  refine ⟨⟨h.1.fr (e _ (by decide) (by decide)), (e6 5 (by decide)).trans h.2.1, ⟨by rw [e _ (by decide) (by decide)]; exact h.2.2.1.1, h.2.2.1.2⟩, by rw [hp]; exact st_at, by omega, fun j hj => ?_⟩, e, e6, rfl⟩
  rw [hp] at hj
  have e5 : ∀ i, (st (cpO (st (shM M 336) 146 20 (zI 11)) 11 28) 146 20 (zI 12)).1 155 i = (cpO (st (shM M 336) 146 20 (zI 11)) 11 28).1 155 i := fun i => by rw [st_ob (by decide)]
  unfold phH
  rw [if_neg (by omega)]
  by_cases h9 : j = 11
  · subst h9
    show wA _ (if 11 = 11 then x else Hs (11 + 1)) ∧ okF (if 11 = 11 then x else Hs (11 + 1))
    rw [if_pos rfl]
    exact ⟨h.2.2.1.1.fr h.2.2.1.2 (fun i hi => (e5 _).trans ((cpO_at hi).trans (by rw [st_ob (by decide), shM_o (by decide)]))), h.2.2.1.2⟩
  · show wA _ (if j = 11 then x else Hs (j + 1)) ∧ okF (if j = 11 then x else Hs (j + 1))
    rw [if_neg h9]
    have h8 := h.2.2.2.2.2 (j + 1) (by omega)
    exact ⟨h8.1.fr h8.2 (fun i hi => (e5 _).trans ((cpO_ne (by omega)).trans (by rw [st_ob (by decide), shM_at (by omega), show 28 * j + i + 28 = 28 * (j + 1) + i by omega]))), h8.2⟩
theorem MS.undo {M : Mem} {Ps : Nat → Nat → Int} {m k : Nat} {x : Fw} {Hs : Nat → Fw} (h : MS M Ps m x Hs k) (hk : 1 ≤ k) : MS (cpB (st M 146 20 (zI ((k - 1 : Nat) : Int))) (k - 1) 28) Ps m (Hs (k - 1)) Hs (k - 1) := by
  have h12 := h.2.2.2.2.1
  have e : ∀ b, b ≠ 146 → b ≠ 147 → (cpB (st M 146 20 (zI ((k - 1 : Nat) : Int))) (k - 1) 28).1 b = M.1 b := fun b h1 h2 => by rw [cpB_o h2, st_ob h1]
  have h8 := h.2.2.2.2.2 (k - 1) (by omega)
  refine ⟨h.1.fr (e _ (by decide) (by decide)), ?_, ⟨h8.1.fr h8.2 (fun i hi => (cpB_at hi).trans (by rw [st_ob (by decide)])), h8.2⟩, ?_, by omega, fun j hj => ⟨?_, (h.2.2.2.2.2 j (by omega)).2⟩⟩
  · rw [cpB_o (by decide), st_ne (Or.inr (by decide))]; exact h.2.1
  · rw [cpB_o (by decide)]; exact st_at
  · rw [e _ (by decide) (by decide)]; exact (h.2.2.2.2.2 j (by omega)).1
theorem Fr1.s {M : Mem} {a k : Nat} {x : Int32} : Fr1 (st M a k x) M a := ⟨fun b h => st_ob h, rfl⟩
theorem Fr1.tr {M M1 M2 : Mem} {a : Nat} (h1 : Fr1 M1 M a) (h2 : Fr1 M2 M1 a) : Fr1 M2 M a := ⟨fun b h => (h2.1 b h).trans (h1.1 b h), h2.2.trans h1.2⟩
theorem rlW {M : Mem} {a n q hv ed t v : Nat} {K L : Nat → Nat} (hW : isR M a n q hv ed K L) (hn : n ≤ 12) (ht : t < n) : isR (st M a (13 + t) (zI (v : Int))) a n q hv ed K (updF L t v) := by
  obtain ⟨w0, w1, w2, w3, w4, w5⟩ := hW
  refine ⟨?_, ?_, ?_, ?_, fun k hk => ?_, fun k hk => ?_⟩
  · rw [st_ne (Or.inr (by omega))]; exact w0
  · rw [st_ne (Or.inr (by omega))]; exact w1
  · rw [st_ne (Or.inr (by omega))]; exact w2
  · rw [st_ne (Or.inr (by omega))]; exact w3
  · rw [st_ne (Or.inr (by omega))]; exact w4 k hk
  · unfold updF
    by_cases h : k = t
    · subst h; rw [if_pos rfl]; exact st_at
    · rw [if_neg h, st_ne (Or.inr (by omega))]; exact w5 k hk
theorem rkW {M : Mem} {a n q hv ed t v : Nat} {K L : Nat → Nat} (hW : isR M a n q hv ed K L) (hn : n ≤ 12) (ht : t < n) : isR (st M a (1 + t) (zI (v : Int))) a n q hv ed (updF K t v) L := by
  obtain ⟨w0, w1, w2, w3, w4, w5⟩ := hW
  refine ⟨?_, ?_, ?_, ?_, fun k hk => ?_, fun k hk => ?_⟩
  · rw [st_ne (Or.inr (by omega))]; exact w0
  · rw [st_ne (Or.inr (by omega))]; exact w1
  · rw [st_ne (Or.inr (by omega))]; exact w2
  · rw [st_ne (Or.inr (by omega))]; exact w3
  · unfold updF
    by_cases h : k = t
    · subst h; rw [if_pos rfl]; exact st_at
    · rw [if_neg h, st_ne (Or.inr (by omega))]; exact w4 k hk
  · rw [st_ne (Or.inr (by omega))]; exact w5 k hk
theorem rqW {M : Mem} {a n q hv ed v : Nat} {K L : Nat → Nat} (hW : isR M a n q hv ed K L) (hn : n ≤ 12) : isR (st M a 25 (zI (v : Int))) a n v hv ed K L := by
  obtain ⟨w0, w1, w2, w3, w4, w5⟩ := hW
  exact ⟨by rw [st_ne (Or.inr (by decide))]; exact w0, st_at, by rw [st_ne (Or.inr (by decide))]; exact w2, by rw [st_ne (Or.inr (by decide))]; exact w3, fun k hk => by rw [st_ne (Or.inr (by omega))]; exact w4 k hk, fun k hk => by rw [st_ne (Or.inr (by omega))]; exact w5 k hk⟩
theorem rhW {M : Mem} {a n q hv ed v : Nat} {K L : Nat → Nat} (hW : isR M a n q hv ed K L) (hn : n ≤ 12) : isR (st M a 26 (zI (v : Int))) a n q v ed K L := by
  obtain ⟨w0, w1, w2, w3, w4, w5⟩ := hW
  exact ⟨by rw [st_ne (Or.inr (by decide))]; exact w0, by rw [st_ne (Or.inr (by decide))]; exact w1, st_at, by rw [st_ne (Or.inr (by decide))]; exact w3, fun k hk => by rw [st_ne (Or.inr (by omega))]; exact w4 k hk, fun k hk => by rw [st_ne (Or.inr (by omega))]; exact w5 k hk⟩
theorem reW {M : Mem} {a n q hv ed v : Nat} {K L : Nat → Nat} (hW : isR M a n q hv ed K L) (hn : n ≤ 12) : isR (st M a 27 (zI (v : Int))) a n q hv v K L := by
  obtain ⟨w0, w1, w2, w3, w4, w5⟩ := hW
  exact ⟨by rw [st_ne (Or.inr (by decide))]; exact w0, by rw [st_ne (Or.inr (by decide))]; exact w1, by rw [st_ne (Or.inr (by decide))]; exact w2, st_at, fun k hk => by rw [st_ne (Or.inr (by omega))]; exact w4 k hk, fun k hk => by rw [st_ne (Or.inr (by omega))]; exact w5 k hk⟩
/-- neither the class nor the reference's tape has changed -/
def FR (M1 M : Mem) : Prop := (∀ b, b < 146 ∨ b = 150 ∨ b = 152 → M1.1 b = M.1 b) ∧ M1.1 146 8 = M.1 146 8
theorem FR.rf {M : Mem} : FR M M := ⟨fun _ _ => rfl, rfl⟩
theorem FR.tr {M M1 M2 : Mem} (h1 : FR M1 M) (h2 : FR M2 M1) : FR M2 M := ⟨fun b x => (h2.1 b x).trans (h1.1 b x), h2.2.trans h1.2⟩
theorem FR.k {M M1 : Mem} (h : FK M1 M) : FR M1 M := ⟨fun b x => h.1 b (by omega) (by omega), h.2.1 8 (by decide)⟩
theorem FR.f1 {M M1 : Mem} {a : Nat} (h : Fr1 M1 M a) (ha : 147 ≤ a ∧ a ≠ 150 ∧ a ≠ 152) : FR M1 M := ⟨fun b x => h.1 b (by omega), congrFun (h.1 146 (by omega)) 8⟩
theorem FR.q {M M1 : Mem} (h : FrQ9 M1 M) : FR M1 M := ⟨fun b x => h.1 b (by omega) (by omega), h.2.1 8 (by decide) (by decide)⟩
theorem FR.of {M M1 M2 : Mem} (h1 : FK M1 M) (h2 : Fr1 M2 M1 147) : FR M2 M := FR.tr (FR.k h1) (FR.f1 h2 (by decide))
theorem FR.un {M : Mem} {j : Nat} {v : Int32} : FR (cpB (st M 146 20 v) j 28) M := ⟨fun b x => by rw [cpB_o (by omega), st_ob (by omega)], by rw [cpB_o (by decide)]; exact st_ne (Or.inr (by decide))⟩
def AR (Ps : Nat → Nat → Int) (m : Nat) (Hs : Nat → Fw) (k : Nat) (x : Fw) (y : Option Fw) (ry rn : Int) (M : Mem) (r : Int32) (M1 : Mem) : Prop := (∃ z, y = some z ∧ r = zI ry ∧ MS M1 Ps m z (phH Hs k x) (phK k) ∧ FR M1 M) ∨ (y = none ∧ r = zI rn ∧ M1 = M)
noncomputable def acShrinkR (x : Fw) : Option Fw := acI (0 < x.1) (x.1 - 1, sbit x.2.1 (x.1 - 1) 0, sbit x.2.2.1 (x.1 - 1) 0, (x.2.2.2.1, x.2.2.2.2.1, shL (x.1 - 1) x.2.2.2.2.2))
theorem isR_shJ {M : Mem} {a n q hv ed : Nat} {K L : Nat → Nat} {q2 : Nat} (h : isR M a n q hv ed K (shJ q2 n L)) : isR M a n q hv ed K (shL q2 L) := ⟨h.1, h.2.1, h.2.2.1, h.2.2.2.1, h.2.2.2.2.1, fun k hk => by have h1 := h.2.2.2.2.2 k hk; unfold shJ at h1; rw [if_pos hk] at h1; exact h1⟩
theorem isR.fk {M M1 : Mem} {n q hv ed : Nat} {K L : Nat → Nat} (h : isR M 148 n q hv ed K L) (hF : FK M1 M) : isR M1 148 n q hv ed K L := by
  unfold isR
  rw [hF.1 148 (by decide) (by decide)]
  exact h
theorem wdX12_keeps_12 : decode cX12_keeps 12 = .ok (.iload_n 1, 1) := dq0 kk_27 (by decide +kernel)
theorem wdX12_keeps_13 : decode cX12_keeps 13 = .ok (.sipush 336, 3) := dqT kk_17 (by decide +kernel)
theorem wdX12_keeps_16 : decode cX12_keeps 16 = .ok (.if_icmp .ge 24, 3) := dqT kk_162 (by decide +kernel)
theorem wdX12_keeps_19 : decode cX12_keeps 19 = .ok (.aload_n 0, 1) := dq0 kk_42 (by decide +kernel)
theorem wdX12_keeps_20 : decode cX12_keeps 20 = .ok (.getfield 39, 3) := dqV kk_180 (by decide +kernel)
theorem wtb_279 : Cond.fieldLink "ToneLinesModel" 39 "ToneLinesModel" "before" "[I" ∈ TB := tbm (tc5 (List.mem_of_getElem? (i := 75) rfl)) rfl
theorem wdX12_keeps_23 : decode cX12_keeps 23 = .ok (.iload_n 1, 1) := dq0 kk_27 (by decide +kernel)
theorem wdX12_keeps_24 : decode cX12_keeps 24 = .ok (.bipush 28, 2) := dqS kk_16 (by decide +kernel)
theorem wdX12_keeps_26 : decode cX12_keeps 26 = .ok (.isub, 1) := dq0 kk_100 (by decide +kernel)
theorem wdX12_keeps_27 : decode cX12_keeps 27 = .ok (.aload_n 0, 1) := dq0 kk_42 (by decide +kernel)
theorem wdX12_keeps_28 : decode cX12_keeps 28 = .ok (.getfield 39, 3) := dqV kk_180 (by decide +kernel)
theorem wdX12_keeps_31 : decode cX12_keeps 31 = .ok (.iload_n 1, 1) := dq0 kk_27 (by decide +kernel)
theorem wdX12_keeps_32 : decode cX12_keeps 32 = .ok (.iaload, 1) := dq0 kk_46 (by decide +kernel)
theorem wdX12_keeps_33 : decode cX12_keeps 33 = .ok (.iastore, 1) := dq0 kk_79 (by decide +kernel)
theorem wdX12_keeps_34 : decode cX12_keeps 34 = .ok (.iinc 1 1, 3) := dqI kk_132 (by decide +kernel)
theorem wdX12_keeps_37 : decode cX12_keeps 37 = .ok (.goto (-25), 3) := dqT kk_167 (by decide +kernel)
set_option maxRecDepth 4000 in
theorem lp_X12_keeps1 {p : Program} {l : Launch} {e : Env} {s : State} {m : MethodId} {args : Array Value} {below : List Frame} {meth : Method} {c : Code} {D : va_G} {B : Nat} {cy : Nat → ClassId} {H0 : Heap} {Q : State → Prop} {M : Mem} {R : Room}  (F : CallFix p m c cX12_keeps 2 s args TB RX12) (hR1 : 0 ≤ R.frames) (hR2 : 0 ≤ R.locals)  (kk : ∀ (i : Nat) (H : Heap) (locs : List Loc) (ls : Array Slot), (i = 336) → Wd D B cy s H0 (shM M i) H locs → lv_has ls 2 [(0, .ref (B + 146))] → W p l e R s m args below meth c H locs 0 0 Q (F0 m 40 ls [])) : ∀ (f : Nat) (i : Nat), (28 ≤ i ∧ i ≤ 336) → (336 ≤ i + f) → ∀ (H : Heap) (locs : List Loc) (ls : Array Slot), Wd D B cy s H0 (shM M i) H locs → lv_has ls 2 [(1, .int (zI (i : Int))), (0, .ref (B + 146))] → W p l e R s m args below meth c H locs 0 0 Q (F0 m 12 ls []) := by
  have hx := F.1
  have hb := F.2.1
  intro f
  induction f with
  | zero =>
    intro i i0 hf H locs ls w hl
    refine lv_iload_n hx hb wdX12_keeps_12 rfl (lv_at hl 0 rfl) ?_
    refine lv_sipush (v := zI 336) hx hb wdX12_keeps_13 (by decide) ?_
    refine z_icmp_ge (tgt := 40) hx hb (by omega) (by omega) wdX12_keeps_16 (by decide) (fun c1 => ?_) (fun c1 => False.elim (by omega))
    exact kk i _ _ ls (by omega) w (lv_sub hl [1] rfl)
  | succ f ih =>
    intro i i0 hf H locs ls w hl
    refine lv_iload_n hx hb wdX12_keeps_12 rfl (lv_at hl 0 rfl) ?_
    refine lv_sipush (v := zI 336) hx hb wdX12_keeps_13 (by decide) ?_
    refine z_icmp_ge (tgt := 40) hx hb (by omega) (by omega) wdX12_keeps_16 (by decide) (fun c1 => ?_) (fun c1 => ?_)
    · exact kk i _ _ ls (by omega) w (lv_sub hl [1] rfl)
    · refine lv_aload_n hx hb wdX12_keeps_19 rfl (lv_at hl 1 rfl) ?_
      refine f_12_19 F w (a := 146) rfl wtb_279 wdX12_keeps_20 ?_
      refine lv_iload_n hx hb wdX12_keeps_23 rfl (lv_at hl 0 rfl) ?_
      refine lv_bipush (v := zI 28) hx hb wdX12_keeps_24 (by decide) ?_
      refine z_isub (z := ((i : Int) - 28)) hx hb wdX12_keeps_26 (by omega) ?_
      refine r_val (v := zI ((i - 28 : Nat) : Int)) (congrArg zI (by omega)) ?_
      refine lv_aload_n hx hb wdX12_keeps_27 rfl (lv_at hl 1 rfl) ?_
      refine f_12_19 F w (a := 146) rfl wtb_279 wdX12_keeps_28 ?_
      refine lv_iload_n hx hb wdX12_keeps_31 rfl (lv_at hl 0 rfl) ?_
      refine g_iald F w (a := 155) rfl (j := i) (ix_n (by omega)) (by omega) wdX12_keeps_32 ?_
      refine r_val (v := (M.1 155 i)) (shM_rd) ?_
      refine g_iast F w (a := 155) rfl (j := (i - 28)) (ix_n (by omega)) (by omega) wdX12_keeps_33 (fun H locs w => ?_)
      refine z_iinc (v := (((i + 1) : Nat) : Int)) (lv' := [(1, .int (zI (((i + 1) : Nat) : Int))), (0, .ref (B + 146))]) hx hb wdX12_keeps_34 hl (k := 0) rfl (by omega) (by decide) rfl (fun ls hl => ?_)
      refine lv_goto (tgt := 12) hx hb wdX12_keeps_37 (by decide) ?_
      rw [shM_step (by omega)] at w
      exact ih (i + 1) (by omega) (by omega) _ _ ls w (lv_sub hl [0, 1] rfl)
theorem wdX12_keeps_52 : decode cX12_keeps 52 = .ok (.iload_n 1, 1) := dq0 kk_27 (by decide +kernel)
theorem wdX12_keeps_53 : decode cX12_keeps 53 = .ok (.bipush 28, 2) := dqS kk_16 (by decide +kernel)
theorem wdX12_keeps_55 : decode cX12_keeps 55 = .ok (.if_icmp .ge 29, 3) := dqT kk_162 (by decide +kernel)
theorem wdX12_keeps_58 : decode cX12_keeps 58 = .ok (.aload_n 0, 1) := dq0 kk_42 (by decide +kernel)
theorem wdX12_keeps_59 : decode cX12_keeps 59 = .ok (.getfield 39, 3) := dqV kk_180 (by decide +kernel)
theorem wdX12_keeps_62 : decode cX12_keeps 62 = .ok (.bipush 28, 2) := dqS kk_16 (by decide +kernel)
theorem wdX12_keeps_64 : decode cX12_keeps 64 = .ok (.aload_n 0, 1) := dq0 kk_42 (by decide +kernel)
theorem wdX12_keeps_65 : decode cX12_keeps 65 = .ok (.getfield 201, 3) := dqV kk_180 (by decide +kernel)
theorem wtb_280 : Cond.fieldLink "ToneLinesModel" 201 "ToneLinesModel" "acts" "I" ∈ TB := tbm (tc5 (List.mem_of_getElem? (i := 76) rfl)) rfl
theorem wdX12_keeps_68 : decode cX12_keeps 68 = .ok (.imul, 1) := dq0 kk_104 (by decide +kernel)
theorem wdX12_keeps_69 : decode cX12_keeps 69 = .ok (.iload_n 1, 1) := dq0 kk_27 (by decide +kernel)
theorem wdX12_keeps_70 : decode cX12_keeps 70 = .ok (.iadd, 1) := dq0 kk_96 (by decide +kernel)
theorem wdX12_keeps_71 : decode cX12_keeps 71 = .ok (.aload_n 0, 1) := dq0 kk_42 (by decide +kernel)
theorem wdX12_keeps_72 : decode cX12_keeps 72 = .ok (.getfield 13, 3) := dqV kk_180 (by decide +kernel)
theorem wdX12_keeps_75 : decode cX12_keeps 75 = .ok (.iload_n 1, 1) := dq0 kk_27 (by decide +kernel)
theorem wdX12_keeps_76 : decode cX12_keeps 76 = .ok (.iaload, 1) := dq0 kk_46 (by decide +kernel)
theorem wdX12_keeps_77 : decode cX12_keeps 77 = .ok (.iastore, 1) := dq0 kk_79 (by decide +kernel)
theorem wdX12_keeps_78 : decode cX12_keeps 78 = .ok (.iinc 1 1, 3) := dqI kk_132 (by decide +kernel)
theorem wdX12_keeps_81 : decode cX12_keeps 81 = .ok (.goto (-29), 3) := dqT kk_167 (by decide +kernel)
set_option maxRecDepth 4000 in
theorem lp_X12_keeps2 {p : Program} {l : Launch} {e : Env} {s : State} {m : MethodId} {args : Array Value} {below : List Frame} {meth : Method} {c : Code} {D : va_G} {B : Nat} {cy : Nat → ClassId} {H0 : Heap} {Q : State → Prop} {M : Mem} {R : Room} {N : Mem} {j : Nat} (F : CallFix p m c cX12_keeps 2 s args TB RX12) (hR1 : 0 ≤ R.frames) (hR2 : 0 ≤ R.locals) (hj : j < 12) (hN : N.1 146 20 = zI (j : Int)) (kk : ∀ (i : Nat) (H : Heap) (locs : List Loc) (ls : Array Slot), (i = 28) → Wd D B cy s H0 (cpO N j i) H locs → lv_has ls 2 [(0, .ref (B + 146))] → W p l e R s m args below meth c H locs 0 0 Q (F0 m 84 ls [])) : ∀ (f : Nat) (i : Nat), (i ≤ 28) → (28 ≤ i + f) → ∀ (H : Heap) (locs : List Loc) (ls : Array Slot), Wd D B cy s H0 (cpO N j i) H locs → lv_has ls 2 [(1, .int (zI (i : Int))), (0, .ref (B + 146))] → W p l e R s m args below meth c H locs 0 0 Q (F0 m 52 ls []) := by
  have hx := F.1
  have hb := F.2.1
  intro f
  induction f with
  | zero =>
    intro i i0 hf H locs ls w hl
    refine lv_iload_n hx hb wdX12_keeps_52 rfl (lv_at hl 0 rfl) ?_
    refine lv_bipush (v := zI 28) hx hb wdX12_keeps_53 (by decide) ?_
    refine z_icmp_ge (tgt := 84) hx hb (by omega) (by omega) wdX12_keeps_55 (by decide) (fun c1 => ?_) (fun c1 => False.elim (by omega))
    exact kk i _ _ ls (by omega) w (lv_sub hl [1] rfl)
  | succ f ih =>
    intro i i0 hf H locs ls w hl
    refine lv_iload_n hx hb wdX12_keeps_52 rfl (lv_at hl 0 rfl) ?_
    refine lv_bipush (v := zI 28) hx hb wdX12_keeps_53 (by decide) ?_
    refine z_icmp_ge (tgt := 84) hx hb (by omega) (by omega) wdX12_keeps_55 (by decide) (fun c1 => ?_) (fun c1 => ?_)
    · exact kk i _ _ ls (by omega) w (lv_sub hl [1] rfl)
    · refine lv_aload_n hx hb wdX12_keeps_58 rfl (lv_at hl 1 rfl) ?_
      refine f_12_19 F w (a := 146) rfl wtb_279 wdX12_keeps_59 ?_
      refine lv_bipush (v := zI 28) hx hb wdX12_keeps_62 (by decide) ?_
      refine lv_aload_n hx hb wdX12_keeps_64 rfl (lv_at hl 1 rfl) ?_
      refine f_12_20 F w (a := 146) rfl wtb_280 wdX12_keeps_65 ?_
      refine r_val (v := (zI (j : Int))) (((congrFun (cpO_o (by decide)) 20).trans hN)) ?_
      refine z_imul (z := (((28 * j) : Nat) : Int)) hx hb wdX12_keeps_68 (by omega) ?_
      refine lv_iload_n hx hb wdX12_keeps_69 rfl (lv_at hl 0 rfl) ?_
      refine z_iadd (z := ((((28 * j) + i) : Nat) : Int)) hx hb wdX12_keeps_70 (by omega) ?_
      refine lv_aload_n hx hb wdX12_keeps_71 rfl (lv_at hl 1 rfl) ?_
      refine f_12_1 F w (a := 146) rfl wtb_179 wdX12_keeps_72 ?_
      refine lv_iload_n hx hb wdX12_keeps_75 rfl (lv_at hl 0 rfl) ?_
      refine g_iald F w (a := 147) rfl (j := i) (ix_n (by omega)) (by omega) wdX12_keeps_76 ?_
      refine r_val (v := (N.1 147 i)) ((congrFun (cpO_o (by decide)) _)) ?_
      refine g_iast F w (a := 155) rfl (j := ((28 * j) + i)) (ix_n (by omega)) (by omega) wdX12_keeps_77 (fun H locs w => ?_)
      refine z_iinc (v := (((i + 1) : Nat) : Int)) (lv' := [(1, .int (zI (((i + 1) : Nat) : Int))), (0, .ref (B + 146))]) hx hb wdX12_keeps_78 hl (k := 0) rfl (by omega) (by decide) rfl (fun ls hl => ?_)
      refine lv_goto (tgt := 52) hx hb wdX12_keeps_81 (by decide) ?_
      rw [cpO_step] at w
      exact ih (i + 1) (by omega) (by omega) _ _ ls w (lv_sub hl [0, 1] rfl)
theorem wdX12_keeps_0 : decode cX12_keeps 0 = .ok (.aload_n 0, 1) := dq0 kk_42 (by decide +kernel)
theorem wdX12_keeps_1 : decode cX12_keeps 1 = .ok (.getfield 201, 3) := dqV kk_180 (by decide +kernel)
theorem wdX12_keeps_4 : decode cX12_keeps 4 = .ok (.bipush 12, 2) := dqS kk_16 (by decide +kernel)
theorem wdX12_keeps_6 : decode cX12_keeps 6 = .ok (.if_icmp .ne 44, 3) := dqT kk_160 (by decide +kernel)
theorem wdX12_keeps_50 : decode cX12_keeps 50 = .ok (.iconst 0, 1) := dq0 kk_3 (by decide +kernel)
theorem wdX12_keeps_51 : decode cX12_keeps 51 = .ok (.istore_n 1, 1) := dq0 kk_60 (by decide +kernel)
theorem wdX12_keeps_84 : decode cX12_keeps 84 = .ok (.aload_n 0, 1) := dq0 kk_42 (by decide +kernel)
theorem wdX12_keeps_85 : decode cX12_keeps 85 = .ok (.dup, 1) := dq0 kk_89 (by decide +kernel)
theorem wdX12_keeps_86 : decode cX12_keeps 86 = .ok (.getfield 201, 3) := dqV kk_180 (by decide +kernel)
theorem wdX12_keeps_89 : decode cX12_keeps 89 = .ok (.iconst 1, 1) := dq0 kk_4 (by decide +kernel)
theorem wdX12_keeps_90 : decode cX12_keeps 90 = .ok (.iadd, 1) := dq0 kk_96 (by decide +kernel)
theorem wdX12_keeps_91 : decode cX12_keeps 91 = .ok (.putfield 201, 3) := dqV kk_181 (by decide +kernel)
theorem wdX12_keeps_94 : decode cX12_keeps 94 = .ok (.return_, 1) := dq0 kk_177 (by decide +kernel)
theorem wdX12_keeps_9 : decode cX12_keeps 9 = .ok (.bipush 28, 2) := dqS kk_16 (by decide +kernel)
theorem wdX12_keeps_11 : decode cX12_keeps 11 = .ok (.istore_n 1, 1) := dq0 kk_60 (by decide +kernel)
theorem wdX12_keeps_40 : decode cX12_keeps 40 = .ok (.aload_n 0, 1) := dq0 kk_42 (by decide +kernel)
theorem wdX12_keeps_41 : decode cX12_keeps 41 = .ok (.dup, 1) := dq0 kk_89 (by decide +kernel)
theorem wdX12_keeps_42 : decode cX12_keeps 42 = .ok (.getfield 201, 3) := dqV kk_180 (by decide +kernel)
theorem wdX12_keeps_45 : decode cX12_keeps 45 = .ok (.iconst 1, 1) := dq0 kk_4 (by decide +kernel)
theorem wdX12_keeps_46 : decode cX12_keeps 46 = .ok (.isub, 1) := dq0 kk_100 (by decide +kernel)
theorem wdX12_keeps_47 : decode cX12_keeps 47 = .ok (.putfield 201, 3) := dqV kk_181 (by decide +kernel)
set_option maxRecDepth 4000 in
theorem m_keeps {l : Launch} {D : va_G} {B : Nat} {cy : Nat → ClassId} {M : Mem} {Ps : Nat → Nat → Int} {mr k q hv ed : Nat} {o : Wo} {Hs : Nat → Fw} (hS : MS M Ps mr (q, hv, ed, o) Hs k) : Cv l D B cy yX12_keeps cX12_keeps 2 0 0 [.ref (B + 146)] M (fun M1 => MS M1 Ps mr (q, hv, ed, o) (phH Hs k (q, hv, ed, o)) (phK k) ∧ FK M1 M) := by
  refine s_any (by decide) (Nat.le_of_ble_eq_true rfl) ?_
  intro p e s m below meth c ls F hr hlocks w hl
  have F : CallFix p m c cX12_keeps 2 s _ TB RX12 := F
  have hx := F.1
  have hb := F.2.1
  have hl : lv_has ls 2 [(0, .ref (B + 146))] := hl
  have hm8 := hS.1.1
  have hk12 := hS.2.2.2.2.1
  have hC : TW M q hv ed o := hS.T
  have hW : isR M 147 o.1 q hv ed o.2.1 o.2.2 := hC.1
  have hwf := hC.wf
  have hKL := hwf.2.2.2.2
  have hn12 := hwf.1
  have hq12 := hwf.2.1
  have hhv := hwf.2.2.1
  have hed := hwf.2.2.2.1
  refine lv_aload_n hx hb wdX12_keeps_0 rfl (lv_at hl 0 rfl) ?_
  refine f_12_20 F w (a := 146) rfl wtb_280 wdX12_keeps_1 ?_
  refine r_val (v := (zI (k : Int))) (hS.2.2.2.1) ?_
  refine lv_bipush (v := zI 12) hx hb wdX12_keeps_4 (by decide) ?_
  refine z_icmp_ne (tgt := 50) hx hb (by omega) (by omega) wdX12_keeps_6 (by decide) (fun c1 => ?_) (fun c1 => ?_)
  · refine lv_iconst (v := zI 0) hx hb wdX12_keeps_50 rfl ?_
    refine lv_istore_n (lv' := [(1, .int (zI 0)), (0, .ref (B + 146))]) hx hb wdX12_keeps_51 rfl hl (by decide) rfl (fun ls hl => ?_)
    rw [← cpO_0 M k] at w
    refine lp_X12_keeps2 (M := M) (N := M) (j := k)  F (Nat.le_of_ble_eq_true rfl) (Nat.le_of_ble_eq_true rfl) (by omega) hS.2.2.2.1 (fun i H locs ls x0 w hl => ?_) 28 0 (by omega) (by omega) _ _ ls w (lv_sub hl [0, 1] rfl)
    subst x0
    refine lv_aload_n hx hb wdX12_keeps_84 rfl (lv_at hl 0 rfl) ?_
    refine lv_dup hx hb wdX12_keeps_85 rfl ?_
    refine f_12_20 F w (a := 146) rfl wtb_280 wdX12_keeps_86 ?_
    refine r_val (v := (zI (k : Int))) (((congrFun (cpO_o (by decide)) 20).trans (show (M).1 146 20 = zI ((k : Nat) : Int) from hS.2.2.2.1))) ?_
    refine lv_iconst (v := zI 1) hx hb wdX12_keeps_89 rfl ?_
    refine z_iadd (z := (((k + 1) : Nat) : Int)) hx hb wdX12_keeps_90 (by omega) ?_
    refine u_12_20 F w (a := 146) rfl wtb_280 wdX12_keeps_91 (fun H locs w => ?_)
    exact e_v F w hr hlocks (hS.keep1 (by omega)) wdX12_keeps_94
  · refine lv_bipush (v := zI 28) hx hb wdX12_keeps_9 (by decide) ?_
    refine lv_istore_n (lv' := [(1, .int (zI 28)), (0, .ref (B + 146))]) hx hb wdX12_keeps_11 rfl hl (by decide) rfl (fun ls hl => ?_)
    rw [← shM_0 M] at w
    refine lp_X12_keeps1  F (Nat.le_of_ble_eq_true rfl) (Nat.le_of_ble_eq_true rfl)  (fun i H locs ls x0 w hl => ?_) 336 28 (by omega) (by omega) _ _ ls w (lv_sub hl [0, 1] rfl)
    subst x0
    refine lv_aload_n hx hb wdX12_keeps_40 rfl (lv_at hl 0 rfl) ?_
    refine lv_dup hx hb wdX12_keeps_41 rfl ?_
    refine f_12_20 F w (a := 146) rfl wtb_280 wdX12_keeps_42 ?_
    refine r_val (v := (zI (k : Int))) (((congrFun (shM_o (by decide)) 20).trans hS.2.2.2.1)) ?_
    refine lv_iconst (v := zI 1) hx hb wdX12_keeps_45 rfl ?_
    refine z_isub (z := ((k : Int) - 1)) hx hb wdX12_keeps_46 (by omega) ?_
    refine r_val (v := zI 11) (congrArg zI (by omega)) ?_
    refine u_12_20 F w (a := 146) rfl wtb_280 wdX12_keeps_47 (fun H locs w => ?_)
    refine lv_iconst (v := zI 0) hx hb wdX12_keeps_50 rfl ?_
    refine lv_istore_n (lv' := [(1, .int (zI 0)), (0, .ref (B + 146))]) hx hb wdX12_keeps_51 rfl hl (by decide) rfl (fun ls hl => ?_)
    rw [← cpO_0 (st (shM M 336) 146 20 (zI 11)) 11] at w
    refine lp_X12_keeps2 (M := M) (N := (st (shM M 336) 146 20 (zI 11))) (j := 11)  F (Nat.le_of_ble_eq_true rfl) (Nat.le_of_ble_eq_true rfl) (by omega) st_at (fun i H locs ls x0 w hl => ?_) 28 0 (by omega) (by omega) _ _ ls w (lv_sub hl [0, 1] rfl)
    subst x0
    refine lv_aload_n hx hb wdX12_keeps_84 rfl (lv_at hl 0 rfl) ?_
    refine lv_dup hx hb wdX12_keeps_85 rfl ?_
    refine f_12_20 F w (a := 146) rfl wtb_280 wdX12_keeps_86 ?_
    refine r_val (v := (zI 11)) (((congrFun (cpO_o (by decide)) 20).trans (show ((st (shM M 336) 146 20 (zI 11))).1 146 20 = zI ((11 : Nat) : Int) from st_at))) ?_
    refine lv_iconst (v := zI 1) hx hb wdX12_keeps_89 rfl ?_
    refine z_iadd (z := 12) hx hb wdX12_keeps_90 (by decide) ?_
    refine u_12_20 F w (a := 146) rfl wtb_280 wdX12_keeps_91 (fun H locs w => ?_)
    exact e_v F w hr hlocks (hS.keep2 (by omega)) wdX12_keeps_94
theorem wdX12_line_0 : decode cX12_line 0 = .ok (.aload_n 0, 1) := dq0 kk_42 (by decide +kernel)
theorem wdX12_line_1 : decode cX12_line 1 = .ok (.getfield 13, 3) := dqV kk_180 (by decide +kernel)
theorem wdX12_line_4 : decode cX12_line 4 = .ok (.iload_n 1, 1) := dq0 kk_27 (by decide +kernel)
theorem wdX12_line_5 : decode cX12_line 5 = .ok (.invokestatic 105, 3) := dqV kk_184 (by decide +kernel)
theorem wdX12_line_8 : decode cX12_line 8 = .ok (.ifCond .eq 26, 3) := dqT kk_153 (by decide +kernel)
theorem wdX12_line_11 : decode cX12_line 11 = .ok (.aload_n 0, 1) := dq0 kk_42 (by decide +kernel)
theorem wdX12_line_12 : decode cX12_line 12 = .ok (.getfield 13, 3) := dqV kk_180 (by decide +kernel)
theorem wdX12_line_15 : decode cX12_line 15 = .ok (.iload_n 2, 1) := dq0 kk_28 (by decide +kernel)
theorem wdX12_line_16 : decode cX12_line 16 = .ok (.invokestatic 94, 3) := dqV kk_184 (by decide +kernel)
theorem wtk_X12_isSyllable : Cond.code yX12_isSyllable cX12_isSyllable 2 (some .boolean) ∈ TB := tk_X12_isSyllable
theorem wgc_X12_isSyllable : GoodIn TB (cw yX12_isSyllable cX12_isSyllable 2 (some .boolean)) := goodIn_c2 wtk_X12_isSyllable
theorem wtb_281 : Cond.methodLink "ToneLinesModel" 94 yX12_isSyllable ∈ TB := tb_80
theorem wtb_282 : Cond.static yX12_isSyllable ∈ TB := tb_81
theorem wgs_X12_94 : GoodIn TB (va_wsS RX12 94 yX12_isSyllable (cw yX12_isSyllable cX12_isSyllable 2 (some .boolean))) := goodIn_3 wtb_281 wtb_282 wtb_105 wgc_X12_isSyllable
theorem whs_X12_isSyllable : yX12_isSyllable.cls ≠ "java/lang/invoke/MethodHandle" ∧ yX12_isSyllable.cls ≠ "java/lang/invoke/VarHandle" ∧ (parseMethodDescriptor yX12_isSyllable.desc).map (fun d => d.parameters.length) = some 2 := hs_X12_isSyllable
theorem wdX12_line_19 : decode cX12_line 19 = .ok (.ifCond .eq 15, 3) := dqT kk_153 (by decide +kernel)
theorem wdX12_line_22 : decode cX12_line 22 = .ok (.aload_n 0, 1) := dq0 kk_42 (by decide +kernel)
theorem wdX12_line_23 : decode cX12_line 23 = .ok (.getfield 13, 3) := dqV kk_180 (by decide +kernel)
theorem wdX12_line_26 : decode cX12_line 26 = .ok (.iload_n 1, 1) := dq0 kk_27 (by decide +kernel)
theorem wdX12_line_27 : decode cX12_line 27 = .ok (.iload_n 2, 1) := dq0 kk_28 (by decide +kernel)
theorem wdX12_line_28 : decode cX12_line 28 = .ok (.invokestatic 86, 3) := dqV kk_184 (by decide +kernel)
theorem wdX12_line_31 : decode cX12_line 31 = .ok (.ifCond .ne 5, 3) := dqT kk_154 (by decide +kernel)
theorem wdX12_line_36 : decode cX12_line 36 = .ok (.aload_n 0, 1) := dq0 kk_42 (by decide +kernel)
theorem wdX12_line_37 : decode cX12_line 37 = .ok (.invokevirtual 242, 3) := dqV kk_182 (by decide +kernel)
theorem wtk_X12_keeps : Cond.code yX12_keeps cX12_keeps 2 none ∈ TB := tbm (tc6 (List.mem_of_getElem? (i := 9) rfl)) rfl
theorem wgc_X12_keeps : GoodIn TB (cw yX12_keeps cX12_keeps 2 none) := goodIn_c2 wtk_X12_keeps
theorem wtb_283 : Cond.methodLink "ToneLinesModel" 242 yX12_keeps ∈ TB := tbm (tc6 (List.mem_of_getElem? (i := 6) rfl)) rfl
theorem wtb_284 : Cond.instanceMethod yX12_keeps ∈ TB := tbm (tc6 (List.mem_of_getElem? (i := 8) rfl)) rfl
theorem wtb_285 : Cond.selects "ToneLinesModel" yX12_keeps yX12_keeps ∈ TB := tbp (List.mem_of_getElem? (i := 50) rfl) rfl
theorem wgv_X12_242 : GoodIn TB (wsV RX12 242 RX12 yX12_keeps (cw yX12_keeps cX12_keeps 2 none)) := goodIn_4 wtb_283 wtb_284 wtb_285 wtb_105 wgc_X12_keeps
theorem whv_X12_keeps : yX12_keeps.cls = RX12 ∧ yX12_keeps.cls ≠ "java/lang/invoke/MethodHandle" ∧ yX12_keeps.cls ≠ "java/lang/invoke/VarHandle" ∧ (parseMethodDescriptor yX12_keeps.desc).map (fun d => d.parameters.length) = some 0 := by decide +kernel
theorem wdX12_line_40 : decode cX12_line 40 = .ok (.aload_n 0, 1) := dq0 kk_42 (by decide +kernel)
theorem wdX12_line_41 : decode cX12_line 41 = .ok (.getfield 13, 3) := dqV kk_180 (by decide +kernel)
theorem wdX12_line_44 : decode cX12_line 44 = .ok (.bipush 13, 2) := dqS kk_16 (by decide +kernel)
theorem wdX12_line_46 : decode cX12_line 46 = .ok (.iload_n 1, 1) := dq0 kk_27 (by decide +kernel)
theorem wdX12_line_47 : decode cX12_line 47 = .ok (.iadd, 1) := dq0 kk_96 (by decide +kernel)
theorem wdX12_line_48 : decode cX12_line 48 = .ok (.dup2, 1) := dq0 kk_92 (by decide +kernel)
theorem wdX12_line_49 : decode cX12_line 49 = .ok (.iaload, 1) := dq0 kk_46 (by decide +kernel)
theorem wdX12_line_50 : decode cX12_line 50 = .ok (.iconst 1, 1) := dq0 kk_4 (by decide +kernel)
theorem wdX12_line_51 : decode cX12_line 51 = .ok (.iload_n 2, 1) := dq0 kk_28 (by decide +kernel)
theorem wdX12_line_52 : decode cX12_line 52 = .ok (.ishl, 1) := dq0 kk_120 (by decide +kernel)
theorem wdX12_line_53 : decode cX12_line 53 = .ok (.ior, 1) := dq0 kk_128 (by decide +kernel)
theorem wdX12_line_54 : decode cX12_line 54 = .ok (.iastore, 1) := dq0 kk_79 (by decide +kernel)
theorem wdX12_line_55 : decode cX12_line 55 = .ok (.iconst 1, 1) := dq0 kk_4 (by decide +kernel)
theorem wdX12_line_56 : decode cX12_line 56 = .ok (.ireturn, 1) := dq0 kk_172 (by decide +kernel)
theorem wdX12_line_34 : decode cX12_line 34 = .ok (.iconst 0, 1) := dq0 kk_3 (by decide +kernel)
theorem wdX12_line_35 : decode cX12_line 35 = .ok (.ireturn, 1) := dq0 kk_172 (by decide +kernel)
set_option maxRecDepth 4000 in
theorem m_line {l : Launch} {D : va_G} {B : Nat} {cy : Nat → ClassId} {M : Mem} {Ps : Nat → Nat → Int} {mr k q hv ed : Nat} {o : Wo} {Hs : Nat → Fw} (hS : MS M Ps mr (q, hv, ed, o) Hs k) {t9 u9 : Int} (ht9 : rg t9) (hu9 : rg u9) : Ci l D B cy yX12_line cX12_line 3 (some .boolean) 3 66 [.ref (B + 146), .int (zI t9), .int (zI u9)] M (fun r M1 => AR Ps mr Hs k (q, hv, ed, o) (acLine t9 u9 (q, hv, ed, o)) 1 0 M r M1) := by
  refine s_any (by decide) (Nat.le_of_ble_eq_true rfl) ?_
  intro p e s m below meth c ls F hr hlocks w hl
  have F : CallFix p m c cX12_line 3 s _ TB RX12 := F
  have hx := F.1
  have hb := F.2.1
  have hl : lv_has ls 3 [(0, .ref (B + 146)), (1, .int (zI t9)), (2, .int (zI u9))] := hl
  have hm8 := hS.1.1
  have hk12 := hS.2.2.2.2.1
  have hC : TW M q hv ed o := hS.T
  have hW : isR M 147 o.1 q hv ed o.2.1 o.2.2 := hC.1
  have hwf := hC.wf
  have hKL := hwf.2.2.2.2
  have hn12 := hwf.1
  have hq12 := hwf.2.1
  have hhv := hwf.2.2.1
  have hed := hwf.2.2.2.1
  refine lv_aload_n hx hb wdX12_line_0 rfl (lv_at hl 0 rfl) ?_
  refine f_12_1 F w (a := 146) rfl wtb_179 wdX12_line_1 ?_
  refine lv_iload_n hx hb wdX12_line_4 rfl (lv_at hl 1 rfl) ?_
  refine k_Si F w (As := [.ref (B + 147), .int (zI t9)]) (rest := []) (s_X12_isTone (a := 147) rfl hW hwf (by omega)) wgs_X12_105 whs_X12_isTone ⟨(Nat.le_of_ble_eq_true rfl), (Nat.le_of_ble_eq_true rfl)⟩ hl.1 rfl (Nat.le_of_ble_eq_true rfl) ⟨Nat.zero_le _, Nat.zero_le _⟩ wdX12_line_5 (fun r Ma1 H locs hp w => ?_)
  rcases hp with ⟨⟨k9, rfl, hk9, rfl⟩ | ⟨nk9, rfl⟩, hMe⟩
  · rw [hMe] at w
    refine z_if_eq (tgt := 34) hx hb (by omega) wdX12_line_8 (by decide) (fun c2 => False.elim (by omega)) (fun c2 => ?_)
    refine lv_aload_n hx hb wdX12_line_11 rfl (lv_at hl 0 rfl) ?_
    refine f_12_1 F w (a := 146) rfl wtb_179 wdX12_line_12 ?_
    refine lv_iload_n hx hb wdX12_line_15 rfl (lv_at hl 2 rfl) ?_
    refine k_Si F w (As := [.ref (B + 147), .int (zI u9)]) (rest := []) (s_X12_isSyllable (a := 147) rfl hW hwf (by omega)) wgs_X12_94 whs_X12_isSyllable ⟨(Nat.le_of_ble_eq_true rfl), (Nat.le_of_ble_eq_true rfl)⟩ hl.1 rfl (Nat.le_of_ble_eq_true rfl) ⟨Nat.zero_le _, Nat.zero_le _⟩ wdX12_line_16 (fun r Ma3 H locs hp w => ?_)
    rcases hp with ⟨⟨j9, rfl, hj9, rfl⟩ | ⟨nj9, rfl⟩, hMe⟩
    · rw [hMe] at w
      refine z_if_eq (tgt := 34) hx hb (by omega) wdX12_line_19 (by decide) (fun c4 => False.elim (by omega)) (fun c4 => ?_)
      refine lv_aload_n hx hb wdX12_line_22 rfl (lv_at hl 0 rfl) ?_
      refine f_12_1 F w (a := 146) rfl wtb_179 wdX12_line_23 ?_
      refine lv_iload_n hx hb wdX12_line_26 rfl (lv_at hl 1 rfl) ?_
      refine lv_iload_n hx hb wdX12_line_27 rfl (lv_at hl 2 rfl) ?_
      refine k_Si F w (As := [.ref (B + 147), .int (zI (k9 : Int)), .int (zI (j9 : Int))]) (rest := []) (s_X12_isOpen (a := 147) rfl hW hwf (t := k9) (j := j9) (by omega) (by omega)) wgs_X12_86 whs_X12_isOpen ⟨(Nat.le_of_ble_eq_true rfl), (Nat.le_of_ble_eq_true rfl)⟩ hl.1 rfl (Nat.le_of_ble_eq_true rfl) ⟨Nat.zero_le _, Nat.zero_le _⟩ wdX12_line_28 (fun r Ma6 H locs hp w => ?_)
      rcases hp with ⟨⟨hb5, rfl⟩ | ⟨hb5, rfl⟩, hMe⟩
      · rw [hMe] at w
        refine z_if_ne (tgt := 36) hx hb (by omega) wdX12_line_31 (by decide) (fun c7 => ?_) (fun c7 => False.elim (by omega))
        refine lv_aload_n hx hb wdX12_line_36 rfl (lv_at hl 0 rfl) ?_
        refine k_Vv F w (As := []) (rest := []) (a := 146) (kd_lt (a := 146) (show kd 146 = (12, 0, 0) from rfl) (by decide)) (sh_12 rfl _ _) rfl (m_keeps hS) wgv_X12_242 whv_X12_keeps ⟨(Nat.le_of_ble_eq_true rfl), (Nat.le_of_ble_eq_true rfl)⟩ hl.1 rfl (Nat.le_of_ble_eq_true rfl) ⟨Nat.zero_le _, Nat.zero_le _⟩ wdX12_line_37 (fun Ma8 H locs hp w => ?_)
        rcases hp with ⟨hS1, hB1⟩
        have hC1 : TW Ma8 q hv ed o := hS1.T
        have hW1 : isR Ma8 147 o.1 q hv ed o.2.1 o.2.2 := hC1.1
        refine lv_aload_n hx hb wdX12_line_40 rfl (lv_at hl 0 rfl) ?_
        refine f_12_1 F w (a := 146) rfl wtb_179 wdX12_line_41 ?_
        refine lv_bipush (v := zI 13) hx hb wdX12_line_44 (by decide) ?_
        refine lv_iload_n hx hb wdX12_line_46 rfl (lv_at hl 1 rfl) ?_
        refine z_iadd (z := (((13 + k9) : Nat) : Int)) hx hb wdX12_line_47 (by omega) ?_
        refine lv_dup2_11 hx hb wdX12_line_48 rfl rfl ?_
        refine g_iald F w (a := 147) rfl (j := (13 + k9)) (ix_n (by omega)) (by omega) wdX12_line_49 ?_
        have hL8 := (hKL k9 (by omega)).2
        refine r_val (v := (zI (((o.2.2 k9) : Nat) : Int))) (hW1.2.2.2.2.2 k9 (by omega)) ?_
        refine lv_iconst (v := zI 1) hx hb wdX12_line_50 rfl ?_
        refine lv_iload_n hx hb wdX12_line_51 rfl (lv_at hl 2 rfl) ?_
        refine lv_ishl hx hb wdX12_line_52 ?_
        refine r_val (v := (zI (((2 ^ j9) : Nat) : Int))) (zb_shl (n := j9) (by omega)) ?_
        have q9 := p2_b (n := j9) (by omega)
        refine lv_ior hx hb wdX12_line_53 ?_
        refine r_val (v := (zI ((((o.2.2 k9) ||| (2 ^ j9)) : Nat) : Int))) (zb_or (o.2.2 k9) (2 ^ j9)) ?_
        have q10 := or_lt12 (a := (o.2.2 k9)) (b := (2 ^ j9)) (by omega) (by omega)
        refine g_iast F w (a := 147) rfl (j := (13 + k9)) (ix_n (by omega)) (by omega) wdX12_line_54 (fun H locs w => ?_)
        refine lv_iconst (v := zI 1) hx hb wdX12_line_55 rfl ?_
        exact e_z F w hr hlocks (nar_z (by omega)) (Or.inl ⟨_, acI_y ⟨k9, j9, rfl, rfl, hk9, hj9, hb5⟩, rfl, hS1.told Fr1.s (rlW hW1 hn12 hk9) ⟨okW_line hC1.2.1 (or_ltq (hC.2.1.2.2 k9 hk9).2 hj9), hC1.2.2⟩, FR.of hB1 Fr1.s⟩) wdX12_line_56
      · rw [hMe] at w
        refine z_if_ne (tgt := 36) hx hb (by omega) wdX12_line_31 (by decide) (fun c11 => False.elim (by omega)) (fun c11 => ?_)
        refine lv_iconst (v := zI 0) hx hb wdX12_line_34 rfl ?_
        exact e_z F w hr hlocks (nar_z (by omega)) (Or.inr ⟨acI_n (by rintro ⟨i, j, e1, e2, h1, h2, h3⟩; have e8 : k9 = i := (by omega); have e9 : j9 = j := (by omega); subst e8; subst e9; exact hb5 h3), rfl, rfl⟩) wdX12_line_35
    · rw [hMe] at w
      refine z_if_eq (tgt := 34) hx hb (by omega) wdX12_line_19 (by decide) (fun c12 => ?_) (fun c12 => False.elim (by omega))
      refine lv_iconst (v := zI 0) hx hb wdX12_line_34 rfl ?_
      exact e_z F w hr hlocks (nar_z (by omega)) (Or.inr ⟨acI_n (by rintro ⟨i, j, e1, e2, h1, h2, h3⟩; exact nj9 (by have h4 : j < q := h2; omega)), rfl, rfl⟩) wdX12_line_35
  · rw [hMe] at w
    refine z_if_eq (tgt := 34) hx hb (by omega) wdX12_line_8 (by decide) (fun c13 => ?_) (fun c13 => False.elim (by omega))
    refine lv_iconst (v := zI 0) hx hb wdX12_line_34 rfl ?_
    exact e_z F w hr hlocks (nar_z (by omega)) (Or.inr ⟨acI_n (by rintro ⟨i, j, e1, e2, h1, h2, h3⟩; exact nk9 (by have h4 : i < o.1 := h1; omega)), rfl, rfl⟩) wdX12_line_35
theorem wdX12_cut_0 : decode cX12_cut 0 = .ok (.aload_n 0, 1) := dq0 kk_42 (by decide +kernel)
theorem wdX12_cut_1 : decode cX12_cut 1 = .ok (.getfield 13, 3) := dqV kk_180 (by decide +kernel)
theorem wdX12_cut_4 : decode cX12_cut 4 = .ok (.iload_n 1, 1) := dq0 kk_27 (by decide +kernel)
theorem wdX12_cut_5 : decode cX12_cut 5 = .ok (.invokestatic 105, 3) := dqV kk_184 (by decide +kernel)
theorem wdX12_cut_8 : decode cX12_cut 8 = .ok (.ifCond .eq 30, 3) := dqT kk_153 (by decide +kernel)
theorem wdX12_cut_11 : decode cX12_cut 11 = .ok (.aload_n 0, 1) := dq0 kk_42 (by decide +kernel)
theorem wdX12_cut_12 : decode cX12_cut 12 = .ok (.getfield 13, 3) := dqV kk_180 (by decide +kernel)
theorem wdX12_cut_15 : decode cX12_cut 15 = .ok (.iload_n 2, 1) := dq0 kk_28 (by decide +kernel)
theorem wdX12_cut_16 : decode cX12_cut 16 = .ok (.invokestatic 94, 3) := dqV kk_184 (by decide +kernel)
theorem wdX12_cut_19 : decode cX12_cut 19 = .ok (.ifCond .eq 19, 3) := dqT kk_153 (by decide +kernel)
theorem wdX12_cut_22 : decode cX12_cut 22 = .ok (.aload_n 0, 1) := dq0 kk_42 (by decide +kernel)
theorem wdX12_cut_23 : decode cX12_cut 23 = .ok (.getfield 13, 3) := dqV kk_180 (by decide +kernel)
theorem wdX12_cut_26 : decode cX12_cut 26 = .ok (.bipush 13, 2) := dqS kk_16 (by decide +kernel)
theorem wdX12_cut_28 : decode cX12_cut 28 = .ok (.iload_n 1, 1) := dq0 kk_27 (by decide +kernel)
theorem wdX12_cut_29 : decode cX12_cut 29 = .ok (.iadd, 1) := dq0 kk_96 (by decide +kernel)
theorem wdX12_cut_30 : decode cX12_cut 30 = .ok (.iaload, 1) := dq0 kk_46 (by decide +kernel)
theorem wdX12_cut_31 : decode cX12_cut 31 = .ok (.iload_n 2, 1) := dq0 kk_28 (by decide +kernel)
theorem wdX12_cut_32 : decode cX12_cut 32 = .ok (.invokestatic 51, 3) := dqV kk_184 (by decide +kernel)
theorem wdX12_cut_35 : decode cX12_cut 35 = .ok (.ifCond .ne 5, 3) := dqT kk_154 (by decide +kernel)
theorem wdX12_cut_40 : decode cX12_cut 40 = .ok (.aload_n 0, 1) := dq0 kk_42 (by decide +kernel)
theorem wdX12_cut_41 : decode cX12_cut 41 = .ok (.invokevirtual 242, 3) := dqV kk_182 (by decide +kernel)
theorem wdX12_cut_44 : decode cX12_cut 44 = .ok (.aload_n 0, 1) := dq0 kk_42 (by decide +kernel)
theorem wdX12_cut_45 : decode cX12_cut 45 = .ok (.getfield 13, 3) := dqV kk_180 (by decide +kernel)
theorem wdX12_cut_48 : decode cX12_cut 48 = .ok (.bipush 13, 2) := dqS kk_16 (by decide +kernel)
theorem wdX12_cut_50 : decode cX12_cut 50 = .ok (.iload_n 1, 1) := dq0 kk_27 (by decide +kernel)
theorem wdX12_cut_51 : decode cX12_cut 51 = .ok (.iadd, 1) := dq0 kk_96 (by decide +kernel)
theorem wdX12_cut_52 : decode cX12_cut 52 = .ok (.dup2, 1) := dq0 kk_92 (by decide +kernel)
theorem wdX12_cut_53 : decode cX12_cut 53 = .ok (.iaload, 1) := dq0 kk_46 (by decide +kernel)
theorem wdX12_cut_54 : decode cX12_cut 54 = .ok (.iconst 1, 1) := dq0 kk_4 (by decide +kernel)
theorem wdX12_cut_55 : decode cX12_cut 55 = .ok (.iload_n 2, 1) := dq0 kk_28 (by decide +kernel)
theorem wdX12_cut_56 : decode cX12_cut 56 = .ok (.ishl, 1) := dq0 kk_120 (by decide +kernel)
theorem wdX12_cut_57 : decode cX12_cut 57 = .ok (.iconst (-1), 1) := dq0 kk_2 (by decide +kernel)
theorem wdX12_cut_58 : decode cX12_cut 58 = .ok (.ixor, 1) := dq0 kk_130 (by decide +kernel)
theorem wdX12_cut_59 : decode cX12_cut 59 = .ok (.iand, 1) := dq0 kk_126 (by decide +kernel)
theorem wdX12_cut_60 : decode cX12_cut 60 = .ok (.iastore, 1) := dq0 kk_79 (by decide +kernel)
theorem wdX12_cut_61 : decode cX12_cut 61 = .ok (.iconst 1, 1) := dq0 kk_4 (by decide +kernel)
theorem wdX12_cut_62 : decode cX12_cut 62 = .ok (.ireturn, 1) := dq0 kk_172 (by decide +kernel)
theorem wdX12_cut_38 : decode cX12_cut 38 = .ok (.iconst 0, 1) := dq0 kk_3 (by decide +kernel)
theorem wdX12_cut_39 : decode cX12_cut 39 = .ok (.ireturn, 1) := dq0 kk_172 (by decide +kernel)
set_option maxRecDepth 4000 in
theorem m_cut {l : Launch} {D : va_G} {B : Nat} {cy : Nat → ClassId} {M : Mem} {Ps : Nat → Nat → Int} {mr k q hv ed : Nat} {o : Wo} {Hs : Nat → Fw} (hS : MS M Ps mr (q, hv, ed, o) Hs k) {t9 u9 : Int} (ht9 : rg t9) (hu9 : rg u9) : Ci l D B cy yX12_cut cX12_cut 3 (some .boolean) 2 43 [.ref (B + 146), .int (zI t9), .int (zI u9)] M (fun r M1 => AR Ps mr Hs k (q, hv, ed, o) (acCut t9 u9 (q, hv, ed, o)) 1 0 M r M1) := by
  refine s_any (by decide) (Nat.le_of_ble_eq_true rfl) ?_
  intro p e s m below meth c ls F hr hlocks w hl
  have F : CallFix p m c cX12_cut 3 s _ TB RX12 := F
  have hx := F.1
  have hb := F.2.1
  have hl : lv_has ls 3 [(0, .ref (B + 146)), (1, .int (zI t9)), (2, .int (zI u9))] := hl
  have hm8 := hS.1.1
  have hk12 := hS.2.2.2.2.1
  have hC : TW M q hv ed o := hS.T
  have hW : isR M 147 o.1 q hv ed o.2.1 o.2.2 := hC.1
  have hwf := hC.wf
  have hKL := hwf.2.2.2.2
  have hn12 := hwf.1
  have hq12 := hwf.2.1
  have hhv := hwf.2.2.1
  have hed := hwf.2.2.2.1
  refine lv_aload_n hx hb wdX12_cut_0 rfl (lv_at hl 0 rfl) ?_
  refine f_12_1 F w (a := 146) rfl wtb_179 wdX12_cut_1 ?_
  refine lv_iload_n hx hb wdX12_cut_4 rfl (lv_at hl 1 rfl) ?_
  refine k_Si F w (As := [.ref (B + 147), .int (zI t9)]) (rest := []) (s_X12_isTone (a := 147) rfl hW hwf (by omega)) wgs_X12_105 whs_X12_isTone ⟨(Nat.le_of_ble_eq_true rfl), (Nat.le_of_ble_eq_true rfl)⟩ hl.1 rfl (Nat.le_of_ble_eq_true rfl) ⟨Nat.zero_le _, Nat.zero_le _⟩ wdX12_cut_5 (fun r Ma1 H locs hp w => ?_)
  rcases hp with ⟨⟨k9, rfl, hk9, rfl⟩ | ⟨nk9, rfl⟩, hMe⟩
  · rw [hMe] at w
    refine z_if_eq (tgt := 38) hx hb (by omega) wdX12_cut_8 (by decide) (fun c2 => False.elim (by omega)) (fun c2 => ?_)
    refine lv_aload_n hx hb wdX12_cut_11 rfl (lv_at hl 0 rfl) ?_
    refine f_12_1 F w (a := 146) rfl wtb_179 wdX12_cut_12 ?_
    refine lv_iload_n hx hb wdX12_cut_15 rfl (lv_at hl 2 rfl) ?_
    refine k_Si F w (As := [.ref (B + 147), .int (zI u9)]) (rest := []) (s_X12_isSyllable (a := 147) rfl hW hwf (by omega)) wgs_X12_94 whs_X12_isSyllable ⟨(Nat.le_of_ble_eq_true rfl), (Nat.le_of_ble_eq_true rfl)⟩ hl.1 rfl (Nat.le_of_ble_eq_true rfl) ⟨Nat.zero_le _, Nat.zero_le _⟩ wdX12_cut_16 (fun r Ma3 H locs hp w => ?_)
    rcases hp with ⟨⟨j9, rfl, hj9, rfl⟩ | ⟨nj9, rfl⟩, hMe⟩
    · rw [hMe] at w
      refine z_if_eq (tgt := 38) hx hb (by omega) wdX12_cut_19 (by decide) (fun c4 => False.elim (by omega)) (fun c4 => ?_)
      refine lv_aload_n hx hb wdX12_cut_22 rfl (lv_at hl 0 rfl) ?_
      refine f_12_1 F w (a := 146) rfl wtb_179 wdX12_cut_23 ?_
      refine lv_bipush (v := zI 13) hx hb wdX12_cut_26 (by decide) ?_
      refine lv_iload_n hx hb wdX12_cut_28 rfl (lv_at hl 1 rfl) ?_
      refine z_iadd (z := (((13 + k9) : Nat) : Int)) hx hb wdX12_cut_29 (by omega) ?_
      refine g_iald F w (a := 147) rfl (j := (13 + k9)) (ix_n (by omega)) (by omega) wdX12_cut_30 ?_
      have hL4 := (hKL k9 (by omega)).2
      refine r_val (v := (zI (((o.2.2 k9) : Nat) : Int))) (hW.2.2.2.2.2 k9 (by omega)) ?_
      refine lv_iload_n hx hb wdX12_cut_31 rfl (lv_at hl 2 rfl) ?_
      refine k_Si F w (As := [.int (zI (((o.2.2 k9) : Nat) : Int)), .int (zI (j9 : Int))]) (rest := []) (s_X12_isIn (m9 := (o.2.2 k9)) (k := j9) (by omega) (by omega)) wgs_X12_51 whs_X12_isIn ⟨(Nat.le_of_ble_eq_true rfl), (Nat.le_of_ble_eq_true rfl)⟩ hl.1 rfl (Nat.le_of_ble_eq_true rfl) ⟨Nat.zero_le _, Nat.zero_le _⟩ wdX12_cut_32 (fun r Ma6 H locs hp w => ?_)
      rcases hp with ⟨⟨hb5, rfl⟩ | ⟨hb5, rfl⟩, hMe⟩
      · rw [hMe] at w
        refine z_if_ne (tgt := 40) hx hb (by omega) wdX12_cut_35 (by decide) (fun c7 => ?_) (fun c7 => False.elim (by omega))
        refine lv_aload_n hx hb wdX12_cut_40 rfl (lv_at hl 0 rfl) ?_
        refine k_Vv F w (As := []) (rest := []) (a := 146) (kd_lt (a := 146) (show kd 146 = (12, 0, 0) from rfl) (by decide)) (sh_12 rfl _ _) rfl (m_keeps hS) wgv_X12_242 whv_X12_keeps ⟨(Nat.le_of_ble_eq_true rfl), (Nat.le_of_ble_eq_true rfl)⟩ hl.1 rfl (Nat.le_of_ble_eq_true rfl) ⟨Nat.zero_le _, Nat.zero_le _⟩ wdX12_cut_41 (fun Ma8 H locs hp w => ?_)
        rcases hp with ⟨hS1, hB1⟩
        have hC1 : TW Ma8 q hv ed o := hS1.T
        have hW1 : isR Ma8 147 o.1 q hv ed o.2.1 o.2.2 := hC1.1
        refine lv_aload_n hx hb wdX12_cut_44 rfl (lv_at hl 0 rfl) ?_
        refine f_12_1 F w (a := 146) rfl wtb_179 wdX12_cut_45 ?_
        refine lv_bipush (v := zI 13) hx hb wdX12_cut_48 (by decide) ?_
        refine lv_iload_n hx hb wdX12_cut_50 rfl (lv_at hl 1 rfl) ?_
        refine z_iadd (z := (((13 + k9) : Nat) : Int)) hx hb wdX12_cut_51 (by omega) ?_
        refine lv_dup2_11 hx hb wdX12_cut_52 rfl rfl ?_
        refine g_iald F w (a := 147) rfl (j := (13 + k9)) (ix_n (by omega)) (by omega) wdX12_cut_53 ?_
        have hL8 := (hKL k9 (by omega)).2
        refine r_val (v := (zI (((o.2.2 k9) : Nat) : Int))) (hW1.2.2.2.2.2 k9 (by omega)) ?_
        refine lv_iconst (v := zI 1) hx hb wdX12_cut_54 rfl ?_
        refine lv_iload_n hx hb wdX12_cut_55 rfl (lv_at hl 2 rfl) ?_
        refine lv_ishl hx hb wdX12_cut_56 ?_
        refine r_val (v := (zI (((2 ^ j9) : Nat) : Int))) (zb_shl (n := j9) (by omega)) ?_
        have q9 := p2_b (n := j9) (by omega)
        refine lv_iconst (v := zI (-1)) hx hb wdX12_cut_57 rfl ?_
        refine lv_ixor hx hb wdX12_cut_58 ?_
        refine lv_iand hx hb wdX12_cut_59 ?_
        refine r_val (v := (zI (((andn (o.2.2 k9) (2 ^ j9)) : Nat) : Int))) (zb_andn _ _) ?_
        have q11 := andn_le (o.2.2 k9) (2 ^ j9)
        refine g_iast F w (a := 147) rfl (j := (13 + k9)) (ix_n (by omega)) (by omega) wdX12_cut_60 (fun H locs w => ?_)
        refine lv_iconst (v := zI 1) hx hb wdX12_cut_61 rfl ?_
        exact e_z F w hr hlocks (nar_z (by omega)) (Or.inl ⟨_, acI_y ⟨k9, j9, rfl, rfl, hk9, hj9, hb5⟩, rfl, hS1.told Fr1.s (rlW hW1 hn12 hk9) ⟨okW_line hC1.2.1 (andn_lt (hC.2.1.2.2 k9 hk9).2), hC1.2.2⟩, FR.of hB1 Fr1.s⟩) wdX12_cut_62
      · rw [hMe] at w
        refine z_if_ne (tgt := 40) hx hb (by omega) wdX12_cut_35 (by decide) (fun c12 => False.elim (by omega)) (fun c12 => ?_)
        refine lv_iconst (v := zI 0) hx hb wdX12_cut_38 rfl ?_
        exact e_z F w hr hlocks (nar_z (by omega)) (Or.inr ⟨acI_n (by rintro ⟨i, j, e1, e2, h1, h2, h3⟩; have e8 : k9 = i := (by omega); have e9 : j9 = j := (by omega); subst e8; subst e9; exact hb5 h3), rfl, rfl⟩) wdX12_cut_39
    · rw [hMe] at w
      refine z_if_eq (tgt := 38) hx hb (by omega) wdX12_cut_19 (by decide) (fun c13 => ?_) (fun c13 => False.elim (by omega))
      refine lv_iconst (v := zI 0) hx hb wdX12_cut_38 rfl ?_
      exact e_z F w hr hlocks (nar_z (by omega)) (Or.inr ⟨acI_n (by rintro ⟨i, j, e1, e2, h1, h2, h3⟩; exact nj9 (by have h4 : j < q := h2; omega)), rfl, rfl⟩) wdX12_cut_39
  · rw [hMe] at w
    refine z_if_eq (tgt := 38) hx hb (by omega) wdX12_cut_8 (by decide) (fun c14 => ?_) (fun c14 => False.elim (by omega))
    refine lv_iconst (v := zI 0) hx hb wdX12_cut_38 rfl ?_
    exact e_z F w hr hlocks (nar_z (by omega)) (Or.inr ⟨acI_n (by rintro ⟨i, j, e1, e2, h1, h2, h3⟩; exact nk9 (by have h4 : i < o.1 := h1; omega)), rfl, rfl⟩) wdX12_cut_39
theorem wdX12_tone_0 : decode cX12_tone 0 = .ok (.iload_n 1, 1) := dq0 kk_27 (by decide +kernel)
theorem wdX12_tone_1 : decode cX12_tone 1 = .ok (.iconst 0, 1) := dq0 kk_3 (by decide +kernel)
theorem wdX12_tone_2 : decode cX12_tone 2 = .ok (.aload_n 0, 1) := dq0 kk_42 (by decide +kernel)
theorem wdX12_tone_3 : decode cX12_tone 3 = .ok (.getfield 13, 3) := dqV kk_180 (by decide +kernel)
theorem wdX12_tone_6 : decode cX12_tone 6 = .ok (.iconst 0, 1) := dq0 kk_3 (by decide +kernel)
theorem wdX12_tone_7 : decode cX12_tone 7 = .ok (.iaload, 1) := dq0 kk_46 (by decide +kernel)
theorem wdX12_tone_8 : decode cX12_tone 8 = .ok (.invokestatic 55, 3) := dqV kk_184 (by decide +kernel)
theorem wtk_X12_in : Cond.code yX12_in cX12_in 3 (some .boolean) ∈ TB := rtk_X12_in
theorem wgc_X12_in : GoodIn TB (cw yX12_in cX12_in 3 (some .boolean)) := goodIn_c2 wtk_X12_in
theorem wtb_286 : Cond.methodLink "ToneLinesModel" 55 yX12_in ∈ TB := rtb_117
theorem wtb_287 : Cond.static yX12_in ∈ TB := rtb_118
theorem wgs_X12_55 : GoodIn TB (va_wsS RX12 55 yX12_in (cw yX12_in cX12_in 3 (some .boolean))) := goodIn_3 wtb_286 wtb_287 wtb_105 wgc_X12_in
theorem whs_X12_in : yX12_in.cls ≠ "java/lang/invoke/MethodHandle" ∧ yX12_in.cls ≠ "java/lang/invoke/VarHandle" ∧ (parseMethodDescriptor yX12_in.desc).map (fun d => d.parameters.length) = some 3 := rhs_X12_in
theorem wdX12_tone_11 : decode cX12_tone 11 = .ok (.ifCond .eq 23, 3) := dqT kk_153 (by decide +kernel)
theorem wdX12_tone_14 : decode cX12_tone 14 = .ok (.iload_n 2, 1) := dq0 kk_28 (by decide +kernel)
theorem wdX12_tone_15 : decode cX12_tone 15 = .ok (.iconst 0, 1) := dq0 kk_3 (by decide +kernel)
theorem wdX12_tone_16 : decode cX12_tone 16 = .ok (.iconst 2, 1) := dq0 kk_5 (by decide +kernel)
theorem wdX12_tone_17 : decode cX12_tone 17 = .ok (.invokestatic 55, 3) := dqV kk_184 (by decide +kernel)
theorem wdX12_tone_20 : decode cX12_tone 20 = .ok (.ifCond .eq 14, 3) := dqT kk_153 (by decide +kernel)
theorem wdX12_tone_23 : decode cX12_tone 23 = .ok (.aload_n 0, 1) := dq0 kk_42 (by decide +kernel)
theorem wdX12_tone_24 : decode cX12_tone 24 = .ok (.getfield 13, 3) := dqV kk_180 (by decide +kernel)
theorem wdX12_tone_27 : decode cX12_tone 27 = .ok (.iconst 0, 1) := dq0 kk_3 (by decide +kernel)
theorem wdX12_tone_28 : decode cX12_tone 28 = .ok (.iaload, 1) := dq0 kk_46 (by decide +kernel)
theorem wdX12_tone_29 : decode cX12_tone 29 = .ok (.bipush 12, 2) := dqS kk_16 (by decide +kernel)
theorem wdX12_tone_31 : decode cX12_tone 31 = .ok (.if_icmp .ne 5, 3) := dqT kk_160 (by decide +kernel)
theorem wdX12_tone_36 : decode cX12_tone 36 = .ok (.aload_n 0, 1) := dq0 kk_42 (by decide +kernel)
theorem wdX12_tone_37 : decode cX12_tone 37 = .ok (.invokevirtual 242, 3) := dqV kk_182 (by decide +kernel)
theorem wdX12_tone_40 : decode cX12_tone 40 = .ok (.aload_n 0, 1) := dq0 kk_42 (by decide +kernel)
theorem wdX12_tone_41 : decode cX12_tone 41 = .ok (.getfield 13, 3) := dqV kk_180 (by decide +kernel)
theorem wdX12_tone_44 : decode cX12_tone 44 = .ok (.iload_n 1, 1) := dq0 kk_27 (by decide +kernel)
theorem wdX12_tone_45 : decode cX12_tone 45 = .ok (.iload_n 2, 1) := dq0 kk_28 (by decide +kernel)
theorem wdX12_tone_46 : decode cX12_tone 46 = .ok (.invokestatic 112, 3) := dqV kk_184 (by decide +kernel)
theorem wdX12_tone_49 : decode cX12_tone 49 = .ok (.iconst 1, 1) := dq0 kk_4 (by decide +kernel)
theorem wdX12_tone_50 : decode cX12_tone 50 = .ok (.ireturn, 1) := dq0 kk_172 (by decide +kernel)
theorem wdX12_tone_34 : decode cX12_tone 34 = .ok (.iconst 0, 1) := dq0 kk_3 (by decide +kernel)
theorem wdX12_tone_35 : decode cX12_tone 35 = .ok (.ireturn, 1) := dq0 kk_172 (by decide +kernel)
set_option maxRecDepth 4000 in
theorem m_tone {l : Launch} {D : va_G} {B : Nat} {cy : Nat → ClassId} {M : Mem} {Ps : Nat → Nat → Int} {mr k q hv ed : Nat} {o : Wo} {Hs : Nat → Fw} (hS : MS M Ps mr (q, hv, ed, o) Hs k) {t9 u9 : Int} (ht9 : rg t9) (hu9 : rg u9) : Ci l D B cy yX12_tone cX12_tone 3 (some .boolean) 1 23 [.ref (B + 146), .int (zI t9), .int (zI u9)] M (fun r M1 => AR Ps mr Hs k (q, hv, ed, o) (acTone t9 u9 (q, hv, ed, o)) 1 0 M r M1) := by
  refine s_any (by decide) (Nat.le_of_ble_eq_true rfl) ?_
  intro p e s m below meth c ls F hr hlocks w hl
  have F : CallFix p m c cX12_tone 3 s _ TB RX12 := F
  have hx := F.1
  have hb := F.2.1
  have hl : lv_has ls 3 [(0, .ref (B + 146)), (1, .int (zI t9)), (2, .int (zI u9))] := hl
  have hm8 := hS.1.1
  have hk12 := hS.2.2.2.2.1
  have hC : TW M q hv ed o := hS.T
  have hW : isR M 147 o.1 q hv ed o.2.1 o.2.2 := hC.1
  have hwf := hC.wf
  have hKL := hwf.2.2.2.2
  have hn12 := hwf.1
  have hq12 := hwf.2.1
  have hhv := hwf.2.2.1
  have hed := hwf.2.2.2.1
  refine lv_iload_n hx hb wdX12_tone_0 rfl (lv_at hl 1 rfl) ?_
  refine lv_iconst (v := zI 0) hx hb wdX12_tone_1 rfl ?_
  refine lv_aload_n hx hb wdX12_tone_2 rfl (lv_at hl 0 rfl) ?_
  refine f_12_1 F w (a := 146) rfl wtb_179 wdX12_tone_3 ?_
  refine lv_iconst (v := zI 0) hx hb wdX12_tone_6 rfl ?_
  refine g_iald F w (a := 147) rfl (j := 0) ⟨by decide, by decide⟩ (by omega) wdX12_tone_7 ?_
  refine r_val (v := (zI ((o.1 : Nat) : Int))) (hW.1) ?_
  refine k_Si F w (As := [.int (zI t9), .int (zI 0), .int (zI ((o.1 : Nat) : Int))]) (rest := []) (s_X12_in (v := t9) (a := 0) (b := ((o.1 : Nat) : Int)) (by omega) (by omega) (by omega)) wgs_X12_55 whs_X12_in ⟨(Nat.le_of_ble_eq_true rfl), (Nat.le_of_ble_eq_true rfl)⟩ hl.1 rfl (Nat.le_of_ble_eq_true rfl) ⟨Nat.zero_le _, Nat.zero_le _⟩ wdX12_tone_8 (fun r Ma2 H locs hp w => ?_)
  rcases hp with ⟨⟨hb1, rfl⟩ | ⟨hb1, rfl⟩, hMe⟩
  · rw [hMe] at w
    refine z_if_eq (tgt := 34) hx hb (by omega) wdX12_tone_11 (by decide) (fun c3 => False.elim (by omega)) (fun c3 => ?_)
    refine lv_iload_n hx hb wdX12_tone_14 rfl (lv_at hl 2 rfl) ?_
    refine lv_iconst (v := zI 0) hx hb wdX12_tone_15 rfl ?_
    refine lv_iconst (v := zI 2) hx hb wdX12_tone_16 rfl ?_
    refine k_Si F w (As := [.int (zI u9), .int (zI 0), .int (zI 2)]) (rest := []) (s_X12_in (v := u9) (a := 0) (b := 2) (by omega) (by omega) (by omega)) wgs_X12_55 whs_X12_in ⟨(Nat.le_of_ble_eq_true rfl), (Nat.le_of_ble_eq_true rfl)⟩ hl.1 rfl (Nat.le_of_ble_eq_true rfl) ⟨Nat.zero_le _, Nat.zero_le _⟩ wdX12_tone_17 (fun r Ma5 H locs hp w => ?_)
    rcases hp with ⟨⟨hb4, rfl⟩ | ⟨hb4, rfl⟩, hMe⟩
    · rw [hMe] at w
      refine z_if_eq (tgt := 34) hx hb (by omega) wdX12_tone_20 (by decide) (fun c6 => False.elim (by omega)) (fun c6 => ?_)
      refine lv_aload_n hx hb wdX12_tone_23 rfl (lv_at hl 0 rfl) ?_
      refine f_12_1 F w (a := 146) rfl wtb_179 wdX12_tone_24 ?_
      refine lv_iconst (v := zI 0) hx hb wdX12_tone_27 rfl ?_
      refine g_iald F w (a := 147) rfl (j := 0) ⟨by decide, by decide⟩ (by omega) wdX12_tone_28 ?_
      refine r_val (v := (zI ((o.1 : Nat) : Int))) (hW.1) ?_
      refine lv_bipush (v := zI 12) hx hb wdX12_tone_29 (by decide) ?_
      refine z_icmp_ne (tgt := 36) hx hb (by omega) (by omega) wdX12_tone_31 (by decide) (fun c7 => ?_) (fun c7 => ?_)
      · obtain ⟨tn, rfl⟩ : ∃ n9 : Nat, t9 = (n9 : Int) := ⟨Int.toNat t9, by omega⟩
        obtain ⟨un, rfl⟩ : ∃ n9 : Nat, u9 = (n9 : Int) := ⟨Int.toNat u9, by omega⟩
        refine lv_aload_n hx hb wdX12_tone_36 rfl (lv_at hl 0 rfl) ?_
        refine k_Vv F w (As := []) (rest := []) (a := 146) (kd_lt (a := 146) (show kd 146 = (12, 0, 0) from rfl) (by decide)) (sh_12 rfl _ _) rfl (m_keeps hS) wgv_X12_242 whv_X12_keeps ⟨(Nat.le_of_ble_eq_true rfl), (Nat.le_of_ble_eq_true rfl)⟩ hl.1 rfl (Nat.le_of_ble_eq_true rfl) ⟨Nat.zero_le _, Nat.zero_le _⟩ wdX12_tone_37 (fun Ma8 H locs hp w => ?_)
        rcases hp with ⟨hS1, hB1⟩
        have hC1 : TW Ma8 q hv ed o := hS1.T
        have hW1 : isR Ma8 147 o.1 q hv ed o.2.1 o.2.2 := hC1.1
        refine lv_aload_n hx hb wdX12_tone_40 rfl (lv_at hl 0 rfl) ?_
        refine f_12_1 F w (a := 146) rfl wtb_179 wdX12_tone_41 ?_
        refine lv_iload_n hx hb wdX12_tone_44 rfl (lv_at hl 1 rfl) ?_
        refine lv_iload_n hx hb wdX12_tone_45 rfl (lv_at hl 2 rfl) ?_
        refine k_Sv F w (As := [.ref (B + 147), .int (zI (tn : Int)), .int (zI (un : Int))]) (rest := []) (s_X12_insert (a := 147) rfl hW1 hC1.wf (t := tn) (x := un) (by omega) (by omega) (by omega)) wgs_X12_112 whs_X12_insert ⟨(Nat.le_of_ble_eq_true rfl), (Nat.le_of_ble_eq_true rfl)⟩ hl.1 rfl (Nat.le_of_ble_eq_true rfl) ⟨Nat.zero_le _, Nat.zero_le _⟩ wdX12_tone_46 (fun Ma9 H locs hp w => ?_)
        rcases hp with ⟨hW2, hF2⟩
        refine lv_iconst (v := zI 1) hx hb wdX12_tone_49 rfl ?_
        exact e_z F w hr hlocks (nar_z (by omega)) (Or.inl ⟨_, acI_y (by show 0 ≤ (tn : Int) ∧ (tn : Int) ≤ (o.1 : Int) ∧ o.1 < 12 ∧ 0 ≤ (un : Int) ∧ (un : Int) ≤ 2; omega), rfl, hS1.told hF2 hW2 ⟨okW_ins (o := o) (t := tn) (x := un) hC1.2.1 (by omega) (by omega) (by omega), hC1.2.2⟩, FR.of hB1 hF2⟩) wdX12_tone_50
      · refine lv_iconst (v := zI 0) hx hb wdX12_tone_34 rfl ?_
        exact e_z F w hr hlocks (nar_z (by omega)) (Or.inr ⟨acI_n (by show ¬ (0 ≤ t9 ∧ t9 ≤ (o.1 : Int) ∧ o.1 < 12 ∧ 0 ≤ u9 ∧ u9 ≤ 2); omega), rfl, rfl⟩) wdX12_tone_35
    · rw [hMe] at w
      refine z_if_eq (tgt := 34) hx hb (by omega) wdX12_tone_20 (by decide) (fun c10 => ?_) (fun c10 => False.elim (by omega))
      refine lv_iconst (v := zI 0) hx hb wdX12_tone_34 rfl ?_
      exact e_z F w hr hlocks (nar_z (by omega)) (Or.inr ⟨acI_n (by show ¬ (0 ≤ t9 ∧ t9 ≤ (o.1 : Int) ∧ o.1 < 12 ∧ 0 ≤ u9 ∧ u9 ≤ 2); omega), rfl, rfl⟩) wdX12_tone_35
  · rw [hMe] at w
    refine z_if_eq (tgt := 34) hx hb (by omega) wdX12_tone_11 (by decide) (fun c11 => ?_) (fun c11 => False.elim (by omega))
    refine lv_iconst (v := zI 0) hx hb wdX12_tone_34 rfl ?_
    exact e_z F w hr hlocks (nar_z (by omega)) (Or.inr ⟨acI_n (by show ¬ (0 ≤ t9 ∧ t9 ≤ (o.1 : Int) ∧ o.1 < 12 ∧ 0 ≤ u9 ∧ u9 ≤ 2); omega), rfl, rfl⟩) wdX12_tone_35
theorem wdX12_hush_0 : decode cX12_hush 0 = .ok (.aload_n 0, 1) := dq0 kk_42 (by decide +kernel)
theorem wdX12_hush_1 : decode cX12_hush 1 = .ok (.getfield 13, 3) := dqV kk_180 (by decide +kernel)
theorem wdX12_hush_4 : decode cX12_hush 4 = .ok (.iload_n 1, 1) := dq0 kk_27 (by decide +kernel)
theorem wdX12_hush_5 : decode cX12_hush 5 = .ok (.invokestatic 105, 3) := dqV kk_184 (by decide +kernel)
theorem wdX12_hush_8 : decode cX12_hush 8 = .ok (.ifCond .ne 5, 3) := dqT kk_154 (by decide +kernel)
theorem wdX12_hush_13 : decode cX12_hush 13 = .ok (.aload_n 0, 1) := dq0 kk_42 (by decide +kernel)
theorem wdX12_hush_14 : decode cX12_hush 14 = .ok (.invokevirtual 242, 3) := dqV kk_182 (by decide +kernel)
theorem wdX12_hush_17 : decode cX12_hush 17 = .ok (.aload_n 0, 1) := dq0 kk_42 (by decide +kernel)
theorem wdX12_hush_18 : decode cX12_hush 18 = .ok (.getfield 13, 3) := dqV kk_180 (by decide +kernel)
theorem wdX12_hush_21 : decode cX12_hush 21 = .ok (.iload_n 1, 1) := dq0 kk_27 (by decide +kernel)
theorem wdX12_hush_22 : decode cX12_hush 22 = .ok (.invokestatic 108, 3) := dqV kk_184 (by decide +kernel)
theorem wdX12_hush_25 : decode cX12_hush 25 = .ok (.iconst 1, 1) := dq0 kk_4 (by decide +kernel)
theorem wdX12_hush_26 : decode cX12_hush 26 = .ok (.ireturn, 1) := dq0 kk_172 (by decide +kernel)
theorem wdX12_hush_11 : decode cX12_hush 11 = .ok (.iconst 0, 1) := dq0 kk_3 (by decide +kernel)
theorem wdX12_hush_12 : decode cX12_hush 12 = .ok (.ireturn, 1) := dq0 kk_172 (by decide +kernel)
set_option maxRecDepth 4000 in
theorem m_hush {l : Launch} {D : va_G} {B : Nat} {cy : Nat → ClassId} {M : Mem} {Ps : Nat → Nat → Int} {mr k q hv ed : Nat} {o : Wo} {Hs : Nat → Fw} (hS : MS M Ps mr (q, hv, ed, o) Hs k) {t9 : Int} (ht9 : rg t9) : Ci l D B cy yX12_hush cX12_hush 2 (some .boolean) 2 43 [.ref (B + 146), .int (zI t9)] M (fun r M1 => AR Ps mr Hs k (q, hv, ed, o) (acHush t9 (q, hv, ed, o)) 1 0 M r M1) := by
  refine s_any (by decide) (Nat.le_of_ble_eq_true rfl) ?_
  intro p e s m below meth c ls F hr hlocks w hl
  have F : CallFix p m c cX12_hush 2 s _ TB RX12 := F
  have hx := F.1
  have hb := F.2.1
  have hl : lv_has ls 2 [(0, .ref (B + 146)), (1, .int (zI t9))] := hl
  have hm8 := hS.1.1
  have hk12 := hS.2.2.2.2.1
  have hC : TW M q hv ed o := hS.T
  have hW : isR M 147 o.1 q hv ed o.2.1 o.2.2 := hC.1
  have hwf := hC.wf
  have hKL := hwf.2.2.2.2
  have hn12 := hwf.1
  have hq12 := hwf.2.1
  have hhv := hwf.2.2.1
  have hed := hwf.2.2.2.1
  refine lv_aload_n hx hb wdX12_hush_0 rfl (lv_at hl 0 rfl) ?_
  refine f_12_1 F w (a := 146) rfl wtb_179 wdX12_hush_1 ?_
  refine lv_iload_n hx hb wdX12_hush_4 rfl (lv_at hl 1 rfl) ?_
  refine k_Si F w (As := [.ref (B + 147), .int (zI t9)]) (rest := []) (s_X12_isTone (a := 147) rfl hW hwf (by omega)) wgs_X12_105 whs_X12_isTone ⟨(Nat.le_of_ble_eq_true rfl), (Nat.le_of_ble_eq_true rfl)⟩ hl.1 rfl (Nat.le_of_ble_eq_true rfl) ⟨Nat.zero_le _, Nat.zero_le _⟩ wdX12_hush_5 (fun r Ma1 H locs hp w => ?_)
  rcases hp with ⟨⟨k9, rfl, hk9, rfl⟩ | ⟨nk9, rfl⟩, hMe⟩
  · rw [hMe] at w
    refine z_if_ne (tgt := 13) hx hb (by omega) wdX12_hush_8 (by decide) (fun c2 => ?_) (fun c2 => False.elim (by omega))
    refine lv_aload_n hx hb wdX12_hush_13 rfl (lv_at hl 0 rfl) ?_
    refine k_Vv F w (As := []) (rest := []) (a := 146) (kd_lt (a := 146) (show kd 146 = (12, 0, 0) from rfl) (by decide)) (sh_12 rfl _ _) rfl (m_keeps hS) wgv_X12_242 whv_X12_keeps ⟨(Nat.le_of_ble_eq_true rfl), (Nat.le_of_ble_eq_true rfl)⟩ hl.1 rfl (Nat.le_of_ble_eq_true rfl) ⟨Nat.zero_le _, Nat.zero_le _⟩ wdX12_hush_14 (fun Ma3 H locs hp w => ?_)
    rcases hp with ⟨hS1, hB1⟩
    have hC1 : TW Ma3 q hv ed o := hS1.T
    have hW1 : isR Ma3 147 o.1 q hv ed o.2.1 o.2.2 := hC1.1
    refine lv_aload_n hx hb wdX12_hush_17 rfl (lv_at hl 0 rfl) ?_
    refine f_12_1 F w (a := 146) rfl wtb_179 wdX12_hush_18 ?_
    refine lv_iload_n hx hb wdX12_hush_21 rfl (lv_at hl 1 rfl) ?_
    refine k_Sv F w (As := [.ref (B + 147), .int (zI (k9 : Int))]) (rest := []) (s_X12_remove (a := 147) rfl hW1 hC1.wf (t := k9) (by omega)) wgs_X12_108 whs_X12_remove ⟨(Nat.le_of_ble_eq_true rfl), (Nat.le_of_ble_eq_true rfl)⟩ hl.1 rfl (Nat.le_of_ble_eq_true rfl) ⟨Nat.zero_le _, Nat.zero_le _⟩ wdX12_hush_22 (fun Ma4 H locs hp w => ?_)
    rcases hp with ⟨hW2, hF2⟩
    refine lv_iconst (v := zI 1) hx hb wdX12_hush_25 rfl ?_
    exact e_z F w hr hlocks (nar_z (by omega)) (Or.inl ⟨_, acI_y (by show 0 ≤ (k9 : Int) ∧ (k9 : Int) < (o.1 : Int); omega), rfl, hS1.told hF2 hW2 ⟨okW_rem hC1.2.1 hk9, hC1.2.2⟩, FR.of hB1 hF2⟩) wdX12_hush_26
  · rw [hMe] at w
    refine z_if_ne (tgt := 13) hx hb (by omega) wdX12_hush_8 (by decide) (fun c5 => False.elim (by omega)) (fun c5 => ?_)
    refine lv_iconst (v := zI 0) hx hb wdX12_hush_11 rfl ?_
    exact e_z F w hr hlocks (nar_z (by omega)) (Or.inr ⟨acI_n nk9, rfl, rfl⟩) wdX12_hush_12
theorem wdX12_turn_0 : decode cX12_turn 0 = .ok (.aload_n 0, 1) := dq0 kk_42 (by decide +kernel)
theorem wdX12_turn_1 : decode cX12_turn 1 = .ok (.getfield 13, 3) := dqV kk_180 (by decide +kernel)
theorem wdX12_turn_4 : decode cX12_turn 4 = .ok (.iload_n 1, 1) := dq0 kk_27 (by decide +kernel)
theorem wdX12_turn_5 : decode cX12_turn 5 = .ok (.invokestatic 105, 3) := dqV kk_184 (by decide +kernel)
theorem wdX12_turn_8 : decode cX12_turn 8 = .ok (.ifCond .eq 24, 3) := dqT kk_153 (by decide +kernel)
theorem wdX12_turn_11 : decode cX12_turn 11 = .ok (.iload_n 2, 1) := dq0 kk_28 (by decide +kernel)
theorem wdX12_turn_12 : decode cX12_turn 12 = .ok (.iconst 0, 1) := dq0 kk_3 (by decide +kernel)
theorem wdX12_turn_13 : decode cX12_turn 13 = .ok (.iconst 2, 1) := dq0 kk_5 (by decide +kernel)
theorem wdX12_turn_14 : decode cX12_turn 14 = .ok (.invokestatic 55, 3) := dqV kk_184 (by decide +kernel)
theorem wdX12_turn_17 : decode cX12_turn 17 = .ok (.ifCond .eq 15, 3) := dqT kk_153 (by decide +kernel)
theorem wdX12_turn_20 : decode cX12_turn 20 = .ok (.aload_n 0, 1) := dq0 kk_42 (by decide +kernel)
theorem wdX12_turn_21 : decode cX12_turn 21 = .ok (.getfield 13, 3) := dqV kk_180 (by decide +kernel)
theorem wdX12_turn_24 : decode cX12_turn 24 = .ok (.iconst 1, 1) := dq0 kk_4 (by decide +kernel)
theorem wdX12_turn_25 : decode cX12_turn 25 = .ok (.iload_n 1, 1) := dq0 kk_27 (by decide +kernel)
theorem wdX12_turn_26 : decode cX12_turn 26 = .ok (.iadd, 1) := dq0 kk_96 (by decide +kernel)
theorem wdX12_turn_27 : decode cX12_turn 27 = .ok (.iaload, 1) := dq0 kk_46 (by decide +kernel)
theorem wdX12_turn_28 : decode cX12_turn 28 = .ok (.iload_n 2, 1) := dq0 kk_28 (by decide +kernel)
theorem wdX12_turn_29 : decode cX12_turn 29 = .ok (.if_icmp .ne 5, 3) := dqT kk_160 (by decide +kernel)
theorem wdX12_turn_34 : decode cX12_turn 34 = .ok (.aload_n 0, 1) := dq0 kk_42 (by decide +kernel)
theorem wdX12_turn_35 : decode cX12_turn 35 = .ok (.invokevirtual 242, 3) := dqV kk_182 (by decide +kernel)
theorem wdX12_turn_38 : decode cX12_turn 38 = .ok (.aload_n 0, 1) := dq0 kk_42 (by decide +kernel)
theorem wdX12_turn_39 : decode cX12_turn 39 = .ok (.getfield 13, 3) := dqV kk_180 (by decide +kernel)
theorem wdX12_turn_42 : decode cX12_turn 42 = .ok (.iconst 1, 1) := dq0 kk_4 (by decide +kernel)
theorem wdX12_turn_43 : decode cX12_turn 43 = .ok (.iload_n 1, 1) := dq0 kk_27 (by decide +kernel)
theorem wdX12_turn_44 : decode cX12_turn 44 = .ok (.iadd, 1) := dq0 kk_96 (by decide +kernel)
theorem wdX12_turn_45 : decode cX12_turn 45 = .ok (.iaload, 1) := dq0 kk_46 (by decide +kernel)
theorem wdX12_turn_46 : decode cX12_turn 46 = .ok (.istore_n 3, 1) := dq0 kk_62 (by decide +kernel)
theorem wdX12_turn_47 : decode cX12_turn 47 = .ok (.aload_n 0, 1) := dq0 kk_42 (by decide +kernel)
theorem wdX12_turn_48 : decode cX12_turn 48 = .ok (.getfield 13, 3) := dqV kk_180 (by decide +kernel)
theorem wdX12_turn_51 : decode cX12_turn 51 = .ok (.iconst 1, 1) := dq0 kk_4 (by decide +kernel)
theorem wdX12_turn_52 : decode cX12_turn 52 = .ok (.iload_n 1, 1) := dq0 kk_27 (by decide +kernel)
theorem wdX12_turn_53 : decode cX12_turn 53 = .ok (.iadd, 1) := dq0 kk_96 (by decide +kernel)
theorem wdX12_turn_54 : decode cX12_turn 54 = .ok (.iload_n 2, 1) := dq0 kk_28 (by decide +kernel)
theorem wdX12_turn_55 : decode cX12_turn 55 = .ok (.iastore, 1) := dq0 kk_79 (by decide +kernel)
theorem wdX12_turn_56 : decode cX12_turn 56 = .ok (.iload_n 3, 1) := dq0 kk_29 (by decide +kernel)
theorem wdX12_turn_57 : decode cX12_turn 57 = .ok (.ireturn, 1) := dq0 kk_172 (by decide +kernel)
theorem wdX12_turn_32 : decode cX12_turn 32 = .ok (.iconst (-1), 1) := dq0 kk_2 (by decide +kernel)
theorem wdX12_turn_33 : decode cX12_turn 33 = .ok (.ireturn, 1) := dq0 kk_172 (by decide +kernel)
set_option maxRecDepth 4000 in
theorem m_turn {l : Launch} {D : va_G} {B : Nat} {cy : Nat → ClassId} {M : Mem} {Ps : Nat → Nat → Int} {mr k q hv ed : Nat} {o : Wo} {Hs : Nat → Fw} (hS : MS M Ps mr (q, hv, ed, o) Hs k) {t9 u9 : Int} (ht9 : rg t9) (hu9 : rg u9) : Ci l D B cy yX12_turn cX12_turn 4 (some .int) 2 43 [.ref (B + 146), .int (zI t9), .int (zI u9)] M (fun r M1 => AR Ps mr Hs k (q, hv, ed, o) (acTurn t9 u9 (q, hv, ed, o)) ((o.2.1 t9.toNat : Nat) : Int) (-1) M r M1) := by
  refine s_any (by decide) (Nat.le_of_ble_eq_true rfl) ?_
  intro p e s m below meth c ls F hr hlocks w hl
  have F : CallFix p m c cX12_turn 4 s _ TB RX12 := F
  have hx := F.1
  have hb := F.2.1
  have hl : lv_has ls 4 [(0, .ref (B + 146)), (1, .int (zI t9)), (2, .int (zI u9))] := hl
  have hm8 := hS.1.1
  have hk12 := hS.2.2.2.2.1
  have hC : TW M q hv ed o := hS.T
  have hW : isR M 147 o.1 q hv ed o.2.1 o.2.2 := hC.1
  have hwf := hC.wf
  have hKL := hwf.2.2.2.2
  have hn12 := hwf.1
  have hq12 := hwf.2.1
  have hhv := hwf.2.2.1
  have hed := hwf.2.2.2.1
  refine lv_aload_n hx hb wdX12_turn_0 rfl (lv_at hl 0 rfl) ?_
  refine f_12_1 F w (a := 146) rfl wtb_179 wdX12_turn_1 ?_
  refine lv_iload_n hx hb wdX12_turn_4 rfl (lv_at hl 1 rfl) ?_
  refine k_Si F w (As := [.ref (B + 147), .int (zI t9)]) (rest := []) (s_X12_isTone (a := 147) rfl hW hwf (by omega)) wgs_X12_105 whs_X12_isTone ⟨(Nat.le_of_ble_eq_true rfl), (Nat.le_of_ble_eq_true rfl)⟩ hl.1 rfl (Nat.le_of_ble_eq_true rfl) ⟨Nat.zero_le _, Nat.zero_le _⟩ wdX12_turn_5 (fun r Ma1 H locs hp w => ?_)
  rcases hp with ⟨⟨k9, rfl, hk9, rfl⟩ | ⟨nk9, rfl⟩, hMe⟩
  · rw [hMe] at w
    refine z_if_eq (tgt := 32) hx hb (by omega) wdX12_turn_8 (by decide) (fun c2 => False.elim (by omega)) (fun c2 => ?_)
    refine lv_iload_n hx hb wdX12_turn_11 rfl (lv_at hl 2 rfl) ?_
    refine lv_iconst (v := zI 0) hx hb wdX12_turn_12 rfl ?_
    refine lv_iconst (v := zI 2) hx hb wdX12_turn_13 rfl ?_
    refine k_Si F w (As := [.int (zI u9), .int (zI 0), .int (zI 2)]) (rest := []) (s_X12_in (v := u9) (a := 0) (b := 2) (by omega) (by omega) (by omega)) wgs_X12_55 whs_X12_in ⟨(Nat.le_of_ble_eq_true rfl), (Nat.le_of_ble_eq_true rfl)⟩ hl.1 rfl (Nat.le_of_ble_eq_true rfl) ⟨Nat.zero_le _, Nat.zero_le _⟩ wdX12_turn_14 (fun r Ma4 H locs hp w => ?_)
    rcases hp with ⟨⟨hb3, rfl⟩ | ⟨hb3, rfl⟩, hMe⟩
    · rw [hMe] at w
      refine z_if_eq (tgt := 32) hx hb (by omega) wdX12_turn_17 (by decide) (fun c5 => False.elim (by omega)) (fun c5 => ?_)
      refine lv_aload_n hx hb wdX12_turn_20 rfl (lv_at hl 0 rfl) ?_
      refine f_12_1 F w (a := 146) rfl wtb_179 wdX12_turn_21 ?_
      refine lv_iconst (v := zI 1) hx hb wdX12_turn_24 rfl ?_
      refine lv_iload_n hx hb wdX12_turn_25 rfl (lv_at hl 1 rfl) ?_
      refine z_iadd (z := (((1 + k9) : Nat) : Int)) hx hb wdX12_turn_26 (by omega) ?_
      refine g_iald F w (a := 147) rfl (j := (1 + k9)) (ix_n (by omega)) (by omega) wdX12_turn_27 ?_
      have hK5 := (hKL k9 (by omega)).1
      refine r_val (v := (zI (((o.2.1 k9) : Nat) : Int))) (hW.2.2.2.2.1 k9 (by omega)) ?_
      refine lv_iload_n hx hb wdX12_turn_28 rfl (lv_at hl 2 rfl) ?_
      refine z_icmp_ne (tgt := 34) hx hb (by omega) (by omega) wdX12_turn_29 (by decide) (fun c6 => ?_) (fun c6 => ?_)
      · obtain ⟨un, rfl⟩ : ∃ n9 : Nat, u9 = (n9 : Int) := ⟨Int.toNat u9, by omega⟩
        refine lv_aload_n hx hb wdX12_turn_34 rfl (lv_at hl 0 rfl) ?_
        refine k_Vv F w (As := []) (rest := []) (a := 146) (kd_lt (a := 146) (show kd 146 = (12, 0, 0) from rfl) (by decide)) (sh_12 rfl _ _) rfl (m_keeps hS) wgv_X12_242 whv_X12_keeps ⟨(Nat.le_of_ble_eq_true rfl), (Nat.le_of_ble_eq_true rfl)⟩ hl.1 rfl (Nat.le_of_ble_eq_true rfl) ⟨Nat.zero_le _, Nat.zero_le _⟩ wdX12_turn_35 (fun Ma7 H locs hp w => ?_)
        rcases hp with ⟨hS1, hB1⟩
        have hC1 : TW Ma7 q hv ed o := hS1.T
        have hW1 : isR Ma7 147 o.1 q hv ed o.2.1 o.2.2 := hC1.1
        refine lv_aload_n hx hb wdX12_turn_38 rfl (lv_at hl 0 rfl) ?_
        refine f_12_1 F w (a := 146) rfl wtb_179 wdX12_turn_39 ?_
        refine lv_iconst (v := zI 1) hx hb wdX12_turn_42 rfl ?_
        refine lv_iload_n hx hb wdX12_turn_43 rfl (lv_at hl 1 rfl) ?_
        refine z_iadd (z := (((1 + k9) : Nat) : Int)) hx hb wdX12_turn_44 (by omega) ?_
        refine g_iald F w (a := 147) rfl (j := (1 + k9)) (ix_n (by omega)) (by omega) wdX12_turn_45 ?_
        have hK7 := (hKL k9 (by omega)).1
        refine r_val (v := (zI (((o.2.1 k9) : Nat) : Int))) (hW1.2.2.2.2.1 k9 (by omega)) ?_
        refine lv_istore_n (lv' := [(3, .int (zI (((o.2.1 k9) : Nat) : Int))), (0, .ref (B + 146)), (1, .int (zI (k9 : Int))), (2, .int (zI (un : Int)))]) hx hb wdX12_turn_46 rfl hl (by decide) rfl (fun ls hl => ?_)
        refine lv_aload_n hx hb wdX12_turn_47 rfl (lv_at hl 1 rfl) ?_
        refine f_12_1 F w (a := 146) rfl wtb_179 wdX12_turn_48 ?_
        refine lv_iconst (v := zI 1) hx hb wdX12_turn_51 rfl ?_
        refine lv_iload_n hx hb wdX12_turn_52 rfl (lv_at hl 2 rfl) ?_
        refine z_iadd (z := (((1 + k9) : Nat) : Int)) hx hb wdX12_turn_53 (by omega) ?_
        refine lv_iload_n hx hb wdX12_turn_54 rfl (lv_at hl 3 rfl) ?_
        refine g_iast F w (a := 147) rfl (j := (1 + k9)) (ix_n (by omega)) (by omega) wdX12_turn_55 (fun H locs w => ?_)
        refine lv_iload_n hx hb wdX12_turn_56 rfl (lv_at hl 0 rfl) ?_
        exact e_i F w hr hlocks (Or.inl ⟨_, acI_y (by show 0 ≤ (k9 : Int) ∧ (k9 : Int) < (o.1 : Int) ∧ 0 ≤ (un : Int) ∧ (un : Int) ≤ 2 ∧ (o.2.1 k9 : Int) ≠ (un : Int); omega), rfl, hS1.told Fr1.s (rkW hW1 hn12 hk9) ⟨okW_kind hC1.2.1 (by omega), hC1.2.2⟩, FR.of hB1 Fr1.s⟩) wdX12_turn_57
      · refine lv_iconst (v := zI (-1)) hx hb wdX12_turn_32 rfl ?_
        exact e_i F w hr hlocks (Or.inr ⟨acI_n (by show ¬ (0 ≤ (k9 : Int) ∧ (k9 : Int) < (o.1 : Int) ∧ 0 ≤ u9 ∧ u9 ≤ 2 ∧ (o.2.1 k9 : Int) ≠ u9); omega), rfl, rfl⟩) wdX12_turn_33
    · rw [hMe] at w
      refine z_if_eq (tgt := 32) hx hb (by omega) wdX12_turn_17 (by decide) (fun c8 => ?_) (fun c8 => False.elim (by omega))
      refine lv_iconst (v := zI (-1)) hx hb wdX12_turn_32 rfl ?_
      exact e_i F w hr hlocks (Or.inr ⟨acI_n (by show ¬ (0 ≤ (k9 : Int) ∧ (k9 : Int) < (o.1 : Int) ∧ 0 ≤ u9 ∧ u9 ≤ 2 ∧ (o.2.1 k9 : Int) ≠ u9); omega), rfl, rfl⟩) wdX12_turn_33
  · rw [hMe] at w
    refine z_if_eq (tgt := 32) hx hb (by omega) wdX12_turn_8 (by decide) (fun c9 => ?_) (fun c9 => False.elim (by omega))
    refine lv_iconst (v := zI (-1)) hx hb wdX12_turn_32 rfl ?_
    exact e_i F w hr hlocks (Or.inr ⟨acI_n (fun h9 => nk9 ⟨h9.1, h9.2.1⟩), rfl, rfl⟩) wdX12_turn_33
theorem wdX12_marks_0 : decode cX12_marks 0 = .ok (.iconst 1, 1) := dq0 kk_4 (by decide +kernel)
theorem wdX12_marks_1 : decode cX12_marks 1 = .ok (.iload_n 1, 1) := dq0 kk_27 (by decide +kernel)
theorem wdX12_marks_2 : decode cX12_marks 2 = .ok (.ishl, 1) := dq0 kk_120 (by decide +kernel)
theorem wdX12_marks_3 : decode cX12_marks 3 = .ok (.istore 4, 2) := dqU kk_54 (by decide +kernel)
theorem wdX12_marks_5 : decode cX12_marks 5 = .ok (.aload_n 0, 1) := dq0 kk_42 (by decide +kernel)
theorem wdX12_marks_6 : decode cX12_marks 6 = .ok (.getfield 13, 3) := dqV kk_180 (by decide +kernel)
theorem wdX12_marks_9 : decode cX12_marks 9 = .ok (.bipush 26, 2) := dqS kk_16 (by decide +kernel)
theorem wdX12_marks_11 : decode cX12_marks 11 = .ok (.iload_n 2, 1) := dq0 kk_28 (by decide +kernel)
theorem wdX12_marks_12 : decode cX12_marks 12 = .ok (.ifCond .eq 16, 3) := dqT kk_153 (by decide +kernel)
theorem wdX12_marks_28 : decode cX12_marks 28 = .ok (.aload_n 0, 1) := dq0 kk_42 (by decide +kernel)
theorem wdX12_marks_29 : decode cX12_marks 29 = .ok (.getfield 13, 3) := dqV kk_180 (by decide +kernel)
theorem wdX12_marks_32 : decode cX12_marks 32 = .ok (.bipush 26, 2) := dqS kk_16 (by decide +kernel)
theorem wdX12_marks_34 : decode cX12_marks 34 = .ok (.iaload, 1) := dq0 kk_46 (by decide +kernel)
theorem wdX12_marks_35 : decode cX12_marks 35 = .ok (.iload 4, 2) := dqU kk_21 (by decide +kernel)
theorem wdX12_marks_37 : decode cX12_marks 37 = .ok (.iconst (-1), 1) := dq0 kk_2 (by decide +kernel)
theorem wdX12_marks_38 : decode cX12_marks 38 = .ok (.ixor, 1) := dq0 kk_130 (by decide +kernel)
theorem wdX12_marks_39 : decode cX12_marks 39 = .ok (.iand, 1) := dq0 kk_126 (by decide +kernel)
theorem wdX12_marks_40 : decode cX12_marks 40 = .ok (.iastore, 1) := dq0 kk_79 (by decide +kernel)
theorem wdX12_marks_41 : decode cX12_marks 41 = .ok (.aload_n 0, 1) := dq0 kk_42 (by decide +kernel)
theorem wdX12_marks_42 : decode cX12_marks 42 = .ok (.getfield 13, 3) := dqV kk_180 (by decide +kernel)
theorem wdX12_marks_45 : decode cX12_marks 45 = .ok (.bipush 27, 2) := dqS kk_16 (by decide +kernel)
theorem wdX12_marks_47 : decode cX12_marks 47 = .ok (.iload_n 3, 1) := dq0 kk_29 (by decide +kernel)
theorem wdX12_marks_48 : decode cX12_marks 48 = .ok (.ifCond .eq 16, 3) := dqT kk_153 (by decide +kernel)
theorem wdX12_marks_64 : decode cX12_marks 64 = .ok (.aload_n 0, 1) := dq0 kk_42 (by decide +kernel)
theorem wdX12_marks_65 : decode cX12_marks 65 = .ok (.getfield 13, 3) := dqV kk_180 (by decide +kernel)
theorem wdX12_marks_68 : decode cX12_marks 68 = .ok (.bipush 27, 2) := dqS kk_16 (by decide +kernel)
theorem wdX12_marks_70 : decode cX12_marks 70 = .ok (.iaload, 1) := dq0 kk_46 (by decide +kernel)
theorem wdX12_marks_71 : decode cX12_marks 71 = .ok (.iload 4, 2) := dqU kk_21 (by decide +kernel)
theorem wdX12_marks_73 : decode cX12_marks 73 = .ok (.iconst (-1), 1) := dq0 kk_2 (by decide +kernel)
theorem wdX12_marks_74 : decode cX12_marks 74 = .ok (.ixor, 1) := dq0 kk_130 (by decide +kernel)
theorem wdX12_marks_75 : decode cX12_marks 75 = .ok (.iand, 1) := dq0 kk_126 (by decide +kernel)
theorem wdX12_marks_76 : decode cX12_marks 76 = .ok (.iastore, 1) := dq0 kk_79 (by decide +kernel)
theorem wdX12_marks_77 : decode cX12_marks 77 = .ok (.return_, 1) := dq0 kk_177 (by decide +kernel)
theorem wdX12_marks_51 : decode cX12_marks 51 = .ok (.aload_n 0, 1) := dq0 kk_42 (by decide +kernel)
theorem wdX12_marks_52 : decode cX12_marks 52 = .ok (.getfield 13, 3) := dqV kk_180 (by decide +kernel)
theorem wdX12_marks_55 : decode cX12_marks 55 = .ok (.bipush 27, 2) := dqS kk_16 (by decide +kernel)
theorem wdX12_marks_57 : decode cX12_marks 57 = .ok (.iaload, 1) := dq0 kk_46 (by decide +kernel)
theorem wdX12_marks_58 : decode cX12_marks 58 = .ok (.iload 4, 2) := dqU kk_21 (by decide +kernel)
theorem wdX12_marks_60 : decode cX12_marks 60 = .ok (.ior, 1) := dq0 kk_128 (by decide +kernel)
theorem wdX12_marks_61 : decode cX12_marks 61 = .ok (.goto 15, 3) := dqT kk_167 (by decide +kernel)
theorem wdX12_marks_15 : decode cX12_marks 15 = .ok (.aload_n 0, 1) := dq0 kk_42 (by decide +kernel)
theorem wdX12_marks_16 : decode cX12_marks 16 = .ok (.getfield 13, 3) := dqV kk_180 (by decide +kernel)
theorem wdX12_marks_19 : decode cX12_marks 19 = .ok (.bipush 26, 2) := dqS kk_16 (by decide +kernel)
theorem wdX12_marks_21 : decode cX12_marks 21 = .ok (.iaload, 1) := dq0 kk_46 (by decide +kernel)
theorem wdX12_marks_22 : decode cX12_marks 22 = .ok (.iload 4, 2) := dqU kk_21 (by decide +kernel)
theorem wdX12_marks_24 : decode cX12_marks 24 = .ok (.ior, 1) := dq0 kk_128 (by decide +kernel)
theorem wdX12_marks_25 : decode cX12_marks 25 = .ok (.goto 15, 3) := dqT kk_167 (by decide +kernel)
set_option maxRecDepth 4000 in
theorem m_marks {l : Launch} {D : va_G} {B : Nat} {cy : Nat → ClassId} {M : Mem} {n q hv ed : Nat} {K L : Nat → Nat} (hW : isR M 147 n q hv ed K L) (hwf : wf n q hv ed K L) {j9 b1 b2 : Nat} (hj9 : j9 < 12) (hb1 : b1 = 0 ∨ b1 = 1) (hb2 : b2 = 0 ∨ b2 = 1) : Cv l D B cy yX12_marks cX12_marks 5 0 0 [.ref (B + 146), .int (zI (j9 : Int)), .int (zI (b1 : Int)), .int (zI (b2 : Int))] M (fun M1 => isR M1 147 n q (sbit hv j9 b1) (sbit ed j9 b2) K L ∧ Fr1 M1 M 147) := by
  refine s_any (by decide) (Nat.le_of_ble_eq_true rfl) ?_
  intro p e s m below meth c ls F hr hlocks w hl
  have F : CallFix p m c cX12_marks 5 s _ TB RX12 := F
  have hx := F.1
  have hb := F.2.1
  have hl : lv_has ls 5 [(0, .ref (B + 146)), (1, .int (zI (j9 : Int))), (2, .int (zI (b1 : Int))), (3, .int (zI (b2 : Int)))] := hl
  have hhv := hwf.2.2.1
  have hed := hwf.2.2.2.1
  have hn12 := hwf.1
  refine lv_iconst (v := zI 1) hx hb wdX12_marks_0 rfl ?_
  refine lv_iload_n hx hb wdX12_marks_1 rfl (lv_at hl 1 rfl) ?_
  refine lv_ishl hx hb wdX12_marks_2 ?_
  refine r_val (v := (zI (((2 ^ j9) : Nat) : Int))) (zb_shl (n := j9) (by omega)) ?_
  have q1 := p2_b (n := j9) (by omega)
  refine lv_istore (lv' := [(4, .int (zI (((2 ^ j9) : Nat) : Int))), (0, .ref (B + 146)), (1, .int (zI (j9 : Int))), (2, .int (zI (b1 : Int))), (3, .int (zI (b2 : Int)))]) hx hb wdX12_marks_3 hl (by decide) rfl (fun ls hl => ?_)
  refine lv_aload_n hx hb wdX12_marks_5 rfl (lv_at hl 1 rfl) ?_
  refine f_12_1 F w (a := 146) rfl wtb_179 wdX12_marks_6 ?_
  refine lv_bipush (v := zI 26) hx hb wdX12_marks_9 (by decide) ?_
  refine lv_iload_n hx hb wdX12_marks_11 rfl (lv_at hl 3 rfl) ?_
  refine z_if_eq (tgt := 28) hx hb (by omega) wdX12_marks_12 (by decide) (fun c2 => ?_) (fun c2 => ?_)
  · refine lv_aload_n hx hb wdX12_marks_28 rfl (lv_at hl 1 rfl) ?_
    refine f_12_1 F w (a := 146) rfl wtb_179 wdX12_marks_29 ?_
    refine lv_bipush (v := zI 26) hx hb wdX12_marks_32 (by decide) ?_
    refine g_iald F w (a := 147) rfl (j := 26) ⟨by decide, by decide⟩ (by omega) wdX12_marks_34 ?_
    refine r_val (v := (zI (hv : Int))) (hW.2.2.1) ?_
    refine lv_iload hx hb wdX12_marks_35 (lv_at hl 0 rfl) ?_
    refine lv_iconst (v := zI (-1)) hx hb wdX12_marks_37 rfl ?_
    refine lv_ixor hx hb wdX12_marks_38 ?_
    refine lv_iand hx hb wdX12_marks_39 ?_
    refine r_val (v := (zI (((andn hv (2 ^ j9)) : Nat) : Int))) (zb_andn _ _) ?_
    have q4 := andn_le hv (2 ^ j9)
    refine r_val (v := zI ((sbit hv j9 b1 : Nat) : Int)) (congrArg zI (congrArg (fun q9 : Nat => (q9 : Int)) (sbit_0 (by omega)).symm)) ?_
    refine g_iast F w (a := 147) rfl (j := 26) ⟨by decide, by decide⟩ (by omega) wdX12_marks_40 (fun H locs w => ?_)
    refine lv_aload_n hx hb wdX12_marks_41 rfl (lv_at hl 1 rfl) ?_
    refine f_12_1 F w (a := 146) rfl wtb_179 wdX12_marks_42 ?_
    refine lv_bipush (v := zI 27) hx hb wdX12_marks_45 (by decide) ?_
    refine lv_iload_n hx hb wdX12_marks_47 rfl (lv_at hl 4 rfl) ?_
    refine z_if_eq (tgt := 64) hx hb (by omega) wdX12_marks_48 (by decide) (fun c5 => ?_) (fun c5 => ?_)
    · refine lv_aload_n hx hb wdX12_marks_64 rfl (lv_at hl 1 rfl) ?_
      refine f_12_1 F w (a := 146) rfl wtb_179 wdX12_marks_65 ?_
      refine lv_bipush (v := zI 27) hx hb wdX12_marks_68 (by decide) ?_
      refine g_iald F w (a := 147) rfl (j := 27) ⟨by decide, by decide⟩ (by omega) wdX12_marks_70 ?_
      refine r_val (v := (zI (ed : Int))) ((st_ne (Or.inr (by omega))).trans (hW.2.2.2.1)) ?_
      refine lv_iload hx hb wdX12_marks_71 (lv_at hl 0 rfl) ?_
      refine lv_iconst (v := zI (-1)) hx hb wdX12_marks_73 rfl ?_
      refine lv_ixor hx hb wdX12_marks_74 ?_
      refine lv_iand hx hb wdX12_marks_75 ?_
      refine r_val (v := (zI (((andn ed (2 ^ j9)) : Nat) : Int))) (zb_andn _ _) ?_
      have q7 := andn_le ed (2 ^ j9)
      refine r_val (v := zI ((sbit ed j9 b2 : Nat) : Int)) (congrArg zI (congrArg (fun q9 : Nat => (q9 : Int)) (sbit_0 (by omega)).symm)) ?_
      refine g_iast F w (a := 147) rfl (j := 27) ⟨by decide, by decide⟩ (by omega) wdX12_marks_76 (fun H locs w => ?_)
      exact e_v F w hr hlocks ⟨reW (rhW hW hn12) hn12, Fr1.tr Fr1.s Fr1.s⟩ wdX12_marks_77
    · refine lv_aload_n hx hb wdX12_marks_51 rfl (lv_at hl 1 rfl) ?_
      refine f_12_1 F w (a := 146) rfl wtb_179 wdX12_marks_52 ?_
      refine lv_bipush (v := zI 27) hx hb wdX12_marks_55 (by decide) ?_
      refine g_iald F w (a := 147) rfl (j := 27) ⟨by decide, by decide⟩ (by omega) wdX12_marks_57 ?_
      refine r_val (v := (zI (ed : Int))) ((st_ne (Or.inr (by omega))).trans (hW.2.2.2.1)) ?_
      refine lv_iload hx hb wdX12_marks_58 (lv_at hl 0 rfl) ?_
      refine lv_ior hx hb wdX12_marks_60 ?_
      refine r_val (v := (zI (((ed ||| (2 ^ j9)) : Nat) : Int))) (zb_or ed (2 ^ j9)) ?_
      have q8 := or_lt12 (a := ed) (b := (2 ^ j9)) (by omega) (by omega)
      refine lv_goto (tgt := 76) hx hb wdX12_marks_61 (by decide) ?_
      refine r_val (v := zI ((sbit ed j9 b2 : Nat) : Int)) (congrArg zI (congrArg (fun q9 : Nat => (q9 : Int)) (sbit_1 (by omega)).symm)) ?_
      refine g_iast F w (a := 147) rfl (j := 27) ⟨by decide, by decide⟩ (by omega) wdX12_marks_76 (fun H locs w => ?_)
      exact e_v F w hr hlocks ⟨reW (rhW hW hn12) hn12, Fr1.tr Fr1.s Fr1.s⟩ wdX12_marks_77
  · refine lv_aload_n hx hb wdX12_marks_15 rfl (lv_at hl 1 rfl) ?_
    refine f_12_1 F w (a := 146) rfl wtb_179 wdX12_marks_16 ?_
    refine lv_bipush (v := zI 26) hx hb wdX12_marks_19 (by decide) ?_
    refine g_iald F w (a := 147) rfl (j := 26) ⟨by decide, by decide⟩ (by omega) wdX12_marks_21 ?_
    refine r_val (v := (zI (hv : Int))) (hW.2.2.1) ?_
    refine lv_iload hx hb wdX12_marks_22 (lv_at hl 0 rfl) ?_
    refine lv_ior hx hb wdX12_marks_24 ?_
    refine r_val (v := (zI (((hv ||| (2 ^ j9)) : Nat) : Int))) (zb_or hv (2 ^ j9)) ?_
    have q9 := or_lt12 (a := hv) (b := (2 ^ j9)) (by omega) (by omega)
    refine lv_goto (tgt := 40) hx hb wdX12_marks_25 (by decide) ?_
    refine r_val (v := zI ((sbit hv j9 b1 : Nat) : Int)) (congrArg zI (congrArg (fun q9 : Nat => (q9 : Int)) (sbit_1 (by omega)).symm)) ?_
    refine g_iast F w (a := 147) rfl (j := 26) ⟨by decide, by decide⟩ (by omega) wdX12_marks_40 (fun H locs w => ?_)
    refine lv_aload_n hx hb wdX12_marks_41 rfl (lv_at hl 1 rfl) ?_
    refine f_12_1 F w (a := 146) rfl wtb_179 wdX12_marks_42 ?_
    refine lv_bipush (v := zI 27) hx hb wdX12_marks_45 (by decide) ?_
    refine lv_iload_n hx hb wdX12_marks_47 rfl (lv_at hl 4 rfl) ?_
    refine z_if_eq (tgt := 64) hx hb (by omega) wdX12_marks_48 (by decide) (fun c10 => ?_) (fun c10 => ?_)
    · refine lv_aload_n hx hb wdX12_marks_64 rfl (lv_at hl 1 rfl) ?_
      refine f_12_1 F w (a := 146) rfl wtb_179 wdX12_marks_65 ?_
      refine lv_bipush (v := zI 27) hx hb wdX12_marks_68 (by decide) ?_
      refine g_iald F w (a := 147) rfl (j := 27) ⟨by decide, by decide⟩ (by omega) wdX12_marks_70 ?_
      refine r_val (v := (zI (ed : Int))) ((st_ne (Or.inr (by omega))).trans (hW.2.2.2.1)) ?_
      refine lv_iload hx hb wdX12_marks_71 (lv_at hl 0 rfl) ?_
      refine lv_iconst (v := zI (-1)) hx hb wdX12_marks_73 rfl ?_
      refine lv_ixor hx hb wdX12_marks_74 ?_
      refine lv_iand hx hb wdX12_marks_75 ?_
      refine r_val (v := (zI (((andn ed (2 ^ j9)) : Nat) : Int))) (zb_andn _ _) ?_
      have q12 := andn_le ed (2 ^ j9)
      refine r_val (v := zI ((sbit ed j9 b2 : Nat) : Int)) (congrArg zI (congrArg (fun q9 : Nat => (q9 : Int)) (sbit_0 (by omega)).symm)) ?_
      refine g_iast F w (a := 147) rfl (j := 27) ⟨by decide, by decide⟩ (by omega) wdX12_marks_76 (fun H locs w => ?_)
      exact e_v F w hr hlocks ⟨reW (rhW hW hn12) hn12, Fr1.tr Fr1.s Fr1.s⟩ wdX12_marks_77
    · refine lv_aload_n hx hb wdX12_marks_51 rfl (lv_at hl 1 rfl) ?_
      refine f_12_1 F w (a := 146) rfl wtb_179 wdX12_marks_52 ?_
      refine lv_bipush (v := zI 27) hx hb wdX12_marks_55 (by decide) ?_
      refine g_iald F w (a := 147) rfl (j := 27) ⟨by decide, by decide⟩ (by omega) wdX12_marks_57 ?_
      refine r_val (v := (zI (ed : Int))) ((st_ne (Or.inr (by omega))).trans (hW.2.2.2.1)) ?_
      refine lv_iload hx hb wdX12_marks_58 (lv_at hl 0 rfl) ?_
      refine lv_ior hx hb wdX12_marks_60 ?_
      refine r_val (v := (zI (((ed ||| (2 ^ j9)) : Nat) : Int))) (zb_or ed (2 ^ j9)) ?_
      have q13 := or_lt12 (a := ed) (b := (2 ^ j9)) (by omega) (by omega)
      refine lv_goto (tgt := 76) hx hb wdX12_marks_61 (by decide) ?_
      refine r_val (v := zI ((sbit ed j9 b2 : Nat) : Int)) (congrArg zI (congrArg (fun q9 : Nat => (q9 : Int)) (sbit_1 (by omega)).symm)) ?_
      refine g_iast F w (a := 147) rfl (j := 27) ⟨by decide, by decide⟩ (by omega) wdX12_marks_76 (fun H locs w => ?_)
      exact e_v F w hr hlocks ⟨reW (rhW hW hn12) hn12, Fr1.tr Fr1.s Fr1.s⟩ wdX12_marks_77
theorem wdX12_grow_0 : decode cX12_grow 0 = .ok (.aload_n 0, 1) := dq0 kk_42 (by decide +kernel)
theorem wdX12_grow_1 : decode cX12_grow 1 = .ok (.getfield 13, 3) := dqV kk_180 (by decide +kernel)
theorem wdX12_grow_4 : decode cX12_grow 4 = .ok (.bipush 25, 2) := dqS kk_16 (by decide +kernel)
theorem wdX12_grow_6 : decode cX12_grow 6 = .ok (.iaload, 1) := dq0 kk_46 (by decide +kernel)
theorem wdX12_grow_7 : decode cX12_grow 7 = .ok (.istore_n 3, 1) := dq0 kk_62 (by decide +kernel)
theorem wdX12_grow_8 : decode cX12_grow 8 = .ok (.iload_n 3, 1) := dq0 kk_29 (by decide +kernel)
theorem wdX12_grow_9 : decode cX12_grow 9 = .ok (.bipush 12, 2) := dqS kk_16 (by decide +kernel)
theorem wdX12_grow_11 : decode cX12_grow 11 = .ok (.if_icmp .ne 5, 3) := dqT kk_160 (by decide +kernel)
theorem wdX12_grow_16 : decode cX12_grow 16 = .ok (.aload_n 0, 1) := dq0 kk_42 (by decide +kernel)
theorem wdX12_grow_17 : decode cX12_grow 17 = .ok (.invokevirtual 242, 3) := dqV kk_182 (by decide +kernel)
theorem wdX12_grow_20 : decode cX12_grow 20 = .ok (.aload_n 0, 1) := dq0 kk_42 (by decide +kernel)
theorem wdX12_grow_21 : decode cX12_grow 21 = .ok (.getfield 13, 3) := dqV kk_180 (by decide +kernel)
theorem wdX12_grow_24 : decode cX12_grow 24 = .ok (.bipush 25, 2) := dqS kk_16 (by decide +kernel)
theorem wdX12_grow_26 : decode cX12_grow 26 = .ok (.dup2, 1) := dq0 kk_92 (by decide +kernel)
theorem wdX12_grow_27 : decode cX12_grow 27 = .ok (.iaload, 1) := dq0 kk_46 (by decide +kernel)
theorem wdX12_grow_28 : decode cX12_grow 28 = .ok (.iconst 1, 1) := dq0 kk_4 (by decide +kernel)
theorem wdX12_grow_29 : decode cX12_grow 29 = .ok (.iadd, 1) := dq0 kk_96 (by decide +kernel)
theorem wdX12_grow_30 : decode cX12_grow 30 = .ok (.iastore, 1) := dq0 kk_79 (by decide +kernel)
theorem wdX12_grow_31 : decode cX12_grow 31 = .ok (.aload_n 0, 1) := dq0 kk_42 (by decide +kernel)
theorem wdX12_grow_32 : decode cX12_grow 32 = .ok (.iload_n 3, 1) := dq0 kk_29 (by decide +kernel)
theorem wdX12_grow_33 : decode cX12_grow 33 = .ok (.iload_n 1, 1) := dq0 kk_27 (by decide +kernel)
theorem wdX12_grow_34 : decode cX12_grow 34 = .ok (.iload_n 2, 1) := dq0 kk_28 (by decide +kernel)
theorem wdX12_grow_35 : decode cX12_grow 35 = .ok (.invokevirtual 245, 3) := dqV kk_182 (by decide +kernel)
theorem wtk_X12_marks : Cond.code yX12_marks cX12_marks 5 none ∈ TB := tbm (tc6 (List.mem_of_getElem? (i := 36) rfl)) rfl
theorem wgc_X12_marks : GoodIn TB (cw yX12_marks cX12_marks 5 none) := goodIn_c2 wtk_X12_marks
theorem wtb_288 : Cond.methodLink "ToneLinesModel" 245 yX12_marks ∈ TB := tbm (tc6 (List.mem_of_getElem? (i := 33) rfl)) rfl
theorem wtb_289 : Cond.instanceMethod yX12_marks ∈ TB := tbm (tc6 (List.mem_of_getElem? (i := 35) rfl)) rfl
theorem wtb_290 : Cond.selects "ToneLinesModel" yX12_marks yX12_marks ∈ TB := tbp (List.mem_of_getElem? (i := 51) rfl) rfl
theorem wgv_X12_245 : GoodIn TB (wsV RX12 245 RX12 yX12_marks (cw yX12_marks cX12_marks 5 none)) := goodIn_4 wtb_288 wtb_289 wtb_290 wtb_105 wgc_X12_marks
theorem whv_X12_marks : yX12_marks.cls = RX12 ∧ yX12_marks.cls ≠ "java/lang/invoke/MethodHandle" ∧ yX12_marks.cls ≠ "java/lang/invoke/VarHandle" ∧ (parseMethodDescriptor yX12_marks.desc).map (fun d => d.parameters.length) = some 3 := by decide +kernel
theorem wdX12_grow_38 : decode cX12_grow 38 = .ok (.iconst 1, 1) := dq0 kk_4 (by decide +kernel)
theorem wdX12_grow_39 : decode cX12_grow 39 = .ok (.ireturn, 1) := dq0 kk_172 (by decide +kernel)
theorem wdX12_grow_14 : decode cX12_grow 14 = .ok (.iconst 0, 1) := dq0 kk_3 (by decide +kernel)
theorem wdX12_grow_15 : decode cX12_grow 15 = .ok (.ireturn, 1) := dq0 kk_172 (by decide +kernel)
set_option maxRecDepth 4000 in
theorem m_grow {l : Launch} {D : va_G} {B : Nat} {cy : Nat → ClassId} {M : Mem} {Ps : Nat → Nat → Int} {mr k q hv ed : Nat} {o : Wo} {Hs : Nat → Fw} (hS : MS M Ps mr (q, hv, ed, o) Hs k) {b1 b2 : Nat} (hb1 : b1 = 0 ∨ b1 = 1) (hb2 : b2 = 0 ∨ b2 = 1) : Ci l D B cy yX12_grow cX12_grow 4 (some .boolean) 1 24 [.ref (B + 146), .int (zI (b1 : Int)), .int (zI (b2 : Int))] M (fun r M1 => AR Ps mr Hs k (q, hv, ed, o) (acGrow b1 b2 (q, hv, ed, o)) 1 0 M r M1) := by
  refine s_any (by decide) (Nat.le_of_ble_eq_true rfl) ?_
  intro p e s m below meth c ls F hr hlocks w hl
  have F : CallFix p m c cX12_grow 4 s _ TB RX12 := F
  have hx := F.1
  have hb := F.2.1
  have hl : lv_has ls 4 [(0, .ref (B + 146)), (1, .int (zI (b1 : Int))), (2, .int (zI (b2 : Int)))] := hl
  have hm8 := hS.1.1
  have hk12 := hS.2.2.2.2.1
  have hC : TW M q hv ed o := hS.T
  have hW : isR M 147 o.1 q hv ed o.2.1 o.2.2 := hC.1
  have hwf := hC.wf
  have hKL := hwf.2.2.2.2
  have hn12 := hwf.1
  have hq12 := hwf.2.1
  have hhv := hwf.2.2.1
  have hed := hwf.2.2.2.1
  refine lv_aload_n hx hb wdX12_grow_0 rfl (lv_at hl 0 rfl) ?_
  refine f_12_1 F w (a := 146) rfl wtb_179 wdX12_grow_1 ?_
  refine lv_bipush (v := zI 25) hx hb wdX12_grow_4 (by decide) ?_
  refine g_iald F w (a := 147) rfl (j := 25) ⟨by decide, by decide⟩ (by omega) wdX12_grow_6 ?_
  refine r_val (v := (zI (q : Int))) (hW.2.1) ?_
  refine lv_istore_n (lv' := [(3, .int (zI (q : Int))), (0, .ref (B + 146)), (1, .int (zI (b1 : Int))), (2, .int (zI (b2 : Int)))]) hx hb wdX12_grow_7 rfl hl (by decide) rfl (fun ls hl => ?_)
  refine lv_iload_n hx hb wdX12_grow_8 rfl (lv_at hl 0 rfl) ?_
  refine lv_bipush (v := zI 12) hx hb wdX12_grow_9 (by decide) ?_
  refine z_icmp_ne (tgt := 16) hx hb (by omega) (by omega) wdX12_grow_11 (by decide) (fun c1 => ?_) (fun c1 => ?_)
  · refine lv_aload_n hx hb wdX12_grow_16 rfl (lv_at hl 1 rfl) ?_
    refine k_Vv F w (As := []) (rest := []) (a := 146) (kd_lt (a := 146) (show kd 146 = (12, 0, 0) from rfl) (by decide)) (sh_12 rfl _ _) rfl (m_keeps hS) wgv_X12_242 whv_X12_keeps ⟨(Nat.le_of_ble_eq_true rfl), (Nat.le_of_ble_eq_true rfl)⟩ hl.1 rfl (Nat.le_of_ble_eq_true rfl) ⟨Nat.zero_le _, Nat.zero_le _⟩ wdX12_grow_17 (fun Ma2 H locs hp w => ?_)
    rcases hp with ⟨hS1, hB1⟩
    have hC1 : TW Ma2 q hv ed o := hS1.T
    have hW1 : isR Ma2 147 o.1 q hv ed o.2.1 o.2.2 := hC1.1
    refine lv_aload_n hx hb wdX12_grow_20 rfl (lv_at hl 1 rfl) ?_
    refine f_12_1 F w (a := 146) rfl wtb_179 wdX12_grow_21 ?_
    refine lv_bipush (v := zI 25) hx hb wdX12_grow_24 (by decide) ?_
    refine lv_dup2_11 hx hb wdX12_grow_26 rfl rfl ?_
    refine g_iald F w (a := 147) rfl (j := 25) ⟨by decide, by decide⟩ (by omega) wdX12_grow_27 ?_
    refine r_val (v := (zI (q : Int))) (hW1.2.1) ?_
    refine lv_iconst (v := zI 1) hx hb wdX12_grow_28 rfl ?_
    refine z_iadd (z := (((q + 1) : Nat) : Int)) hx hb wdX12_grow_29 (by omega) ?_
    refine g_iast F w (a := 147) rfl (j := 25) ⟨by decide, by decide⟩ (by omega) wdX12_grow_30 (fun H locs w => ?_)
    refine lv_aload_n hx hb wdX12_grow_31 rfl (lv_at hl 1 rfl) ?_
    refine lv_iload_n hx hb wdX12_grow_32 rfl (lv_at hl 0 rfl) ?_
    refine lv_iload_n hx hb wdX12_grow_33 rfl (lv_at hl 2 rfl) ?_
    refine lv_iload_n hx hb wdX12_grow_34 rfl (lv_at hl 3 rfl) ?_
    refine k_Vv F w (As := [.int (zI (q : Int)), .int (zI (b1 : Int)), .int (zI (b2 : Int))]) (rest := []) (a := 146) (kd_lt (a := 146) (show kd 146 = (12, 0, 0) from rfl) (by decide)) (sh_12 rfl _ _) rfl (m_marks (rqW hW1 hn12) ⟨hn12, by omega, hhv, hed, hKL⟩ (j9 := q) (b1 := b1) (b2 := b2) (by omega) hb1 hb2) wgv_X12_245 whv_X12_marks ⟨(Nat.le_of_ble_eq_true rfl), (Nat.le_of_ble_eq_true rfl)⟩ hl.1 rfl (Nat.le_of_ble_eq_true rfl) ⟨Nat.zero_le _, Nat.zero_le _⟩ wdX12_grow_35 (fun Ma3 H locs hp w => ?_)
    rcases hp with ⟨hW2, hF2⟩
    refine lv_iconst (v := zI 1) hx hb wdX12_grow_38 rfl ?_
    exact e_z F w hr hlocks (nar_z (by omega)) (Or.inl ⟨_, acI_y (by show q < 12; omega), rfl, hS1.told (Fr1.tr Fr1.s hF2) hW2 ⟨okW_q hC1.2.1 (Nat.le_succ q) (by omega), sbit_lt hC1.2.2.1 (by omega), sbit_lt hC1.2.2.2 (by omega)⟩, FR.of hB1 (Fr1.tr Fr1.s hF2)⟩) wdX12_grow_39
  · refine lv_iconst (v := zI 0) hx hb wdX12_grow_14 rfl ?_
    exact e_z F w hr hlocks (nar_z (by omega)) (Or.inr ⟨acI_n (by show ¬ q < 12; omega), rfl, rfl⟩) wdX12_grow_15
theorem wdX12_mark_0 : decode cX12_mark 0 = .ok (.aload_n 0, 1) := dq0 kk_42 (by decide +kernel)
theorem wdX12_mark_1 : decode cX12_mark 1 = .ok (.getfield 13, 3) := dqV kk_180 (by decide +kernel)
theorem wdX12_mark_4 : decode cX12_mark 4 = .ok (.iload_n 1, 1) := dq0 kk_27 (by decide +kernel)
theorem wdX12_mark_5 : decode cX12_mark 5 = .ok (.invokestatic 94, 3) := dqV kk_184 (by decide +kernel)
theorem wdX12_mark_8 : decode cX12_mark 8 = .ok (.ifCond .eq 33, 3) := dqT kk_153 (by decide +kernel)
theorem wdX12_mark_11 : decode cX12_mark 11 = .ok (.aload_n 0, 1) := dq0 kk_42 (by decide +kernel)
theorem wdX12_mark_12 : decode cX12_mark 12 = .ok (.getfield 13, 3) := dqV kk_180 (by decide +kernel)
theorem wdX12_mark_15 : decode cX12_mark 15 = .ok (.bipush 26, 2) := dqS kk_16 (by decide +kernel)
theorem wdX12_mark_17 : decode cX12_mark 17 = .ok (.iaload, 1) := dq0 kk_46 (by decide +kernel)
theorem wdX12_mark_18 : decode cX12_mark 18 = .ok (.iload_n 1, 1) := dq0 kk_27 (by decide +kernel)
theorem wdX12_mark_19 : decode cX12_mark 19 = .ok (.invokestatic 51, 3) := dqV kk_184 (by decide +kernel)
theorem wdX12_mark_22 : decode cX12_mark 22 = .ok (.iload_n 2, 1) := dq0 kk_28 (by decide +kernel)
theorem wdX12_mark_23 : decode cX12_mark 23 = .ok (.if_icmp .ne 20, 3) := dqT kk_160 (by decide +kernel)
theorem wdX12_mark_43 : decode cX12_mark 43 = .ok (.aload_n 0, 1) := dq0 kk_42 (by decide +kernel)
theorem wdX12_mark_44 : decode cX12_mark 44 = .ok (.invokevirtual 242, 3) := dqV kk_182 (by decide +kernel)
theorem wdX12_mark_47 : decode cX12_mark 47 = .ok (.aload_n 0, 1) := dq0 kk_42 (by decide +kernel)
theorem wdX12_mark_48 : decode cX12_mark 48 = .ok (.iload_n 1, 1) := dq0 kk_27 (by decide +kernel)
theorem wdX12_mark_49 : decode cX12_mark 49 = .ok (.iload_n 2, 1) := dq0 kk_28 (by decide +kernel)
theorem wdX12_mark_50 : decode cX12_mark 50 = .ok (.iload_n 3, 1) := dq0 kk_29 (by decide +kernel)
theorem wdX12_mark_51 : decode cX12_mark 51 = .ok (.invokevirtual 245, 3) := dqV kk_182 (by decide +kernel)
theorem wdX12_mark_54 : decode cX12_mark 54 = .ok (.iconst 1, 1) := dq0 kk_4 (by decide +kernel)
theorem wdX12_mark_55 : decode cX12_mark 55 = .ok (.ireturn, 1) := dq0 kk_172 (by decide +kernel)
theorem wdX12_mark_26 : decode cX12_mark 26 = .ok (.aload_n 0, 1) := dq0 kk_42 (by decide +kernel)
theorem wdX12_mark_27 : decode cX12_mark 27 = .ok (.getfield 13, 3) := dqV kk_180 (by decide +kernel)
theorem wdX12_mark_30 : decode cX12_mark 30 = .ok (.bipush 27, 2) := dqS kk_16 (by decide +kernel)
theorem wdX12_mark_32 : decode cX12_mark 32 = .ok (.iaload, 1) := dq0 kk_46 (by decide +kernel)
theorem wdX12_mark_33 : decode cX12_mark 33 = .ok (.iload_n 1, 1) := dq0 kk_27 (by decide +kernel)
theorem wdX12_mark_34 : decode cX12_mark 34 = .ok (.invokestatic 51, 3) := dqV kk_184 (by decide +kernel)
theorem wdX12_mark_37 : decode cX12_mark 37 = .ok (.iload_n 3, 1) := dq0 kk_29 (by decide +kernel)
theorem wdX12_mark_38 : decode cX12_mark 38 = .ok (.if_icmp .ne 5, 3) := dqT kk_160 (by decide +kernel)
theorem wdX12_mark_41 : decode cX12_mark 41 = .ok (.iconst 0, 1) := dq0 kk_3 (by decide +kernel)
theorem wdX12_mark_42 : decode cX12_mark 42 = .ok (.ireturn, 1) := dq0 kk_172 (by decide +kernel)
set_option maxRecDepth 4000 in
theorem m_mark {l : Launch} {D : va_G} {B : Nat} {cy : Nat → ClassId} {M : Mem} {Ps : Nat → Nat → Int} {mr k q hv ed : Nat} {o : Wo} {Hs : Nat → Fw} (hS : MS M Ps mr (q, hv, ed, o) Hs k) {u9 : Int} (hu9 : rg u9) {b1 b2 : Nat} (hb1 : b1 = 0 ∨ b1 = 1) (hb2 : b2 = 0 ∨ b2 = 1) : Ci l D B cy yX12_mark cX12_mark 4 (some .boolean) 2 43 [.ref (B + 146), .int (zI u9), .int (zI (b1 : Int)), .int (zI (b2 : Int))] M (fun r M1 => AR Ps mr Hs k (q, hv, ed, o) (acMark u9 b1 b2 (q, hv, ed, o)) 1 0 M r M1) := by
  refine s_any (by decide) (Nat.le_of_ble_eq_true rfl) ?_
  intro p e s m below meth c ls F hr hlocks w hl
  have F : CallFix p m c cX12_mark 4 s _ TB RX12 := F
  have hx := F.1
  have hb := F.2.1
  have hl : lv_has ls 4 [(0, .ref (B + 146)), (1, .int (zI u9)), (2, .int (zI (b1 : Int))), (3, .int (zI (b2 : Int)))] := hl
  have hm8 := hS.1.1
  have hk12 := hS.2.2.2.2.1
  have hC : TW M q hv ed o := hS.T
  have hW : isR M 147 o.1 q hv ed o.2.1 o.2.2 := hC.1
  have hwf := hC.wf
  have hKL := hwf.2.2.2.2
  have hn12 := hwf.1
  have hq12 := hwf.2.1
  have hhv := hwf.2.2.1
  have hed := hwf.2.2.2.1
  refine lv_aload_n hx hb wdX12_mark_0 rfl (lv_at hl 0 rfl) ?_
  refine f_12_1 F w (a := 146) rfl wtb_179 wdX12_mark_1 ?_
  refine lv_iload_n hx hb wdX12_mark_4 rfl (lv_at hl 1 rfl) ?_
  refine k_Si F w (As := [.ref (B + 147), .int (zI u9)]) (rest := []) (s_X12_isSyllable (a := 147) rfl hW hwf (by omega)) wgs_X12_94 whs_X12_isSyllable ⟨(Nat.le_of_ble_eq_true rfl), (Nat.le_of_ble_eq_true rfl)⟩ hl.1 rfl (Nat.le_of_ble_eq_true rfl) ⟨Nat.zero_le _, Nat.zero_le _⟩ wdX12_mark_5 (fun r Ma1 H locs hp w => ?_)
  rcases hp with ⟨⟨j9, rfl, hj9, rfl⟩ | ⟨nj9, rfl⟩, hMe⟩
  · rw [hMe] at w
    refine z_if_eq (tgt := 41) hx hb (by omega) wdX12_mark_8 (by decide) (fun c2 => False.elim (by omega)) (fun c2 => ?_)
    refine lv_aload_n hx hb wdX12_mark_11 rfl (lv_at hl 0 rfl) ?_
    refine f_12_1 F w (a := 146) rfl wtb_179 wdX12_mark_12 ?_
    refine lv_bipush (v := zI 26) hx hb wdX12_mark_15 (by decide) ?_
    refine g_iald F w (a := 147) rfl (j := 26) ⟨by decide, by decide⟩ (by omega) wdX12_mark_17 ?_
    refine r_val (v := (zI (hv : Int))) (hW.2.2.1) ?_
    refine lv_iload_n hx hb wdX12_mark_18 rfl (lv_at hl 1 rfl) ?_
    refine k_Si F w (As := [.int (zI (hv : Int)), .int (zI (j9 : Int))]) (rest := []) (s_X12_isIn (m9 := hv) (k := j9) (by omega) (by omega)) wgs_X12_51 whs_X12_isIn ⟨(Nat.le_of_ble_eq_true rfl), (Nat.le_of_ble_eq_true rfl)⟩ hl.1 rfl (Nat.le_of_ble_eq_true rfl) ⟨Nat.zero_le _, Nat.zero_le _⟩ wdX12_mark_19 (fun r Ma3 H locs hp w => ?_)
    rcases hp with ⟨⟨b7, rfl⟩ | ⟨b7, rfl⟩, hMe⟩
    · rw [hMe] at w
      refine lv_iload_n hx hb wdX12_mark_22 rfl (lv_at hl 2 rfl) ?_
      refine z_icmp_ne (tgt := 43) hx hb (by omega) (by omega) wdX12_mark_23 (by decide) (fun c4 => ?_) (fun c4 => ?_)
      · refine lv_aload_n hx hb wdX12_mark_43 rfl (lv_at hl 0 rfl) ?_
        refine k_Vv F w (As := []) (rest := []) (a := 146) (kd_lt (a := 146) (show kd 146 = (12, 0, 0) from rfl) (by decide)) (sh_12 rfl _ _) rfl (m_keeps hS) wgv_X12_242 whv_X12_keeps ⟨(Nat.le_of_ble_eq_true rfl), (Nat.le_of_ble_eq_true rfl)⟩ hl.1 rfl (Nat.le_of_ble_eq_true rfl) ⟨Nat.zero_le _, Nat.zero_le _⟩ wdX12_mark_44 (fun Ma5 H locs hp w => ?_)
        rcases hp with ⟨hS1, hB1⟩
        have hC1 : TW Ma5 q hv ed o := hS1.T
        have hW1 : isR Ma5 147 o.1 q hv ed o.2.1 o.2.2 := hC1.1
        refine lv_aload_n hx hb wdX12_mark_47 rfl (lv_at hl 0 rfl) ?_
        refine lv_iload_n hx hb wdX12_mark_48 rfl (lv_at hl 1 rfl) ?_
        refine lv_iload_n hx hb wdX12_mark_49 rfl (lv_at hl 2 rfl) ?_
        refine lv_iload_n hx hb wdX12_mark_50 rfl (lv_at hl 3 rfl) ?_
        refine k_Vv F w (As := [.int (zI (j9 : Int)), .int (zI (b1 : Int)), .int (zI (b2 : Int))]) (rest := []) (a := 146) (kd_lt (a := 146) (show kd 146 = (12, 0, 0) from rfl) (by decide)) (sh_12 rfl _ _) rfl (m_marks hW1 hwf (j9 := j9) (b1 := b1) (b2 := b2) (by omega) hb1 hb2) wgv_X12_245 whv_X12_marks ⟨(Nat.le_of_ble_eq_true rfl), (Nat.le_of_ble_eq_true rfl)⟩ hl.1 rfl (Nat.le_of_ble_eq_true rfl) ⟨Nat.zero_le _, Nat.zero_le _⟩ wdX12_mark_51 (fun Ma6 H locs hp w => ?_)
        rcases hp with ⟨hW2, hF2⟩
        refine lv_iconst (v := zI 1) hx hb wdX12_mark_54 rfl ?_
        exact e_z F w hr hlocks (nar_z (by omega)) (Or.inl ⟨_, acI_y ⟨by show 0 ≤ (j9 : Int); omega, by show (j9 : Int) < (q : Int); omega, fun h9 => tb_hn b7 (by omega) h9.1⟩, rfl, hS1.told hF2 hW2 ⟨hC1.2.1, sbit_lt hC1.2.2.1 (by omega), sbit_lt hC1.2.2.2 (by omega)⟩, FR.of hB1 hF2⟩) wdX12_mark_55
      · refine lv_aload_n hx hb wdX12_mark_26 rfl (lv_at hl 0 rfl) ?_
        refine f_12_1 F w (a := 146) rfl wtb_179 wdX12_mark_27 ?_
        refine lv_bipush (v := zI 27) hx hb wdX12_mark_30 (by decide) ?_
        refine g_iald F w (a := 147) rfl (j := 27) ⟨by decide, by decide⟩ (by omega) wdX12_mark_32 ?_
        refine r_val (v := (zI (ed : Int))) (hW.2.2.2.1) ?_
        refine lv_iload_n hx hb wdX12_mark_33 rfl (lv_at hl 1 rfl) ?_
        refine k_Si F w (As := [.int (zI (ed : Int)), .int (zI (j9 : Int))]) (rest := []) (s_X12_isIn (m9 := ed) (k := j9) (by omega) (by omega)) wgs_X12_51 whs_X12_isIn ⟨(Nat.le_of_ble_eq_true rfl), (Nat.le_of_ble_eq_true rfl)⟩ hl.1 rfl (Nat.le_of_ble_eq_true rfl) ⟨Nat.zero_le _, Nat.zero_le _⟩ wdX12_mark_34 (fun r Ma7 H locs hp w => ?_)
        rcases hp with ⟨⟨b8, rfl⟩ | ⟨b8, rfl⟩, hMe⟩
        · rw [hMe] at w
          refine lv_iload_n hx hb wdX12_mark_37 rfl (lv_at hl 3 rfl) ?_
          refine z_icmp_ne (tgt := 43) hx hb (by omega) (by omega) wdX12_mark_38 (by decide) (fun c8 => ?_) (fun c8 => ?_)
          · refine lv_aload_n hx hb wdX12_mark_43 rfl (lv_at hl 0 rfl) ?_
            refine k_Vv F w (As := []) (rest := []) (a := 146) (kd_lt (a := 146) (show kd 146 = (12, 0, 0) from rfl) (by decide)) (sh_12 rfl _ _) rfl (m_keeps hS) wgv_X12_242 whv_X12_keeps ⟨(Nat.le_of_ble_eq_true rfl), (Nat.le_of_ble_eq_true rfl)⟩ hl.1 rfl (Nat.le_of_ble_eq_true rfl) ⟨Nat.zero_le _, Nat.zero_le _⟩ wdX12_mark_44 (fun Ma9 H locs hp w => ?_)
            rcases hp with ⟨hS1, hB1⟩
            have hC1 : TW Ma9 q hv ed o := hS1.T
            have hW1 : isR Ma9 147 o.1 q hv ed o.2.1 o.2.2 := hC1.1
            refine lv_aload_n hx hb wdX12_mark_47 rfl (lv_at hl 0 rfl) ?_
            refine lv_iload_n hx hb wdX12_mark_48 rfl (lv_at hl 1 rfl) ?_
            refine lv_iload_n hx hb wdX12_mark_49 rfl (lv_at hl 2 rfl) ?_
            refine lv_iload_n hx hb wdX12_mark_50 rfl (lv_at hl 3 rfl) ?_
            refine k_Vv F w (As := [.int (zI (j9 : Int)), .int (zI (b1 : Int)), .int (zI (b2 : Int))]) (rest := []) (a := 146) (kd_lt (a := 146) (show kd 146 = (12, 0, 0) from rfl) (by decide)) (sh_12 rfl _ _) rfl (m_marks hW1 hwf (j9 := j9) (b1 := b1) (b2 := b2) (by omega) hb1 hb2) wgv_X12_245 whv_X12_marks ⟨(Nat.le_of_ble_eq_true rfl), (Nat.le_of_ble_eq_true rfl)⟩ hl.1 rfl (Nat.le_of_ble_eq_true rfl) ⟨Nat.zero_le _, Nat.zero_le _⟩ wdX12_mark_51 (fun Ma10 H locs hp w => ?_)
            rcases hp with ⟨hW2, hF2⟩
            refine lv_iconst (v := zI 1) hx hb wdX12_mark_54 rfl ?_
            exact e_z F w hr hlocks (nar_z (by omega)) (Or.inl ⟨_, acI_y ⟨by show 0 ≤ (j9 : Int); omega, by show (j9 : Int) < (q : Int); omega, fun h9 => tb_hn b8 (by omega) h9.2⟩, rfl, hS1.told hF2 hW2 ⟨hC1.2.1, sbit_lt hC1.2.2.1 (by omega), sbit_lt hC1.2.2.2 (by omega)⟩, FR.of hB1 hF2⟩) wdX12_mark_55
          · refine lv_iconst (v := zI 0) hx hb wdX12_mark_41 rfl ?_
            exact e_z F w hr hlocks (nar_z (by omega)) (Or.inr ⟨acI_n (fun h9 => h9.2.2 ⟨tb_h b7 (by omega), tb_h b8 (by omega)⟩), rfl, rfl⟩) wdX12_mark_42
        · rw [hMe] at w
          refine lv_iload_n hx hb wdX12_mark_37 rfl (lv_at hl 3 rfl) ?_
          refine z_icmp_ne (tgt := 43) hx hb (by omega) (by omega) wdX12_mark_38 (by decide) (fun c11 => ?_) (fun c11 => ?_)
          · refine lv_aload_n hx hb wdX12_mark_43 rfl (lv_at hl 0 rfl) ?_
            refine k_Vv F w (As := []) (rest := []) (a := 146) (kd_lt (a := 146) (show kd 146 = (12, 0, 0) from rfl) (by decide)) (sh_12 rfl _ _) rfl (m_keeps hS) wgv_X12_242 whv_X12_keeps ⟨(Nat.le_of_ble_eq_true rfl), (Nat.le_of_ble_eq_true rfl)⟩ hl.1 rfl (Nat.le_of_ble_eq_true rfl) ⟨Nat.zero_le _, Nat.zero_le _⟩ wdX12_mark_44 (fun Ma12 H locs hp w => ?_)
            rcases hp with ⟨hS1, hB1⟩
            have hC1 : TW Ma12 q hv ed o := hS1.T
            have hW1 : isR Ma12 147 o.1 q hv ed o.2.1 o.2.2 := hC1.1
            refine lv_aload_n hx hb wdX12_mark_47 rfl (lv_at hl 0 rfl) ?_
            refine lv_iload_n hx hb wdX12_mark_48 rfl (lv_at hl 1 rfl) ?_
            refine lv_iload_n hx hb wdX12_mark_49 rfl (lv_at hl 2 rfl) ?_
            refine lv_iload_n hx hb wdX12_mark_50 rfl (lv_at hl 3 rfl) ?_
            refine k_Vv F w (As := [.int (zI (j9 : Int)), .int (zI (b1 : Int)), .int (zI (b2 : Int))]) (rest := []) (a := 146) (kd_lt (a := 146) (show kd 146 = (12, 0, 0) from rfl) (by decide)) (sh_12 rfl _ _) rfl (m_marks hW1 hwf (j9 := j9) (b1 := b1) (b2 := b2) (by omega) hb1 hb2) wgv_X12_245 whv_X12_marks ⟨(Nat.le_of_ble_eq_true rfl), (Nat.le_of_ble_eq_true rfl)⟩ hl.1 rfl (Nat.le_of_ble_eq_true rfl) ⟨Nat.zero_le _, Nat.zero_le _⟩ wdX12_mark_51 (fun Ma13 H locs hp w => ?_)
            rcases hp with ⟨hW2, hF2⟩
            refine lv_iconst (v := zI 1) hx hb wdX12_mark_54 rfl ?_
            exact e_z F w hr hlocks (nar_z (by omega)) (Or.inl ⟨_, acI_y ⟨by show 0 ≤ (j9 : Int); omega, by show (j9 : Int) < (q : Int); omega, fun h9 => tb_nn b8 (by omega) h9.2⟩, rfl, hS1.told hF2 hW2 ⟨hC1.2.1, sbit_lt hC1.2.2.1 (by omega), sbit_lt hC1.2.2.2 (by omega)⟩, FR.of hB1 hF2⟩) wdX12_mark_55
          · refine lv_iconst (v := zI 0) hx hb wdX12_mark_41 rfl ?_
            exact e_z F w hr hlocks (nar_z (by omega)) (Or.inr ⟨acI_n (fun h9 => h9.2.2 ⟨tb_h b7 (by omega), tb_n b8 (by omega)⟩), rfl, rfl⟩) wdX12_mark_42
    · rw [hMe] at w
      refine lv_iload_n hx hb wdX12_mark_22 rfl (lv_at hl 2 rfl) ?_
      refine z_icmp_ne (tgt := 43) hx hb (by omega) (by omega) wdX12_mark_23 (by decide) (fun c14 => ?_) (fun c14 => ?_)
      · refine lv_aload_n hx hb wdX12_mark_43 rfl (lv_at hl 0 rfl) ?_
        refine k_Vv F w (As := []) (rest := []) (a := 146) (kd_lt (a := 146) (show kd 146 = (12, 0, 0) from rfl) (by decide)) (sh_12 rfl _ _) rfl (m_keeps hS) wgv_X12_242 whv_X12_keeps ⟨(Nat.le_of_ble_eq_true rfl), (Nat.le_of_ble_eq_true rfl)⟩ hl.1 rfl (Nat.le_of_ble_eq_true rfl) ⟨Nat.zero_le _, Nat.zero_le _⟩ wdX12_mark_44 (fun Ma15 H locs hp w => ?_)
        rcases hp with ⟨hS1, hB1⟩
        have hC1 : TW Ma15 q hv ed o := hS1.T
        have hW1 : isR Ma15 147 o.1 q hv ed o.2.1 o.2.2 := hC1.1
        refine lv_aload_n hx hb wdX12_mark_47 rfl (lv_at hl 0 rfl) ?_
        refine lv_iload_n hx hb wdX12_mark_48 rfl (lv_at hl 1 rfl) ?_
        refine lv_iload_n hx hb wdX12_mark_49 rfl (lv_at hl 2 rfl) ?_
        refine lv_iload_n hx hb wdX12_mark_50 rfl (lv_at hl 3 rfl) ?_
        refine k_Vv F w (As := [.int (zI (j9 : Int)), .int (zI (b1 : Int)), .int (zI (b2 : Int))]) (rest := []) (a := 146) (kd_lt (a := 146) (show kd 146 = (12, 0, 0) from rfl) (by decide)) (sh_12 rfl _ _) rfl (m_marks hW1 hwf (j9 := j9) (b1 := b1) (b2 := b2) (by omega) hb1 hb2) wgv_X12_245 whv_X12_marks ⟨(Nat.le_of_ble_eq_true rfl), (Nat.le_of_ble_eq_true rfl)⟩ hl.1 rfl (Nat.le_of_ble_eq_true rfl) ⟨Nat.zero_le _, Nat.zero_le _⟩ wdX12_mark_51 (fun Ma16 H locs hp w => ?_)
        rcases hp with ⟨hW2, hF2⟩
        refine lv_iconst (v := zI 1) hx hb wdX12_mark_54 rfl ?_
        exact e_z F w hr hlocks (nar_z (by omega)) (Or.inl ⟨_, acI_y ⟨by show 0 ≤ (j9 : Int); omega, by show (j9 : Int) < (q : Int); omega, fun h9 => tb_nn b7 (by omega) h9.1⟩, rfl, hS1.told hF2 hW2 ⟨hC1.2.1, sbit_lt hC1.2.2.1 (by omega), sbit_lt hC1.2.2.2 (by omega)⟩, FR.of hB1 hF2⟩) wdX12_mark_55
      · refine lv_aload_n hx hb wdX12_mark_26 rfl (lv_at hl 0 rfl) ?_
        refine f_12_1 F w (a := 146) rfl wtb_179 wdX12_mark_27 ?_
        refine lv_bipush (v := zI 27) hx hb wdX12_mark_30 (by decide) ?_
        refine g_iald F w (a := 147) rfl (j := 27) ⟨by decide, by decide⟩ (by omega) wdX12_mark_32 ?_
        refine r_val (v := (zI (ed : Int))) (hW.2.2.2.1) ?_
        refine lv_iload_n hx hb wdX12_mark_33 rfl (lv_at hl 1 rfl) ?_
        refine k_Si F w (As := [.int (zI (ed : Int)), .int (zI (j9 : Int))]) (rest := []) (s_X12_isIn (m9 := ed) (k := j9) (by omega) (by omega)) wgs_X12_51 whs_X12_isIn ⟨(Nat.le_of_ble_eq_true rfl), (Nat.le_of_ble_eq_true rfl)⟩ hl.1 rfl (Nat.le_of_ble_eq_true rfl) ⟨Nat.zero_le _, Nat.zero_le _⟩ wdX12_mark_34 (fun r Ma17 H locs hp w => ?_)
        rcases hp with ⟨⟨b8, rfl⟩ | ⟨b8, rfl⟩, hMe⟩
        · rw [hMe] at w
          refine lv_iload_n hx hb wdX12_mark_37 rfl (lv_at hl 3 rfl) ?_
          refine z_icmp_ne (tgt := 43) hx hb (by omega) (by omega) wdX12_mark_38 (by decide) (fun c18 => ?_) (fun c18 => ?_)
          · refine lv_aload_n hx hb wdX12_mark_43 rfl (lv_at hl 0 rfl) ?_
            refine k_Vv F w (As := []) (rest := []) (a := 146) (kd_lt (a := 146) (show kd 146 = (12, 0, 0) from rfl) (by decide)) (sh_12 rfl _ _) rfl (m_keeps hS) wgv_X12_242 whv_X12_keeps ⟨(Nat.le_of_ble_eq_true rfl), (Nat.le_of_ble_eq_true rfl)⟩ hl.1 rfl (Nat.le_of_ble_eq_true rfl) ⟨Nat.zero_le _, Nat.zero_le _⟩ wdX12_mark_44 (fun Ma19 H locs hp w => ?_)
            rcases hp with ⟨hS1, hB1⟩
            have hC1 : TW Ma19 q hv ed o := hS1.T
            have hW1 : isR Ma19 147 o.1 q hv ed o.2.1 o.2.2 := hC1.1
            refine lv_aload_n hx hb wdX12_mark_47 rfl (lv_at hl 0 rfl) ?_
            refine lv_iload_n hx hb wdX12_mark_48 rfl (lv_at hl 1 rfl) ?_
            refine lv_iload_n hx hb wdX12_mark_49 rfl (lv_at hl 2 rfl) ?_
            refine lv_iload_n hx hb wdX12_mark_50 rfl (lv_at hl 3 rfl) ?_
            refine k_Vv F w (As := [.int (zI (j9 : Int)), .int (zI (b1 : Int)), .int (zI (b2 : Int))]) (rest := []) (a := 146) (kd_lt (a := 146) (show kd 146 = (12, 0, 0) from rfl) (by decide)) (sh_12 rfl _ _) rfl (m_marks hW1 hwf (j9 := j9) (b1 := b1) (b2 := b2) (by omega) hb1 hb2) wgv_X12_245 whv_X12_marks ⟨(Nat.le_of_ble_eq_true rfl), (Nat.le_of_ble_eq_true rfl)⟩ hl.1 rfl (Nat.le_of_ble_eq_true rfl) ⟨Nat.zero_le _, Nat.zero_le _⟩ wdX12_mark_51 (fun Ma20 H locs hp w => ?_)
            rcases hp with ⟨hW2, hF2⟩
            refine lv_iconst (v := zI 1) hx hb wdX12_mark_54 rfl ?_
            exact e_z F w hr hlocks (nar_z (by omega)) (Or.inl ⟨_, acI_y ⟨by show 0 ≤ (j9 : Int); omega, by show (j9 : Int) < (q : Int); omega, fun h9 => tb_hn b8 (by omega) h9.2⟩, rfl, hS1.told hF2 hW2 ⟨hC1.2.1, sbit_lt hC1.2.2.1 (by omega), sbit_lt hC1.2.2.2 (by omega)⟩, FR.of hB1 hF2⟩) wdX12_mark_55
          · refine lv_iconst (v := zI 0) hx hb wdX12_mark_41 rfl ?_
            exact e_z F w hr hlocks (nar_z (by omega)) (Or.inr ⟨acI_n (fun h9 => h9.2.2 ⟨tb_n b7 (by omega), tb_h b8 (by omega)⟩), rfl, rfl⟩) wdX12_mark_42
        · rw [hMe] at w
          refine lv_iload_n hx hb wdX12_mark_37 rfl (lv_at hl 3 rfl) ?_
          refine z_icmp_ne (tgt := 43) hx hb (by omega) (by omega) wdX12_mark_38 (by decide) (fun c21 => ?_) (fun c21 => ?_)
          · refine lv_aload_n hx hb wdX12_mark_43 rfl (lv_at hl 0 rfl) ?_
            refine k_Vv F w (As := []) (rest := []) (a := 146) (kd_lt (a := 146) (show kd 146 = (12, 0, 0) from rfl) (by decide)) (sh_12 rfl _ _) rfl (m_keeps hS) wgv_X12_242 whv_X12_keeps ⟨(Nat.le_of_ble_eq_true rfl), (Nat.le_of_ble_eq_true rfl)⟩ hl.1 rfl (Nat.le_of_ble_eq_true rfl) ⟨Nat.zero_le _, Nat.zero_le _⟩ wdX12_mark_44 (fun Ma22 H locs hp w => ?_)
            rcases hp with ⟨hS1, hB1⟩
            have hC1 : TW Ma22 q hv ed o := hS1.T
            have hW1 : isR Ma22 147 o.1 q hv ed o.2.1 o.2.2 := hC1.1
            refine lv_aload_n hx hb wdX12_mark_47 rfl (lv_at hl 0 rfl) ?_
            refine lv_iload_n hx hb wdX12_mark_48 rfl (lv_at hl 1 rfl) ?_
            refine lv_iload_n hx hb wdX12_mark_49 rfl (lv_at hl 2 rfl) ?_
            refine lv_iload_n hx hb wdX12_mark_50 rfl (lv_at hl 3 rfl) ?_
            refine k_Vv F w (As := [.int (zI (j9 : Int)), .int (zI (b1 : Int)), .int (zI (b2 : Int))]) (rest := []) (a := 146) (kd_lt (a := 146) (show kd 146 = (12, 0, 0) from rfl) (by decide)) (sh_12 rfl _ _) rfl (m_marks hW1 hwf (j9 := j9) (b1 := b1) (b2 := b2) (by omega) hb1 hb2) wgv_X12_245 whv_X12_marks ⟨(Nat.le_of_ble_eq_true rfl), (Nat.le_of_ble_eq_true rfl)⟩ hl.1 rfl (Nat.le_of_ble_eq_true rfl) ⟨Nat.zero_le _, Nat.zero_le _⟩ wdX12_mark_51 (fun Ma23 H locs hp w => ?_)
            rcases hp with ⟨hW2, hF2⟩
            refine lv_iconst (v := zI 1) hx hb wdX12_mark_54 rfl ?_
            exact e_z F w hr hlocks (nar_z (by omega)) (Or.inl ⟨_, acI_y ⟨by show 0 ≤ (j9 : Int); omega, by show (j9 : Int) < (q : Int); omega, fun h9 => tb_nn b8 (by omega) h9.2⟩, rfl, hS1.told hF2 hW2 ⟨hC1.2.1, sbit_lt hC1.2.2.1 (by omega), sbit_lt hC1.2.2.2 (by omega)⟩, FR.of hB1 hF2⟩) wdX12_mark_55
          · refine lv_iconst (v := zI 0) hx hb wdX12_mark_41 rfl ?_
            exact e_z F w hr hlocks (nar_z (by omega)) (Or.inr ⟨acI_n (fun h9 => h9.2.2 ⟨tb_n b7 (by omega), tb_n b8 (by omega)⟩), rfl, rfl⟩) wdX12_mark_42
  · rw [hMe] at w
    refine z_if_eq (tgt := 41) hx hb (by omega) wdX12_mark_8 (by decide) (fun c24 => ?_) (fun c24 => False.elim (by omega))
    refine lv_iconst (v := zI 0) hx hb wdX12_mark_41 rfl ?_
    exact e_z F w hr hlocks (nar_z (by omega)) (Or.inr ⟨acI_n (fun h9 => nj9 ⟨h9.1, h9.2.1⟩), rfl, rfl⟩) wdX12_mark_42
theorem wdX12_shrink_29 : decode cX12_shrink 29 = .ok (.iload_n 2, 1) := dq0 kk_28 (by decide +kernel)
theorem wdX12_shrink_30 : decode cX12_shrink 30 = .ok (.aload_n 0, 1) := dq0 kk_42 (by decide +kernel)
theorem wdX12_shrink_31 : decode cX12_shrink 31 = .ok (.getfield 13, 3) := dqV kk_180 (by decide +kernel)
theorem wdX12_shrink_34 : decode cX12_shrink 34 = .ok (.iconst 0, 1) := dq0 kk_3 (by decide +kernel)
theorem wdX12_shrink_35 : decode cX12_shrink 35 = .ok (.iaload, 1) := dq0 kk_46 (by decide +kernel)
theorem wdX12_shrink_36 : decode cX12_shrink 36 = .ok (.if_icmp .ge 26, 3) := dqT kk_162 (by decide +kernel)
theorem wdX12_shrink_39 : decode cX12_shrink 39 = .ok (.aload_n 0, 1) := dq0 kk_42 (by decide +kernel)
theorem wdX12_shrink_40 : decode cX12_shrink 40 = .ok (.getfield 13, 3) := dqV kk_180 (by decide +kernel)
theorem wdX12_shrink_43 : decode cX12_shrink 43 = .ok (.bipush 13, 2) := dqS kk_16 (by decide +kernel)
theorem wdX12_shrink_45 : decode cX12_shrink 45 = .ok (.iload_n 2, 1) := dq0 kk_28 (by decide +kernel)
theorem wdX12_shrink_46 : decode cX12_shrink 46 = .ok (.iadd, 1) := dq0 kk_96 (by decide +kernel)
theorem wdX12_shrink_47 : decode cX12_shrink 47 = .ok (.dup2, 1) := dq0 kk_92 (by decide +kernel)
theorem wdX12_shrink_48 : decode cX12_shrink 48 = .ok (.iaload, 1) := dq0 kk_46 (by decide +kernel)
theorem wdX12_shrink_49 : decode cX12_shrink 49 = .ok (.iconst 1, 1) := dq0 kk_4 (by decide +kernel)
theorem wdX12_shrink_50 : decode cX12_shrink 50 = .ok (.iload_n 1, 1) := dq0 kk_27 (by decide +kernel)
theorem wdX12_shrink_51 : decode cX12_shrink 51 = .ok (.ishl, 1) := dq0 kk_120 (by decide +kernel)
theorem wdX12_shrink_52 : decode cX12_shrink 52 = .ok (.iconst (-1), 1) := dq0 kk_2 (by decide +kernel)
theorem wdX12_shrink_53 : decode cX12_shrink 53 = .ok (.ixor, 1) := dq0 kk_130 (by decide +kernel)
theorem wdX12_shrink_54 : decode cX12_shrink 54 = .ok (.iand, 1) := dq0 kk_126 (by decide +kernel)
theorem wdX12_shrink_55 : decode cX12_shrink 55 = .ok (.iastore, 1) := dq0 kk_79 (by decide +kernel)
theorem wdX12_shrink_56 : decode cX12_shrink 56 = .ok (.iinc 2 1, 3) := dqI kk_132 (by decide +kernel)
theorem wdX12_shrink_59 : decode cX12_shrink 59 = .ok (.goto (-30), 3) := dqT kk_167 (by decide +kernel)
set_option maxRecDepth 4000 in
theorem lp_X12_shrink {p : Program} {l : Launch} {e : Env} {s : State} {m : MethodId} {args : Array Value} {below : List Frame} {meth : Method} {c : Code} {D : va_G} {B : Nat} {cy : Nat → ClassId} {H0 : Heap} {Q : State → Prop} {M : Mem} {R : Room} {q hv ed : Nat} {o : Wo} (F : CallFix p m c cX12_shrink 3 s args TB RX12) (hR1 : 0 ≤ R.frames) (hR2 : 0 ≤ R.locals) (hwf : wf o.1 q hv ed o.2.1 o.2.2) (kk : ∀ (j : Nat) (Nm : Mem) (H : Heap) (locs : List Loc) (ls : Array Slot), (isR Nm 147 o.1 q (sbit hv (q - 1) 0) (sbit ed (q - 1) 0) o.2.1 (shL (q - 1) o.2.2)) → (Fr1 Nm M 147) → Wd D B cy s H0 Nm H locs → lv_has ls 3 [(0, .ref (B + 146))] → W p l e R s m args below meth c H locs 0 0 Q (F0 m 62 ls [])) : ∀ (f : Nat) (j : Nat) (Nm : Mem), (j ≤ o.1) → (isR Nm 147 o.1 q (sbit hv (q - 1) 0) (sbit ed (q - 1) 0) o.2.1 (shJ (q - 1) j o.2.2)) → (Fr1 Nm M 147) → (o.1 ≤ j + f) → ∀ (H : Heap) (locs : List Loc) (ls : Array Slot), Wd D B cy s H0 Nm H locs → lv_has ls 3 [(2, .int (zI (j : Int))), (1, .int (zI (((q - 1) : Nat) : Int))), (0, .ref (B + 146))] → W p l e R s m args below meth c H locs 0 0 Q (F0 m 29 ls []) := by
  have hx := F.1
  have hb := F.2.1
  have hq12 := hwf.2.1
  intro f
  induction f with
  | zero =>
    intro j Nm i0 i1 i2 hf H locs ls w hl
    have hwf1 : wf o.1 (q - 1) hv ed o.2.1 (shJ (q - 1) j o.2.2) := wf_shJ hwf (by omega)
    have hKL1 := hwf1.2.2.2.2
    have hn1 := hwf1.1
    refine lv_iload_n hx hb wdX12_shrink_29 rfl (lv_at hl 0 rfl) ?_
    refine lv_aload_n hx hb wdX12_shrink_30 rfl (lv_at hl 2 rfl) ?_
    refine f_12_1 F w (a := 146) rfl wtb_179 wdX12_shrink_31 ?_
    refine lv_iconst (v := zI 0) hx hb wdX12_shrink_34 rfl ?_
    refine g_iald F w (a := 147) rfl (j := 0) ⟨by decide, by decide⟩ (by omega) wdX12_shrink_35 ?_
    refine r_val (v := (zI ((o.1 : Nat) : Int))) (i1.1) ?_
    refine z_icmp_ge (tgt := 62) hx hb (by omega) (by omega) wdX12_shrink_36 (by decide) (fun c1 => ?_) (fun c1 => False.elim (by omega))
    exact kk j Nm _ _ ls (by have h9 := i1; rw [show j = o.1 by omega] at h9; exact isR_shJ h9) i2 w (lv_sub hl [2] rfl)
  | succ f ih =>
    intro j Nm i0 i1 i2 hf H locs ls w hl
    have hwf1 : wf o.1 (q - 1) hv ed o.2.1 (shJ (q - 1) j o.2.2) := wf_shJ hwf (by omega)
    have hKL1 := hwf1.2.2.2.2
    have hn1 := hwf1.1
    refine lv_iload_n hx hb wdX12_shrink_29 rfl (lv_at hl 0 rfl) ?_
    refine lv_aload_n hx hb wdX12_shrink_30 rfl (lv_at hl 2 rfl) ?_
    refine f_12_1 F w (a := 146) rfl wtb_179 wdX12_shrink_31 ?_
    refine lv_iconst (v := zI 0) hx hb wdX12_shrink_34 rfl ?_
    refine g_iald F w (a := 147) rfl (j := 0) ⟨by decide, by decide⟩ (by omega) wdX12_shrink_35 ?_
    refine r_val (v := (zI ((o.1 : Nat) : Int))) (i1.1) ?_
    refine z_icmp_ge (tgt := 62) hx hb (by omega) (by omega) wdX12_shrink_36 (by decide) (fun c1 => ?_) (fun c1 => ?_)
    · exact kk j Nm _ _ ls (by have h9 := i1; rw [show j = o.1 by omega] at h9; exact isR_shJ h9) i2 w (lv_sub hl [2] rfl)
    · refine lv_aload_n hx hb wdX12_shrink_39 rfl (lv_at hl 2 rfl) ?_
      refine f_12_1 F w (a := 146) rfl wtb_179 wdX12_shrink_40 ?_
      refine lv_bipush (v := zI 13) hx hb wdX12_shrink_43 (by decide) ?_
      refine lv_iload_n hx hb wdX12_shrink_45 rfl (lv_at hl 0 rfl) ?_
      refine z_iadd (z := (((13 + j) : Nat) : Int)) hx hb wdX12_shrink_46 (by omega) ?_
      refine lv_dup2_11 hx hb wdX12_shrink_47 rfl rfl ?_
      refine g_iald F w (a := 147) rfl (j := (13 + j)) (ix_n (by omega)) (by omega) wdX12_shrink_48 ?_
      have hL1 := (hKL1 j (by omega)).2
      refine r_val (v := (zI (((shJ (q - 1) j o.2.2 j) : Nat) : Int))) (i1.2.2.2.2.2 j (by omega)) ?_
      refine lv_iconst (v := zI 1) hx hb wdX12_shrink_49 rfl ?_
      refine lv_iload_n hx hb wdX12_shrink_50 rfl (lv_at hl 1 rfl) ?_
      refine lv_ishl hx hb wdX12_shrink_51 ?_
      refine r_val (v := (zI (((2 ^ (q - 1)) : Nat) : Int))) (zb_shl (n := (q - 1)) (by omega)) ?_
      have q2 := p2_b (n := (q - 1)) (by omega)
      refine lv_iconst (v := zI (-1)) hx hb wdX12_shrink_52 rfl ?_
      refine lv_ixor hx hb wdX12_shrink_53 ?_
      refine lv_iand hx hb wdX12_shrink_54 ?_
      refine r_val (v := (zI (((andn (shJ (q - 1) j o.2.2 j) (2 ^ (q - 1))) : Nat) : Int))) (zb_andn _ _) ?_
      have q4 := andn_le (shJ (q - 1) j o.2.2 j) (2 ^ (q - 1))
      refine g_iast F w (a := 147) rfl (j := (13 + j)) (ix_n (by omega)) (by omega) wdX12_shrink_55 (fun H locs w => ?_)
      refine z_iinc (v := (((j + 1) : Nat) : Int)) (lv' := [(2, .int (zI (((j + 1) : Nat) : Int))), (1, .int (zI (((q - 1) : Nat) : Int))), (0, .ref (B + 146))]) hx hb wdX12_shrink_56 hl (k := 0) rfl (by omega) (by decide) rfl (fun ls hl => ?_)
      refine lv_goto (tgt := 29) hx hb wdX12_shrink_59 (by decide) ?_
      exact ih (j + 1) (st Nm 147 (13 + j) (zI (((andn (shJ (q - 1) j o.2.2 j) (2 ^ (q - 1))) : Nat) : Int))) (by omega) (by have h9 := rlW (t := j) (v := andn (shJ (q - 1) j o.2.2 j) (2 ^ (q - 1))) i1 hn1 (by omega); rw [shJ_s] at h9; exact h9) (Fr1.tr i2 Fr1.s) (by omega) _ _ ls w (lv_sub hl [0, 1, 2] rfl)
theorem wdX12_shrink_0 : decode cX12_shrink 0 = .ok (.aload_n 0, 1) := dq0 kk_42 (by decide +kernel)
theorem wdX12_shrink_1 : decode cX12_shrink 1 = .ok (.getfield 13, 3) := dqV kk_180 (by decide +kernel)
theorem wdX12_shrink_4 : decode cX12_shrink 4 = .ok (.bipush 25, 2) := dqS kk_16 (by decide +kernel)
theorem wdX12_shrink_6 : decode cX12_shrink 6 = .ok (.iaload, 1) := dq0 kk_46 (by decide +kernel)
theorem wdX12_shrink_7 : decode cX12_shrink 7 = .ok (.iconst 1, 1) := dq0 kk_4 (by decide +kernel)
theorem wdX12_shrink_8 : decode cX12_shrink 8 = .ok (.isub, 1) := dq0 kk_100 (by decide +kernel)
theorem wdX12_shrink_9 : decode cX12_shrink 9 = .ok (.istore_n 1, 1) := dq0 kk_60 (by decide +kernel)
theorem wdX12_shrink_10 : decode cX12_shrink 10 = .ok (.iload_n 1, 1) := dq0 kk_27 (by decide +kernel)
theorem wdX12_shrink_11 : decode cX12_shrink 11 = .ok (.ifCond .ge 5, 3) := dqT kk_156 (by decide +kernel)
theorem wdX12_shrink_16 : decode cX12_shrink 16 = .ok (.aload_n 0, 1) := dq0 kk_42 (by decide +kernel)
theorem wdX12_shrink_17 : decode cX12_shrink 17 = .ok (.invokevirtual 242, 3) := dqV kk_182 (by decide +kernel)
theorem wdX12_shrink_20 : decode cX12_shrink 20 = .ok (.aload_n 0, 1) := dq0 kk_42 (by decide +kernel)
theorem wdX12_shrink_21 : decode cX12_shrink 21 = .ok (.iload_n 1, 1) := dq0 kk_27 (by decide +kernel)
theorem wdX12_shrink_22 : decode cX12_shrink 22 = .ok (.iconst 0, 1) := dq0 kk_3 (by decide +kernel)
theorem wdX12_shrink_23 : decode cX12_shrink 23 = .ok (.iconst 0, 1) := dq0 kk_3 (by decide +kernel)
theorem wdX12_shrink_24 : decode cX12_shrink 24 = .ok (.invokevirtual 245, 3) := dqV kk_182 (by decide +kernel)
theorem wdX12_shrink_27 : decode cX12_shrink 27 = .ok (.iconst 0, 1) := dq0 kk_3 (by decide +kernel)
theorem wdX12_shrink_28 : decode cX12_shrink 28 = .ok (.istore_n 2, 1) := dq0 kk_61 (by decide +kernel)
theorem wdX12_shrink_62 : decode cX12_shrink 62 = .ok (.aload_n 0, 1) := dq0 kk_42 (by decide +kernel)
theorem wdX12_shrink_63 : decode cX12_shrink 63 = .ok (.getfield 13, 3) := dqV kk_180 (by decide +kernel)
theorem wdX12_shrink_66 : decode cX12_shrink 66 = .ok (.bipush 25, 2) := dqS kk_16 (by decide +kernel)
theorem wdX12_shrink_68 : decode cX12_shrink 68 = .ok (.dup2, 1) := dq0 kk_92 (by decide +kernel)
theorem wdX12_shrink_69 : decode cX12_shrink 69 = .ok (.iaload, 1) := dq0 kk_46 (by decide +kernel)
theorem wdX12_shrink_70 : decode cX12_shrink 70 = .ok (.iconst 1, 1) := dq0 kk_4 (by decide +kernel)
theorem wdX12_shrink_71 : decode cX12_shrink 71 = .ok (.isub, 1) := dq0 kk_100 (by decide +kernel)
theorem wdX12_shrink_72 : decode cX12_shrink 72 = .ok (.iastore, 1) := dq0 kk_79 (by decide +kernel)
theorem wdX12_shrink_73 : decode cX12_shrink 73 = .ok (.iconst 1, 1) := dq0 kk_4 (by decide +kernel)
theorem wdX12_shrink_74 : decode cX12_shrink 74 = .ok (.ireturn, 1) := dq0 kk_172 (by decide +kernel)
theorem wdX12_shrink_14 : decode cX12_shrink 14 = .ok (.iconst 0, 1) := dq0 kk_3 (by decide +kernel)
theorem wdX12_shrink_15 : decode cX12_shrink 15 = .ok (.ireturn, 1) := dq0 kk_172 (by decide +kernel)
set_option maxRecDepth 4000 in
theorem m_shrink {l : Launch} {D : va_G} {B : Nat} {cy : Nat → ClassId} {M : Mem} {Ps : Nat → Nat → Int} {mr k q hv ed : Nat} {o : Wo} {Hs : Nat → Fw} (hS : MS M Ps mr (q, hv, ed, o) Hs k) : Ci l D B cy yX12_shrink cX12_shrink 3 (some .boolean) 1 24 [.ref (B + 146)] M (fun r M1 => AR Ps mr Hs k (q, hv, ed, o) (acShrinkR (q, hv, ed, o)) 1 0 M r M1) := by
  refine s_any (by decide) (Nat.le_of_ble_eq_true rfl) ?_
  intro p e s m below meth c ls F hr hlocks w hl
  have F : CallFix p m c cX12_shrink 3 s _ TB RX12 := F
  have hx := F.1
  have hb := F.2.1
  have hl : lv_has ls 3 [(0, .ref (B + 146))] := hl
  have hm8 := hS.1.1
  have hk12 := hS.2.2.2.2.1
  have hC : TW M q hv ed o := hS.T
  have hW : isR M 147 o.1 q hv ed o.2.1 o.2.2 := hC.1
  have hwf := hC.wf
  have hKL := hwf.2.2.2.2
  have hn12 := hwf.1
  have hq12 := hwf.2.1
  have hhv := hwf.2.2.1
  have hed := hwf.2.2.2.1
  refine lv_aload_n hx hb wdX12_shrink_0 rfl (lv_at hl 0 rfl) ?_
  refine f_12_1 F w (a := 146) rfl wtb_179 wdX12_shrink_1 ?_
  refine lv_bipush (v := zI 25) hx hb wdX12_shrink_4 (by decide) ?_
  refine g_iald F w (a := 147) rfl (j := 25) ⟨by decide, by decide⟩ (by omega) wdX12_shrink_6 ?_
  refine r_val (v := (zI (q : Int))) (hW.2.1) ?_
  refine lv_iconst (v := zI 1) hx hb wdX12_shrink_7 rfl ?_
  refine z_isub (z := ((q : Int) - 1)) hx hb wdX12_shrink_8 (by omega) ?_
  refine lv_istore_n (lv' := [(1, .int (zI ((q : Int) - 1))), (0, .ref (B + 146))]) hx hb wdX12_shrink_9 rfl hl (by decide) rfl (fun ls hl => ?_)
  refine lv_iload_n hx hb wdX12_shrink_10 rfl (lv_at hl 0 rfl) ?_
  refine z_if_ge (tgt := 16) hx hb (by omega) wdX12_shrink_11 (by decide) (fun c1 => ?_) (fun c1 => ?_)
  · rw [show ((q : Int) - 1) = ((q - 1 : Nat) : Int) by omega] at hl
    refine lv_aload_n hx hb wdX12_shrink_16 rfl (lv_at hl 1 rfl) ?_
    refine k_Vv F w (As := []) (rest := []) (a := 146) (kd_lt (a := 146) (show kd 146 = (12, 0, 0) from rfl) (by decide)) (sh_12 rfl _ _) rfl (m_keeps hS) wgv_X12_242 whv_X12_keeps ⟨(Nat.le_of_ble_eq_true rfl), (Nat.le_of_ble_eq_true rfl)⟩ hl.1 rfl (Nat.le_of_ble_eq_true rfl) ⟨Nat.zero_le _, Nat.zero_le _⟩ wdX12_shrink_17 (fun Ma2 H locs hp w => ?_)
    rcases hp with ⟨hS1, hB1⟩
    have hC1 : TW Ma2 q hv ed o := hS1.T
    have hW1 : isR Ma2 147 o.1 q hv ed o.2.1 o.2.2 := hC1.1
    refine lv_aload_n hx hb wdX12_shrink_20 rfl (lv_at hl 1 rfl) ?_
    refine lv_iload_n hx hb wdX12_shrink_21 rfl (lv_at hl 0 rfl) ?_
    refine lv_iconst (v := zI 0) hx hb wdX12_shrink_22 rfl ?_
    refine lv_iconst (v := zI 0) hx hb wdX12_shrink_23 rfl ?_
    refine k_Vv F w (As := [.int (zI (((q - 1) : Nat) : Int)), .int (zI 0), .int (zI 0)]) (rest := []) (a := 146) (kd_lt (a := 146) (show kd 146 = (12, 0, 0) from rfl) (by decide)) (sh_12 rfl _ _) rfl (m_marks hW1 hwf (j9 := q - 1) (b1 := 0) (b2 := 0) (by omega) (Or.inl rfl) (Or.inl rfl)) wgv_X12_245 whv_X12_marks ⟨(Nat.le_of_ble_eq_true rfl), (Nat.le_of_ble_eq_true rfl)⟩ hl.1 rfl (Nat.le_of_ble_eq_true rfl) ⟨Nat.zero_le _, Nat.zero_le _⟩ wdX12_shrink_24 (fun Ma3 H locs hp w => ?_)
    rcases hp with ⟨hW2, hF2⟩
    refine lv_iconst (v := zI 0) hx hb wdX12_shrink_27 rfl ?_
    refine lv_istore_n (lv' := [(2, .int (zI 0)), (1, .int (zI (((q - 1) : Nat) : Int))), (0, .ref (B + 146))]) hx hb wdX12_shrink_28 rfl hl (by decide) rfl (fun ls hl => ?_)
    refine lp_X12_shrink  F (Nat.le_of_ble_eq_true rfl) (Nat.le_of_ble_eq_true rfl) hwf (fun j Nm H locs ls x0 x1 w hl => ?_) o.1 0 Ma3 (by omega) (by have h9 := hW2; exact ⟨h9.1, h9.2.1, h9.2.2.1, h9.2.2.2.1, h9.2.2.2.2.1, fun k8 hk8 => (h9.2.2.2.2.2 k8 hk8).trans (by unfold shJ; rw [if_neg (Nat.not_lt_zero k8)])⟩) hF2 (by omega) _ _ ls w (lv_sub hl [0, 1, 2] rfl)
    refine lv_aload_n hx hb wdX12_shrink_62 rfl (lv_at hl 0 rfl) ?_
    refine f_12_1 F w (a := 146) rfl wtb_179 wdX12_shrink_63 ?_
    refine lv_bipush (v := zI 25) hx hb wdX12_shrink_66 (by decide) ?_
    refine lv_dup2_11 hx hb wdX12_shrink_68 rfl rfl ?_
    refine g_iald F w (a := 147) rfl (j := 25) ⟨by decide, by decide⟩ (by omega) wdX12_shrink_69 ?_
    refine r_val (v := (zI (q : Int))) (x0.2.1) ?_
    refine lv_iconst (v := zI 1) hx hb wdX12_shrink_70 rfl ?_
    refine z_isub (z := ((q : Int) - 1)) hx hb wdX12_shrink_71 (by omega) ?_
    refine r_val (v := zI ((q - 1 : Nat) : Int)) (congrArg zI (by omega)) ?_
    refine g_iast F w (a := 147) rfl (j := 25) ⟨by decide, by decide⟩ (by omega) wdX12_shrink_72 (fun H locs w => ?_)
    refine lv_iconst (v := zI 1) hx hb wdX12_shrink_73 rfl ?_
    exact e_z F w hr hlocks (nar_z (by omega)) (Or.inl ⟨_, acI_y (by show 0 < q; omega), rfl, hS1.told (Fr1.tr x1 Fr1.s) (rqW x0 hn12) ⟨⟨hC1.2.1.1, Nat.le_trans (Nat.sub_le _ _) hC1.2.1.2.1, fun k8 hk8 => ⟨(hC1.2.1.2.2 k8 hk8).1, shL_ok (by omega) (fun k7 hk7 => (hC1.2.1.2.2 k7 hk7).2) k8 hk8⟩⟩, sbit_lt (j := q - 1) (x := 0) hC1.2.2.1 (by omega), sbit_lt (j := q - 1) (x := 0) hC1.2.2.2 (by omega)⟩, FR.of hB1 (Fr1.tr x1 Fr1.s)⟩) wdX12_shrink_74
  · refine lv_iconst (v := zI 0) hx hb wdX12_shrink_14 rfl ?_
    exact e_z F w hr hlocks (nar_z (by omega)) (Or.inr ⟨acI_n (by show ¬ 0 < q; omega), rfl, rfl⟩) wdX12_shrink_15
