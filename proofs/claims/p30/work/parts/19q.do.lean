-- the class between two calls: rules, stages, acts
abbrev Fw : Type := Nat × Nat × Nat × Wo
def CF (M : Mem) (a : Nat) (x : Fw) : Prop := CW M a x.1 x.2.1 x.2.2.1 x.2.2.2
theorem CF.fr {M M1 : Mem} {a : Nat} {x : Fw} (h : CF M a x) (e0 : M1.1 a = M.1 a) (e1 : M1.1 (a + 1) = M.1 (a + 1)) (e2 : M1.1 (a + 2) = M.1 (a + 2)) : CF M1 a x := CW.fr h e0 e1 e2
def KG (M : Mem) (Ps : Nat → Nat → Int) (m : Nat) : Prop := M.1 22 2 = zI (m : Int) ∧ m ≤ 8 ∧ ∀ j, j < m → isU M (28 + 2 * j) (Ps j) ∧ okG (Ps j)
theorem KG.fr {M M1 : Mem} {Ps : Nat → Nat → Int} {m : Nat} (h : KG M Ps m) (e0 : M1.1 22 2 = M.1 22 2) (e1 : ∀ b, 29 ≤ b → b ≤ 43 → M1.1 b = M.1 b) : KG M1 Ps m := ⟨e0.trans h.1, h.2.1, fun j hj => ⟨(h.2.2 j hj).1.fr (e1 _ (by omega) (by have := h.2.1; omega)), (h.2.2 j hj).2⟩⟩
/-- the word that comes of the first i rules; what the i-th rule does with it -/
noncomputable def sg9 (Ps : Nat → Nat → Int) (x : Fw) (i : Nat) : Wo := (dvF Ps x.1 x.2.1 x.2.2.1 i x.2.2.2).1
noncomputable def pf9 (Ps : Nat → Nat → Int) (x : Fw) (i : Nat) : Wo × Nat × Nat := pfF (Ps i) x.1 x.2.1 x.2.2.1 20 (sg9 Ps x i)
noncomputable def dv2 (Ps : Nat → Nat → Int) (x : Fw) (i : Nat) : Nat := (dvF Ps x.1 x.2.1 x.2.2.1 i x.2.2.2).2
theorem sg9_s {Ps : Nat → Nat → Int} {x : Fw} {i : Nat} : sg9 Ps x (i + 1) = (pf9 Ps x i).1 := rfl
theorem dv2_s {Ps : Nat → Nat → Int} {x : Fw} {i : Nat} : dv2 Ps x (i + 1) = dv2 Ps x i + (pf9 Ps x i).2.1 := rfl
def CD (M : Mem) (Ps : Nat → Nat → Int) (m : Nat) (x : Fw) (rd : Nat) : Prop := M.1 22 7 = zI (rd : Int) ∧ rd ≤ m ∧ (∀ i, i ≤ rd → CF M (44 + 3 * i) (x.1, x.2.1, x.2.2.1, sg9 Ps x i)) ∧ ∀ i, i < rd → M.1 26 i = zI (((pf9 Ps x i).2.1 : Nat) : Int) ∧ M.1 27 i = zI (((pf9 Ps x i).2.2 : Nat) : Int) ∧ (pf9 Ps x i).2.1 ≤ 37680 ∧ (pf9 Ps x i).2.2 ≤ 20
def HC (M : Mem) (Hs : Nat → Fw) (k nx : Nat) : Prop := M.1 71 1 = zI (nx : Int) ∧ nx < 12 ∧ M.1 71 2 = zI (k : Int) ∧ k ≤ 12 ∧ ∀ j, j < k → CF M (73 + 3 * ((nx + 12 - k + j) % 12)) (Hs j)
theorem HC.fr {M M1 : Mem} {Hs : Nat → Fw} {k nx : Nat} (h : HC M Hs k nx) (e : ∀ b, 71 ≤ b → b ≤ 108 → M1.1 b = M.1 b) : HC M1 Hs k nx := ⟨by rw [e 71 (by decide) (by decide)]; exact h.1, h.2.1, by rw [e 71 (by decide) (by decide)]; exact h.2.2.1, h.2.2.2.1, fun j hj => by
  have h1 := Nat.mod_lt (nx + 12 - k + j) (show 0 < 12 by decide)
  exact (h.2.2.2.2 j hj).fr (e _ (by omega) (by omega)) (e _ (by omega) (by omega)) (e _ (by omega) (by omega))⟩
def CS (M : Mem) (Ps : Nat → Nat → Int) (m : Nat) (x : Fw) (rd : Nat) (Hs : Nat → Fw) (k : Nat) : Prop := KG M Ps m ∧ CD M Ps m x rd ∧ ∃ nx, HC M Hs k nx
theorem CS.t {M : Mem} {Ps : Nat → Nat → Int} {m rd k : Nat} {x : Fw} {Hs : Nat → Fw} (h : CS M Ps m x rd Hs k) : CF M 44 x := h.2.1.2.2.1 0 (Nat.zero_le _)
theorem CD.fr {M M1 : Mem} {Ps : Nat → Nat → Int} {m rd : Nat} {x : Fw} (h : CD M Ps m x rd) (hm : m ≤ 8) (e0 : M1.1 22 7 = M.1 22 7) (e1 : ∀ b, (26 ≤ b ∧ b ≤ 27) ∨ (44 ≤ b ∧ b ≤ 70) → M1.1 b = M.1 b) : CD M1 Ps m x rd := by
  have hr := h.2.1
  exact ⟨e0.trans h.1, h.2.1, fun i hi => (h.2.2.1 i hi).fr (e1 _ (by omega)) (e1 _ (by omega)) (e1 _ (by omega)), fun i hi => by
    have h1 := h.2.2.2 i hi
    exact ⟨by rw [e1 26 (by decide)]; exact h1.1, by rw [e1 27 (by decide)]; exact h1.2.1, h1.2.2⟩⟩
/-- nothing that the class keeps has changed -/
theorem CS.fr {M M1 : Mem} {Ps : Nat → Nat → Int} {m rd k : Nat} {x : Fw} {Hs : Nat → Fw} (h : CS M Ps m x rd Hs k) (e0 : M1.1 22 = M.1 22) (e1 : ∀ b, 26 ≤ b → b ≤ 108 → M1.1 b = M.1 b) : CS M1 Ps m x rd Hs k := by
  obtain ⟨h1, h2, nx, h3⟩ := h
  exact ⟨h1.fr (by rw [e0]) (fun b a1 a2 => e1 b (by omega) (by omega)), h2.fr h1.2.1 (by rw [e0]) (fun b a1 => e1 b (by omega) (by omega)), nx, h3.fr (fun b a1 a2 => e1 b (by omega) (by omega))⟩
theorem st_ob {M : Mem} {a k b : Nat} {x : Int32} (h : b ≠ a) : (st M a k x).1 b = M.1 b := by simp [st, sA, h]
def FS (M1 M : Mem) : Prop := (∀ b, b < 22 ∨ (28 ≤ b ∧ b ≤ 46) ∨ 71 ≤ b → M1.1 b = M.1 b) ∧ (∀ k, k ≠ 7 → M1.1 22 k = M.1 22 k) ∧ M1.2 = M.2
theorem FS.rf {M : Mem} : FS M M := ⟨fun _ _ => rfl, fun _ _ => rfl, rfl⟩
theorem FS.tr {M M1 M2 : Mem} (h1 : FS M1 M) (h2 : FS M2 M1) : FS M2 M := ⟨fun b x => (h2.1 b x).trans (h1.1 b x), fun k x => (h2.2.1 k x).trans (h1.2.1 k x), h2.2.2.trans h1.2.2⟩
theorem FS.step {M N : Mem} {rd : Nat} {x y z : Int32} (hr : rd < 8) (hF : Fr4 N M (44 + 3 * (rd + 1))) : FS (st (st (st N 26 rd x) 27 rd y) 22 7 z) M := ⟨fun b hb => by rw [st_ob (by omega), st_ob (by omega), st_ob (by omega)]; exact hF.1 b (by omega) (by omega) (by omega) (by omega), fun k hk => by rw [st_ne (Or.inr hk), st_ob (by decide), st_ob (by decide)]; exact congrFun (hF.1 22 (by omega) (by omega) (by omega) (by decide)) k, hF.2⟩
theorem CS.step {M N : Mem} {Ps : Nat → Nat → Int} {m rd k dd pp : Nat} {x : Fw} {o2 : Wo} {Hs : Nat → Fw} (h : CS M Ps m x rd Hs k) (hm : rd < m) (hF : Fr4 N M (44 + 3 * (rd + 1))) (hC : CW N (44 + 3 * (rd + 1)) x.1 x.2.1 x.2.2.1 o2) (e : pf9 Ps x rd = (o2, dd, pp)) (hd : dd ≤ 37680) (hp : pp ≤ 20) : CS (st (st (st N 26 rd (zI (dd : Int))) 27 rd (zI (pp : Int))) 22 7 (zI ((rd + 1 : Nat) : Int))) Ps m x (rd + 1) Hs k := by
  obtain ⟨h1, h2, nx, h3⟩ := h
  have hm8 := h1.2.1
  have es : ∀ b, b ≠ 22 → b ≠ 26 → b ≠ 27 → (st (st (st N 26 rd (zI (dd : Int))) 27 rd (zI (pp : Int))) 22 7 (zI ((rd + 1 : Nat) : Int))).1 b = N.1 b := fun b a1 a2 a3 => by rw [st_ob a1, st_ob a3, st_ob a2]
  have eb : ∀ b, b ≠ 22 → b ≠ 23 → b ≠ 26 → b ≠ 27 → b ≠ 44 + 3 * (rd + 1) → b ≠ 44 + 3 * (rd + 1) + 1 → b ≠ 44 + 3 * (rd + 1) + 2 → (st (st (st N 26 rd (zI (dd : Int))) 27 rd (zI (pp : Int))) 22 7 (zI ((rd + 1 : Nat) : Int))).1 b = M.1 b := fun b a1 a0 a2 a3 a4 a5 a6 => (es b a1 a2 a3).trans (hF.1 b a4 a5 a6 a0)
  refine ⟨h1.fr ?_ (fun b a1 a2 => eb b (by omega) (by omega) (by omega) (by omega) (by omega) (by omega) (by omega)), ⟨st_at, hm, fun i hi => ?_, fun i hi => ?_⟩, nx, h3.fr (fun b a1 a2 => eb b (by omega) (by omega) (by omega) (by omega) (by omega) (by omega) (by omega))⟩
  · rw [st_ne (Or.inr (by decide)), st_ob (by decide), st_ob (by decide)]
    exact congrFun (hF.1 22 (by omega) (by omega) (by omega) (by decide)) 2
  · by_cases hi2 : i = rd + 1
    · subst hi2
      have hC2 : CF N (44 + 3 * (rd + 1)) (x.1, x.2.1, x.2.2.1, sg9 Ps x (rd + 1)) := by
        rw [sg9_s, e]; exact hC
      exact hC2.fr (es _ (by omega) (by omega) (by omega)) (es _ (by omega) (by omega) (by omega)) (es _ (by omega) (by omega) (by omega))
    · exact (h2.2.2.1 i (by omega)).fr (eb _ (by omega) (by omega) (by omega) (by omega) (by omega) (by omega) (by omega)) (eb _ (by omega) (by omega) (by omega) (by omega) (by omega) (by omega) (by omega)) (eb _ (by omega) (by omega) (by omega) (by omega) (by omega) (by omega) (by omega))
  · rw [st_ob (show 26 ≠ 22 by decide), st_ob (show 26 ≠ 27 by decide), st_ob (show 27 ≠ 22 by decide)]
    by_cases hi2 : i = rd
    · subst hi2
      rw [e]
      refine ⟨st_at, st_at, hd, hp⟩
    · have h4 := h2.2.2.2 i (by omega)
      refine ⟨?_, ?_, h4.2.2⟩
      · rw [st_ne (Or.inr hi2)]
        exact (congrFun (hF.1 26 (by omega) (by omega) (by omega) (by decide)) i).trans h4.1
      · rw [st_ne (Or.inr hi2), st_ob (by decide)]
        exact (congrFun (hF.1 27 (by omega) (by omega) (by omega) (by decide)) i).trans h4.2.1
theorem kd_sg {i : Nat} (h : i ≤ 8) : kd (44 + 3 * i) = (9, 0, 0) := (by decide +kernel : ∀ i, i < 9 → kd (44 + 3 * i) = (9, 0, 0)) i (by omega)
theorem kd_rn {i : Nat} (h : i < 12) : kd (73 + 3 * i) = (9, 0, 0) := (by decide +kernel : ∀ i, i < 12 → kd (73 + 3 * i) = (9, 0, 0)) i h
theorem dv2_le {M : Mem} {Ps : Nat → Nat → Int} {m rd : Nat} {x : Fw} (h : CD M Ps m x rd) : ∀ i, i ≤ rd → dv2 Ps x i ≤ 37680 * i
  | 0, _ => Nat.le_refl 0
  | i + 1, hi => by
    have h1 := dv2_le h i (by omega)
    have h2 := (h.2.2.2 i hi).2.2.1
    rw [dv2_s]
    omega
-- acts
def phK (k : Nat) : Nat := if k < 12 then k + 1 else 12
def phH (Hs : Nat → Fw) (k : Nat) (x : Fw) : Nat → Fw := if k < 12 then (fun j => if j = k then x else Hs j) else (fun j => if j = 11 then x else Hs (j + 1))
theorem HC.push {M N : Mem} {Hs : Nat → Fw} {k nx ny : Nat} {x : Fw} (h : HC M Hs k nx) (hF : ∀ b, 72 ≤ b → b ≤ 108 → b ≠ 73 + 3 * nx → b ≠ 73 + 3 * nx + 1 → b ≠ 73 + 3 * nx + 2 → N.1 b = M.1 b) (hC : CF N (73 + 3 * nx) x) (hn : (nx + 1 < 12 ∧ ny = nx + 1) ∨ (nx = 11 ∧ ny = 0)) (e1 : N.1 71 1 = zI (ny : Int)) (e2 : N.1 71 2 = zI ((phK k : Nat) : Int)) : HC N (phH Hs k x) (phK k) ny := by
  obtain ⟨_, h1, _, h2, h3⟩ := h
  have hk : (k < 12 ∧ phK k = k + 1) ∨ (k = 12 ∧ phK k = 12) := by
    unfold phK
    by_cases h9 : k < 12
    · rw [if_pos h9]; exact Or.inl ⟨h9, rfl⟩
    · rw [if_neg h9]; exact Or.inr ⟨by omega, rfl⟩
  refine ⟨e1, by omega, e2, by omega, fun j hj => ?_⟩
  have old : ∀ i, i < k → (nx + 12 - k + i) % 12 ≠ nx → CF N (73 + 3 * ((nx + 12 - k + i) % 12)) (Hs i) := fun i hi hne => by
    have hm := Nat.mod_lt (nx + 12 - k + i) (show 0 < 12 by decide)
    exact (h3 i hi).fr (hF _ (by omega) (by omega) (by omega) (by omega) (by omega)) (hF _ (by omega) (by omega) (by omega) (by omega) (by omega)) (hF _ (by omega) (by omega) (by omega) (by omega) (by omega))
  unfold phH
  rcases hk with ⟨hk, hk1⟩ | ⟨hk, hk1⟩
  · rw [if_pos hk, hk1]
    rw [hk1] at hj
    by_cases h9 : j = k
    · subst h9
      rw [show (ny + 12 - (j + 1) + j) % 12 = nx by omega]
      show CF N (73 + 3 * nx) (if j = j then x else Hs j)
      rw [if_pos rfl]
      exact hC
    · have h8 : (ny + 12 - (k + 1) + j) % 12 = (nx + 12 - k + j) % 12 := by omega
      rw [h8]
      show CF N _ (if j = k then x else Hs j)
      rw [if_neg h9]
      exact old j (by omega) (by omega)
  · rw [if_neg (by omega), hk1]
    rw [hk1] at hj
    by_cases h9 : j = 11
    · subst h9
      rw [show (ny + 12 - 12 + 11) % 12 = nx by omega]
      exact hC
    · have h8 : (ny + 12 - 12 + j) % 12 = (nx + 12 - k + (j + 1)) % 12 := by omega
      rw [h8]
      show CF N _ (if j = 11 then x else Hs (j + 1))
      rw [if_neg h9]
      exact old (j + 1) (by omega) (by omega)
theorem HC.pop {M N : Mem} {Hs : Nat → Fw} {k nx ny : Nat} (h : HC M Hs k nx) (hk : 1 ≤ k) (hF : ∀ b, 72 ≤ b → b ≤ 108 → N.1 b = M.1 b) (hn : (0 < nx ∧ ny = nx - 1) ∨ (nx = 0 ∧ ny = 11)) (e1 : N.1 71 1 = zI (ny : Int)) (e2 : N.1 71 2 = zI (((k - 1 : Nat)) : Int)) : HC N Hs (k - 1) ny := by
  obtain ⟨_, h1, _, h2, h3⟩ := h
  refine ⟨e1, by omega, e2, by omega, fun j hj => ?_⟩
  have h8 : (ny + 12 - (k - 1) + j) % 12 = (nx + 12 - k + j) % 12 := by omega
  rw [h8]
  have hm := Nat.mod_lt (nx + 12 - k + j) (show 0 < 12 by decide)
  exact (h3 j (by omega)).fr (hF _ (by omega) (by omega)) (hF _ (by omega) (by omega)) (hF _ (by omega) (by omega))
theorem HC.top {M : Mem} {Hs : Nat → Fw} {k nx ny : Nat} (h : HC M Hs k nx) (hk : 1 ≤ k) (hn : (0 < nx ∧ ny = nx - 1) ∨ (nx = 0 ∧ ny = 11)) : CF M (73 + 3 * ny) (Hs (k - 1)) := by
  have h4 := h.2.2.2.2 (k - 1) (by omega)
  have h1 := h.2.1
  have h2 := h.2.2.2.1
  rw [show (nx + 12 - k + (k - 1)) % 12 = ny by omega] at h4
  exact h4
theorem min_zK {k : Nat} (hk : k ≤ 12) : (if zI 12 < zI ((k + 1 : Nat) : Int) then zI 12 else zI ((k + 1 : Nat) : Int)) = zI ((phK k : Nat) : Int) := by
  unfold phK
  by_cases h : k < 12
  · rw [if_pos h, if_neg (fun q => by have := (zI_lt (by constructor <;> decide) (by constructor <;> omega)).mp q; omega)]
  · rw [if_neg h, if_pos ((zI_lt (by constructor <;> decide) (by constructor <;> omega)).mpr (by omega))]; rfl
/-- nothing but the acts has changed -/
def FH (M1 M : Mem) : Prop := (∀ b, b < 71 ∨ 109 ≤ b → M1.1 b = M.1 b) ∧ M1.2 = M.2
theorem CS.keep {M M1 : Mem} {Ps : Nat → Nat → Int} {m rd k nx ny : Nat} {x : Fw} {Hs : Nat → Fw} (h : CS M Ps m x rd Hs k) (hn : HC M Hs k nx) (hF : Fr3 M1 M (73 + 3 * nx)) (hC : CF M1 (73 + 3 * nx) x) (hy : (nx + 1 < 12 ∧ ny = nx + 1) ∨ (nx = 11 ∧ ny = 0)) : CS (st (st M1 71 1 (zI (ny : Int))) 71 2 (zI ((phK k : Nat) : Int))) Ps m x rd (phH Hs k x) (phK k) ∧ FH (st (st M1 71 1 (zI (ny : Int))) 71 2 (zI ((phK k : Nat) : Int))) M := by
  have h1 := hn.2.1
  have e : ∀ b, b ≠ 71 → (st (st M1 71 1 (zI (ny : Int))) 71 2 (zI ((phK k : Nat) : Int))).1 b = M1.1 b := fun b hb => by rw [st_ob hb, st_ob hb]
  have e2 : ∀ b, b < 71 ∨ 109 ≤ b → (st (st M1 71 1 (zI (ny : Int))) 71 2 (zI ((phK k : Nat) : Int))).1 b = M.1 b := fun b hb => (e b (by omega)).trans (hF.1 b (by omega) (by omega) (by omega))
  refine ⟨⟨h.1.fr (by rw [e2 22 (by decide)]) (fun b a1 a2 => e2 b (by omega)), h.2.1.fr h.1.2.1 (by rw [e2 22 (by decide)]) (fun b a1 => e2 b (by omega)), ny, ?_⟩, e2, hF.2⟩
  refine hn.push (fun b a1 a2 a3 a4 a5 => (e b (by omega)).trans (hF.1 b a3 a4 a5)) (hC.fr (e _ (by omega)) (e _ (by omega)) (e _ (by omega))) hy ?_ st_at
  rw [st_ne (Or.inr (by decide))]; exact st_at
/-- the class with no stage ready -/
theorem CS.out {M : Mem} {Ps : Nat → Nat → Int} {m rd k : Nat} {x : Fw} {Hs : Nat → Fw} (h : CS M Ps m x rd Hs k) : CS (st (st (st M 22 7 (zI 0)) 109 0 (zI 0)) 135 0 (zI 0)) Ps m x 0 Hs k := by
  have e : ∀ b, b ≠ 22 → b ≠ 109 → b ≠ 135 → (st (st (st M 22 7 (zI 0)) 109 0 (zI 0)) 135 0 (zI 0)).1 b = M.1 b := fun b a1 a2 a3 => by rw [st_ob a3, st_ob a2, st_ob a1]
  obtain ⟨h1, h2, nx, h3⟩ := h
  refine ⟨h1.fr ?_ (fun b a1 a2 => e b (by omega) (by omega) (by omega)), ⟨?_, Nat.zero_le _, fun i hi => ?_, fun i hi => absurd hi (Nat.not_lt_zero i)⟩, nx, h3.fr (fun b a1 a2 => e b (by omega) (by omega) (by omega))⟩
  · rw [st_ob (by decide), st_ob (by decide), st_ne (Or.inr (by decide))]
  · rw [st_ob (by decide), st_ob (by decide)]; exact st_at
  · obtain rfl : i = 0 := by omega
    exact (h2.2.2.1 0 (Nat.zero_le _)).fr (e _ (by omega) (by omega) (by omega)) (e _ (by omega) (by omega) (by omega)) (e _ (by omega) (by omega) (by omega))
/-- the word as told becomes another one, no stage ready -/
theorem CS.told {M M1 : Mem} {Ps : Nat → Nat → Int} {m k : Nat} {x y : Fw} {Hs : Nat → Fw} (h : CS M Ps m x 0 Hs k) (hF : Fr3 M1 M 44) (hC : CF M1 44 y) : CS M1 Ps m y 0 Hs k := by
  obtain ⟨h1, h2, nx, h3⟩ := h
  refine ⟨h1.fr (by rw [hF.1 22 (by decide) (by decide) (by decide)]) (fun b a1 a2 => hF.1 b (by omega) (by omega) (by omega)), ⟨by rw [hF.1 22 (by decide) (by decide) (by decide)]; exact h2.1, Nat.zero_le _, fun i hi => ?_, fun i hi => absurd hi (Nat.not_lt_zero i)⟩, nx, h3.fr (fun b a1 a2 => hF.1 b (by omega) (by omega) (by omega))⟩
  obtain rfl : i = 0 := by omega
  exact hC
/-- an act has begun -/
def FB (M1 M : Mem) : Prop := ∀ b, b < 22 ∨ (23 ≤ b ∧ b ≤ 70) ∨ 136 ≤ b → M1.1 b = M.1 b
theorem FB.of {M M1 : Mem} (h : FH M1 M) : FB (st (st (st M1 22 7 (zI 0)) 109 0 (zI 0)) 135 0 (zI 0)) M := fun b hb => by
  rw [st_ob (by omega), st_ob (by omega), st_ob (by omega)]; exact h.1 b (by omega)
/-- neither the tape nor the reference has changed -/
def FA (M1 M : Mem) : Prop := ∀ b, b < 22 ∨ 146 ≤ b → M1.1 b = M.1 b
theorem FA.rf {M : Mem} : FA M M := fun _ _ => rfl
theorem FA.tr {M M1 M2 : Mem} (h1 : FA M1 M) (h2 : FA M2 M1) : FA M2 M := fun b x => (h2 b x).trans (h1 b x)
theorem FA.f3 {M M1 : Mem} {a : Nat} (h : Fr3 M1 M a) (ha : 22 ≤ a ∧ a ≤ 143) : FA M1 M := fun b x => h.1 b (by omega) (by omega) (by omega)
theorem FA.f4 {M M1 : Mem} {a : Nat} (h : Fr4 M1 M a) (ha : 22 ≤ a ∧ a ≤ 143) : FA M1 M := fun b x => h.1 b (by omega) (by omega) (by omega) (by omega)
theorem FA.of {M M1 M2 : Mem} (h1 : FB M1 M) (h2 : Fr3 M2 M1 44) : FA M2 M := fun b x => (h2.1 b (by omega) (by omega) (by omega)).trans (h1 b (by omega))
theorem FA.fs {M M1 : Mem} (h : FS M1 M) : FA M1 M := fun b x => h.1 b (by omega)
theorem FA.st {M M1 : Mem} {a k : Nat} {v : Int32} (h : FA M1 M) (ha : 22 ≤ a ∧ a ≤ 145) : FA (st M1 a k v) M := fun b x => (st_ob (by omega)).trans (h b x)
theorem wdX0_covers_0 : decode cX0_covers 0 = .ok (.iload_n 1, 1) := dq0 kk_27 (by decide +kernel)
theorem wdX0_covers_1 : decode cX0_covers 1 = .ok (.ifCond .lt 15, 3) := dqT kk_155 (by decide +kernel)
theorem wdX0_covers_16 : decode cX0_covers 16 = .ok (.iconst 0, 1) := dq0 kk_3 (by decide +kernel)
theorem wdX0_covers_17 : decode cX0_covers 17 = .ok (.ireturn, 1) := dq0 kk_172 (by decide +kernel)
theorem wdX0_covers_4 : decode cX0_covers 4 = .ok (.iload_n 1, 1) := dq0 kk_27 (by decide +kernel)
theorem wdX0_covers_5 : decode cX0_covers 5 = .ok (.aload_n 0, 1) := dq0 kk_42 (by decide +kernel)
theorem wdX0_covers_6 : decode cX0_covers 6 = .ok (.getfield 24, 3) := dqV kk_180 (by decide +kernel)
theorem wtb_182 : Cond.fieldLink "ToneLines$Derivation" 24 "ToneLines$Derivation" "size" "I" ∈ TB := rtb_86
theorem wdX0_covers_9 : decode cX0_covers 9 = .ok (.if_icmp .gt 7, 3) := dqT kk_163 (by decide +kernel)
theorem wdX0_covers_12 : decode cX0_covers 12 = .ok (.iconst 1, 1) := dq0 kk_4 (by decide +kernel)
theorem wdX0_covers_13 : decode cX0_covers 13 = .ok (.goto 4, 3) := dqT kk_167 (by decide +kernel)
set_option maxRecDepth 4000 in
theorem g_covers {l : Launch} {D : va_G} {B : Nat} {cy : Nat → ClassId} {M : Mem} {Ps : Nat → Nat → Int} {mr rd k : Nat} {x : Fw} {Hs : Nat → Fw} (hS : CS M Ps mr x rd Hs k) {n9 : Int} (hn9 : rg n9) : Ci l D B cy yX0_covers cX0_covers 2 (some .boolean) 0 0 [.ref (B + 22), .int (zI n9)] M (fun r M1 => ((0 ≤ n9 ∧ n9 ≤ (mr : Int)) ∧ r = zI 1 ∨ ¬ (0 ≤ n9 ∧ n9 ≤ (mr : Int)) ∧ r = zI 0) ∧ M1 = M) := by
  refine s_any (by decide) (Nat.le_of_ble_eq_true rfl) ?_
  intro p e s m below meth c ls F hr hlocks w hl
  have F : CallFix p m c cX0_covers 2 s _ TB RX0 := F
  have hx := F.1
  have hb := F.2.1
  have hl : lv_has ls 2 [(0, .ref (B + 22)), (1, .int (zI n9))] := hl
  have hm8 := hS.1.2.1
  have hrd := hS.2.1.2.1
  refine lv_iload_n hx hb wdX0_covers_0 rfl (lv_at hl 1 rfl) ?_
  refine z_if_lt (tgt := 16) hx hb (by omega) wdX0_covers_1 (by decide) (fun c1 => ?_) (fun c1 => ?_)
  · refine lv_iconst (v := zI 0) hx hb wdX0_covers_16 rfl ?_
    exact e_z F w hr hlocks (nar_z (by omega)) ⟨Or.inr ⟨by omega, rfl⟩, rfl⟩ wdX0_covers_17
  · refine lv_iload_n hx hb wdX0_covers_4 rfl (lv_at hl 1 rfl) ?_
    refine lv_aload_n hx hb wdX0_covers_5 rfl (lv_at hl 0 rfl) ?_
    refine f_0_2 F w (a := 22) rfl wtb_182 wdX0_covers_6 ?_
    refine r_val (v := (zI (mr : Int))) (hS.1.1) ?_
    refine z_icmp_gt (tgt := 16) hx hb (by omega) (by omega) wdX0_covers_9 (by decide) (fun c2 => ?_) (fun c2 => ?_)
    · refine lv_iconst (v := zI 0) hx hb wdX0_covers_16 rfl ?_
      exact e_z F w hr hlocks (nar_z (by omega)) ⟨Or.inr ⟨by omega, rfl⟩, rfl⟩ wdX0_covers_17
    · refine lv_iconst (v := zI 1) hx hb wdX0_covers_12 rfl ?_
      refine lv_goto (tgt := 17) hx hb wdX0_covers_13 (by decide) ?_
      exact e_z F w hr hlocks (nar_z (by omega)) ⟨Or.inl ⟨by omega, rfl⟩, rfl⟩ wdX0_covers_17
theorem wdX0_hasRule_0 : decode cX0_hasRule 0 = .ok (.iload_n 1, 1) := rdX0_hasRule_0
theorem wdX0_hasRule_1 : decode cX0_hasRule 1 = .ok (.ifCond .lt 21, 3) := rdX0_hasRule_1
theorem wdX0_hasRule_22 : decode cX0_hasRule 22 = .ok (.iconst 0, 1) := rdX0_hasRule_22
theorem wdX0_hasRule_23 : decode cX0_hasRule 23 = .ok (.ireturn, 1) := rdX0_hasRule_23
theorem wdX0_hasRule_4 : decode cX0_hasRule 4 = .ok (.iload_n 1, 1) := rdX0_hasRule_4
theorem wdX0_hasRule_5 : decode cX0_hasRule 5 = .ok (.aload_n 0, 1) := rdX0_hasRule_5
theorem wdX0_hasRule_6 : decode cX0_hasRule 6 = .ok (.getfield 24, 3) := rdX0_hasRule_6
theorem wdX0_hasRule_9 : decode cX0_hasRule 9 = .ok (.if_icmp .ge 13, 3) := rdX0_hasRule_9
theorem wdX0_hasRule_12 : decode cX0_hasRule 12 = .ok (.iload_n 1, 1) := rdX0_hasRule_12
theorem wdX0_hasRule_13 : decode cX0_hasRule 13 = .ok (.bipush 8, 2) := rdX0_hasRule_13
theorem wdX0_hasRule_15 : decode cX0_hasRule 15 = .ok (.if_icmp .ge 7, 3) := rdX0_hasRule_15
theorem wdX0_hasRule_18 : decode cX0_hasRule 18 = .ok (.iconst 1, 1) := rdX0_hasRule_18
theorem wdX0_hasRule_19 : decode cX0_hasRule 19 = .ok (.goto 4, 3) := rdX0_hasRule_19
set_option maxRecDepth 4000 in
theorem g_hasRule {l : Launch} {D : va_G} {B : Nat} {cy : Nat → ClassId} {M : Mem} {Ps : Nat → Nat → Int} {mr rd k : Nat} {x : Fw} {Hs : Nat → Fw} (hS : CS M Ps mr x rd Hs k) {n9 : Int} (hn9 : rg n9) : Ci l D B cy yX0_hasRule cX0_hasRule 2 (some .boolean) 0 0 [.ref (B + 22), .int (zI n9)] M (fun r M1 => ((0 ≤ n9 ∧ n9 < (mr : Int)) ∧ r = zI 1 ∨ ¬ (0 ≤ n9 ∧ n9 < (mr : Int)) ∧ r = zI 0) ∧ M1 = M) := by
  refine s_any (by decide) (Nat.le_of_ble_eq_true rfl) ?_
  intro p e s m below meth c ls F hr hlocks w hl
  have F : CallFix p m c cX0_hasRule 2 s _ TB RX0 := F
  have hx := F.1
  have hb := F.2.1
  have hl : lv_has ls 2 [(0, .ref (B + 22)), (1, .int (zI n9))] := hl
  have hm8 := hS.1.2.1
  have hrd := hS.2.1.2.1
  refine lv_iload_n hx hb wdX0_hasRule_0 rfl (lv_at hl 1 rfl) ?_
  refine z_if_lt (tgt := 22) hx hb (by omega) wdX0_hasRule_1 (by decide) (fun c1 => ?_) (fun c1 => ?_)
  · refine lv_iconst (v := zI 0) hx hb wdX0_hasRule_22 rfl ?_
    exact e_z F w hr hlocks (nar_z (by omega)) ⟨Or.inr ⟨by omega, rfl⟩, rfl⟩ wdX0_hasRule_23
  · refine lv_iload_n hx hb wdX0_hasRule_4 rfl (lv_at hl 1 rfl) ?_
    refine lv_aload_n hx hb wdX0_hasRule_5 rfl (lv_at hl 0 rfl) ?_
    refine f_0_2 F w (a := 22) rfl wtb_182 wdX0_hasRule_6 ?_
    refine r_val (v := (zI (mr : Int))) (hS.1.1) ?_
    refine z_icmp_ge (tgt := 22) hx hb (by omega) (by omega) wdX0_hasRule_9 (by decide) (fun c2 => ?_) (fun c2 => ?_)
    · refine lv_iconst (v := zI 0) hx hb wdX0_hasRule_22 rfl ?_
      exact e_z F w hr hlocks (nar_z (by omega)) ⟨Or.inr ⟨by omega, rfl⟩, rfl⟩ wdX0_hasRule_23
    · refine lv_iload_n hx hb wdX0_hasRule_12 rfl (lv_at hl 1 rfl) ?_
      refine lv_bipush (v := zI 8) hx hb wdX0_hasRule_13 (by decide) ?_
      refine z_icmp_ge (tgt := 22) hx hb (by omega) (by omega) wdX0_hasRule_15 (by decide) (fun c3 => ?_) (fun c3 => ?_)
      · refine lv_iconst (v := zI 0) hx hb wdX0_hasRule_22 rfl ?_
        exact e_z F w hr hlocks (nar_z (by omega)) ⟨Or.inr ⟨by omega, rfl⟩, rfl⟩ wdX0_hasRule_23
      · refine lv_iconst (v := zI 1) hx hb wdX0_hasRule_18 rfl ?_
        refine lv_goto (tgt := 23) hx hb wdX0_hasRule_19 (by decide) ?_
        exact e_z F w hr hlocks (nar_z (by omega)) ⟨Or.inl ⟨by omega, rfl⟩, rfl⟩ wdX0_hasRule_23
theorem wdX0_stageOf_13 : decode cX0_stageOf 13 = .ok (.aload_n 0, 1) := dq0 kk_42 (by decide +kernel)
theorem wdX0_stageOf_14 : decode cX0_stageOf 14 = .ok (.getfield 41, 3) := dqV kk_180 (by decide +kernel)
theorem wtb_183 : Cond.fieldLink "ToneLines$Derivation" 41 "ToneLines$Derivation" "ready" "I" ∈ TB := tbm (tc1 (List.mem_of_getElem? (i := 183) rfl)) rfl
theorem wdX0_stageOf_17 : decode cX0_stageOf 17 = .ok (.iload_n 1, 1) := dq0 kk_27 (by decide +kernel)
theorem wdX0_stageOf_18 : decode cX0_stageOf 18 = .ok (.if_icmp .ge 83, 3) := dqT kk_162 (by decide +kernel)
theorem wdX0_stageOf_21 : decode cX0_stageOf 21 = .ok (.aload_n 0, 1) := dq0 kk_42 (by decide +kernel)
theorem wdX0_stageOf_22 : decode cX0_stageOf 22 = .ok (.getfield 30, 3) := dqV kk_180 (by decide +kernel)
theorem wtb_184 : Cond.fieldLink "ToneLines$Derivation" 30 "ToneLines$Derivation" "stages" "[LToneLines$Word;" ∈ TB := tbm (tc1 (List.mem_of_getElem? (i := 174) rfl)) rfl
theorem wdX0_stageOf_25 : decode cX0_stageOf 25 = .ok (.aload_n 0, 1) := dq0 kk_42 (by decide +kernel)
theorem wdX0_stageOf_26 : decode cX0_stageOf 26 = .ok (.getfield 41, 3) := dqV kk_180 (by decide +kernel)
theorem wdX0_stageOf_29 : decode cX0_stageOf 29 = .ok (.iconst 1, 1) := dq0 kk_4 (by decide +kernel)
theorem wdX0_stageOf_30 : decode cX0_stageOf 30 = .ok (.iadd, 1) := dq0 kk_96 (by decide +kernel)
theorem wdX0_stageOf_31 : decode cX0_stageOf 31 = .ok (.aaload, 1) := dq0 kk_50 (by decide +kernel)
theorem wdX0_stageOf_32 : decode cX0_stageOf 32 = .ok (.astore_n 2, 1) := dq0 kk_77 (by decide +kernel)
theorem wdX0_stageOf_33 : decode cX0_stageOf 33 = .ok (.aload_n 2, 1) := dq0 kk_44 (by decide +kernel)
theorem wdX0_stageOf_34 : decode cX0_stageOf 34 = .ok (.aload_n 0, 1) := dq0 kk_42 (by decide +kernel)
theorem wdX0_stageOf_35 : decode cX0_stageOf 35 = .ok (.getfield 30, 3) := dqV kk_180 (by decide +kernel)
theorem wdX0_stageOf_38 : decode cX0_stageOf 38 = .ok (.aload_n 0, 1) := dq0 kk_42 (by decide +kernel)
theorem wdX0_stageOf_39 : decode cX0_stageOf 39 = .ok (.getfield 41, 3) := dqV kk_180 (by decide +kernel)
theorem wdX0_stageOf_42 : decode cX0_stageOf 42 = .ok (.aaload, 1) := dq0 kk_50 (by decide +kernel)
theorem wdX0_stageOf_43 : decode cX0_stageOf 43 = .ok (.invokevirtual 64, 3) := dqV kk_182 (by decide +kernel)
theorem wtk_X9_copyFrom : Cond.code yX9_copyFrom cX9_copyFrom 2 none ∈ TB := tbm (tc3 (List.mem_of_getElem? (i := 21) rfl)) rfl
theorem wgc_X9_copyFrom : GoodIn TB (cw yX9_copyFrom cX9_copyFrom 2 none) := goodIn_c2 wtk_X9_copyFrom
theorem wtb_185 : Cond.methodLink "ToneLines$Derivation" 64 yX9_copyFrom ∈ TB := tbm (tc4 (List.mem_of_getElem? (i := 107) rfl)) rfl
theorem wtb_186 : Cond.instanceMethod yX9_copyFrom ∈ TB := tbm (tc3 (List.mem_of_getElem? (i := 19) rfl)) rfl
theorem wtb_187 : Cond.selects "ToneLines$Word" yX9_copyFrom yX9_copyFrom ∈ TB := tbm (tc3 (List.mem_of_getElem? (i := 20) rfl)) rfl
theorem wgv_X0_64 : GoodIn TB (wsV RX0 64 RX9 yX9_copyFrom (cw yX9_copyFrom cX9_copyFrom 2 none)) := goodIn_4 wtb_185 wtb_186 wtb_187 wtb_3 wgc_X9_copyFrom
theorem whv_X9_copyFrom : yX9_copyFrom.cls = RX9 ∧ yX9_copyFrom.cls ≠ "java/lang/invoke/MethodHandle" ∧ yX9_copyFrom.cls ≠ "java/lang/invoke/VarHandle" ∧ (parseMethodDescriptor yX9_copyFrom.desc).map (fun d => d.parameters.length) = some 1 := by decide +kernel
theorem wdX0_stageOf_46 : decode cX0_stageOf 46 = .ok (.aload_n 0, 1) := dq0 kk_42 (by decide +kernel)
theorem wdX0_stageOf_47 : decode cX0_stageOf 47 = .ok (.getfield 34, 3) := dqV kk_180 (by decide +kernel)
theorem wtb_188 : Cond.fieldLink "ToneLines$Derivation" 34 "ToneLines$Derivation" "changes" "[I" ∈ TB := tbm (tc1 (List.mem_of_getElem? (i := 179) rfl)) rfl
theorem wdX0_stageOf_50 : decode cX0_stageOf 50 = .ok (.aload_n 0, 1) := dq0 kk_42 (by decide +kernel)
theorem wdX0_stageOf_51 : decode cX0_stageOf 51 = .ok (.getfield 41, 3) := dqV kk_180 (by decide +kernel)
theorem wdX0_stageOf_54 : decode cX0_stageOf 54 = .ok (.aload_n 0, 1) := dq0 kk_42 (by decide +kernel)
theorem wdX0_stageOf_55 : decode cX0_stageOf 55 = .ok (.getfield 12, 3) := dqV kk_180 (by decide +kernel)
theorem wtb_189 : Cond.fieldLink "ToneLines$Derivation" 12 "ToneLines$Derivation" "doer" "LToneLines$Doer;" ∈ TB := tbm (tc1 (List.mem_of_getElem? (i := 162) rfl)) rfl
theorem wdX0_stageOf_58 : decode cX0_stageOf 58 = .ok (.aload_n 0, 1) := dq0 kk_42 (by decide +kernel)
theorem wdX0_stageOf_59 : decode cX0_stageOf 59 = .ok (.getfield 20, 3) := dqV kk_180 (by decide +kernel)
theorem wtb_190 : Cond.fieldLink "ToneLines$Derivation" 20 "ToneLines$Derivation" "list" "[LToneLines$Rule;" ∈ TB := rtb_87
theorem wdX0_stageOf_62 : decode cX0_stageOf 62 = .ok (.aload_n 0, 1) := dq0 kk_42 (by decide +kernel)
theorem wdX0_stageOf_63 : decode cX0_stageOf 63 = .ok (.getfield 41, 3) := dqV kk_180 (by decide +kernel)
theorem wdX0_stageOf_66 : decode cX0_stageOf 66 = .ok (.aaload, 1) := dq0 kk_50 (by decide +kernel)
theorem wdX0_stageOf_67 : decode cX0_stageOf 67 = .ok (.aload_n 2, 1) := dq0 kk_44 (by decide +kernel)
theorem wdX0_stageOf_68 : decode cX0_stageOf 68 = .ok (.invokevirtual 67, 3) := dqV kk_182 (by decide +kernel)
theorem wtk_X1_perform : Cond.code yX1_perform cX1_perform 6 (some .int) ∈ TB := tbm (tc3 (List.mem_of_getElem? (i := 215) rfl)) rfl
theorem wgc_X1_perform : GoodIn TB (cw yX1_perform cX1_perform 6 (some .int)) := goodIn_c2 wtk_X1_perform
theorem wtb_191 : Cond.methodLink "ToneLines$Derivation" 67 yX1_perform ∈ TB := tbm (tc4 (List.mem_of_getElem? (i := 108) rfl)) rfl
theorem wtb_192 : Cond.instanceMethod yX1_perform ∈ TB := tbm (tc3 (List.mem_of_getElem? (i := 213) rfl)) rfl
theorem wtb_193 : Cond.selects "ToneLines$Doer" yX1_perform yX1_perform ∈ TB := tbm (tc3 (List.mem_of_getElem? (i := 214) rfl)) rfl
theorem wgv_X0_67 : GoodIn TB (wsV RX0 67 RX1 yX1_perform (cw yX1_perform cX1_perform 6 (some .int))) := goodIn_4 wtb_191 wtb_192 wtb_193 wtb_52 wgc_X1_perform
theorem whv_X1_perform : yX1_perform.cls = RX1 ∧ yX1_perform.cls ≠ "java/lang/invoke/MethodHandle" ∧ yX1_perform.cls ≠ "java/lang/invoke/VarHandle" ∧ (parseMethodDescriptor yX1_perform.desc).map (fun d => d.parameters.length) = some 2 := by decide +kernel
theorem wdX0_stageOf_71 : decode cX0_stageOf 71 = .ok (.iastore, 1) := dq0 kk_79 (by decide +kernel)
theorem wdX0_stageOf_72 : decode cX0_stageOf 72 = .ok (.aload_n 0, 1) := dq0 kk_42 (by decide +kernel)
theorem wdX0_stageOf_73 : decode cX0_stageOf 73 = .ok (.getfield 38, 3) := dqV kk_180 (by decide +kernel)
theorem wtb_194 : Cond.fieldLink "ToneLines$Derivation" 38 "ToneLines$Derivation" "passes" "[I" ∈ TB := tbm (tc1 (List.mem_of_getElem? (i := 181) rfl)) rfl
theorem wdX0_stageOf_76 : decode cX0_stageOf 76 = .ok (.aload_n 0, 1) := dq0 kk_42 (by decide +kernel)
theorem wdX0_stageOf_77 : decode cX0_stageOf 77 = .ok (.getfield 41, 3) := dqV kk_180 (by decide +kernel)
theorem wdX0_stageOf_80 : decode cX0_stageOf 80 = .ok (.aload_n 0, 1) := dq0 kk_42 (by decide +kernel)
theorem wdX0_stageOf_81 : decode cX0_stageOf 81 = .ok (.getfield 12, 3) := dqV kk_180 (by decide +kernel)
theorem wdX0_stageOf_84 : decode cX0_stageOf 84 = .ok (.getfield 71, 3) := dqV kk_180 (by decide +kernel)
theorem wtb_195 : Cond.fieldLink "ToneLines$Derivation" 71 "ToneLines$Doer" "passes" "I" ∈ TB := tbm (tc1 (List.mem_of_getElem? (i := 116) rfl)) rfl
theorem wdX0_stageOf_87 : decode cX0_stageOf 87 = .ok (.iastore, 1) := dq0 kk_79 (by decide +kernel)
theorem wdX0_stageOf_88 : decode cX0_stageOf 88 = .ok (.aload_n 0, 1) := dq0 kk_42 (by decide +kernel)
theorem wdX0_stageOf_89 : decode cX0_stageOf 89 = .ok (.dup, 1) := dq0 kk_89 (by decide +kernel)
theorem wdX0_stageOf_90 : decode cX0_stageOf 90 = .ok (.getfield 41, 3) := dqV kk_180 (by decide +kernel)
theorem wdX0_stageOf_93 : decode cX0_stageOf 93 = .ok (.iconst 1, 1) := dq0 kk_4 (by decide +kernel)
theorem wdX0_stageOf_94 : decode cX0_stageOf 94 = .ok (.iadd, 1) := dq0 kk_96 (by decide +kernel)
theorem wdX0_stageOf_95 : decode cX0_stageOf 95 = .ok (.putfield 41, 3) := dqV kk_181 (by decide +kernel)
theorem wdX0_stageOf_98 : decode cX0_stageOf 98 = .ok (.goto (-85), 3) := dqT kk_167 (by decide +kernel)
set_option maxRecDepth 4000 in
theorem lp_X0_stageOf {p : Program} {l : Launch} {e : Env} {s : State} {m : MethodId} {args : Array Value} {below : List Frame} {meth : Method} {c : Code} {D : va_G} {B : Nat} {cy : Nat → ClassId} {H0 : Heap} {Q : State → Prop} {M : Mem} {R : Room} {Ps : Nat → Nat → Int} {mr rd k n9 : Nat} {x : Fw} {Hs : Nat → Fw} (F : CallFix p m c cX0_stageOf 3 s args TB RX0) (hR1 : 5 ≤ R.frames) (hR2 : 133 ≤ R.locals) (hn : n9 ≤ mr) (hm8 : mr ≤ 8) (kk : ∀ (rd1 : Nat) (Nm : Mem) (H : Heap) (locs : List Loc) (ls : Array Slot), (CS Nm Ps mr x rd1 Hs k) → (n9 ≤ rd1) → (rd ≤ rd1) → (FS Nm M) → Wd D B cy s H0 Nm H locs → lv_has ls 3 [(0, .ref (B + 22)), (1, .int (zI (n9 : Int)))] → W p l e R s m args below meth c H locs 0 0 Q (F0 m 101 ls [])) : ∀ (f : Nat) (rd1 : Nat) (Nm : Mem), (CS Nm Ps mr x rd1 Hs k) → (rd ≤ rd1) → (FS Nm M) → (n9 ≤ rd1 + f) → ∀ (H : Heap) (locs : List Loc) (ls : Array Slot), Wd D B cy s H0 Nm H locs → lv_has ls 3 [(0, .ref (B + 22)), (1, .int (zI (n9 : Int)))] → W p l e R s m args below meth c H locs 0 0 Q (F0 m 13 ls []) := by
  have hx := F.1
  have hb := F.2.1
  intro f
  induction f with
  | zero =>
    intro rd1 Nm i0 i1 i2 hf H locs ls w hl
    have hr1 := i0.2.1.2.1
    refine lv_aload_n hx hb wdX0_stageOf_13 rfl (lv_at hl 0 rfl) ?_
    refine f_0_7 F w (a := 22) rfl wtb_183 wdX0_stageOf_14 ?_
    refine r_val (v := (zI (rd1 : Int))) (i0.2.1.1) ?_
    refine lv_iload_n hx hb wdX0_stageOf_17 rfl (lv_at hl 1 rfl) ?_
    refine z_icmp_ge (tgt := 101) hx hb (by omega) (by omega) wdX0_stageOf_18 (by decide) (fun c1 => ?_) (fun c1 => False.elim (by omega))
    exact kk rd1 Nm _ _ ls i0 (by omega) i1 i2 w (lv_sub hl [0, 1] rfl)
  | succ f ih =>
    intro rd1 Nm i0 i1 i2 hf H locs ls w hl
    have hr1 := i0.2.1.2.1
    refine lv_aload_n hx hb wdX0_stageOf_13 rfl (lv_at hl 0 rfl) ?_
    refine f_0_7 F w (a := 22) rfl wtb_183 wdX0_stageOf_14 ?_
    refine r_val (v := (zI (rd1 : Int))) (i0.2.1.1) ?_
    refine lv_iload_n hx hb wdX0_stageOf_17 rfl (lv_at hl 1 rfl) ?_
    refine z_icmp_ge (tgt := 101) hx hb (by omega) (by omega) wdX0_stageOf_18 (by decide) (fun c1 => ?_) (fun c1 => ?_)
    · exact kk rd1 Nm _ _ ls i0 (by omega) i1 i2 w (lv_sub hl [0, 1] rfl)
    · refine lv_aload_n hx hb wdX0_stageOf_21 rfl (lv_at hl 0 rfl) ?_
      refine f_0_3 F w (a := 22) rfl wtb_184 wdX0_stageOf_22 ?_
      refine lv_aload_n hx hb wdX0_stageOf_25 rfl (lv_at hl 0 rfl) ?_
      refine f_0_7 F w (a := 22) rfl wtb_183 wdX0_stageOf_26 ?_
      refine r_val (v := (zI (rd1 : Int))) (i0.2.1.1) ?_
      refine lv_iconst (v := zI 1) hx hb wdX0_stageOf_29 rfl ?_
      refine z_iadd (z := (((rd1 + 1) : Nat) : Int)) hx hb wdX0_stageOf_30 (by omega) ?_
      refine g_aldW F w (a := 25) rfl (j := (rd1 + 1)) (o := (44 + 3 * (rd1 + 1))) rfl (ix_n (by omega)) (by omega) wdX0_stageOf_31 ?_
      refine lv_astore_n (lv' := [(2, .ref (B + (44 + 3 * (rd1 + 1)))), (0, .ref (B + 22)), (1, .int (zI (n9 : Int)))]) hx hb wdX0_stageOf_32 rfl hl (by decide) rfl (fun ls hl => ?_)
      refine lv_aload_n hx hb wdX0_stageOf_33 rfl (lv_at hl 0 rfl) ?_
      refine lv_aload_n hx hb wdX0_stageOf_34 rfl (lv_at hl 1 rfl) ?_
      refine f_0_3 F w (a := 22) rfl wtb_184 wdX0_stageOf_35 ?_
      refine lv_aload_n hx hb wdX0_stageOf_38 rfl (lv_at hl 1 rfl) ?_
      refine f_0_7 F w (a := 22) rfl wtb_183 wdX0_stageOf_39 ?_
      refine r_val (v := (zI (rd1 : Int))) (i0.2.1.1) ?_
      refine g_aldW F w (a := 25) rfl (j := rd1) (o := (44 + 3 * rd1)) rfl (ix_n (by omega)) (by omega) wdX0_stageOf_42 ?_
      refine k_Vv F w (As := [.ref (B + (44 + 3 * rd1))]) (rest := []) (a := (44 + 3 * (rd1 + 1))) (kd_lt (a := (44 + 3 * (rd1 + 1))) (kd_sg (i := rd1 + 1) (by omega)) (by decide)) (sh_9 (kd_sg (i := rd1 + 1) (by omega)) _ _) rfl (s_X9_copyFrom (a := 44 + 3 * (rd1 + 1)) (kd_sg (by omega)) (b := 44 + 3 * rd1) (kd_sg (by omega)) (i0.2.1.2.2.1 rd1 (Nat.le_refl _)).1 (by omega) (i0.2.1.2.2.1 rd1 (Nat.le_refl _)).2.1.1) wgv_X0_64 whv_X9_copyFrom ⟨(by omega), (by omega)⟩ hl.1 rfl (Nat.le_of_ble_eq_true rfl) ⟨Nat.zero_le _, Nat.zero_le _⟩ wdX0_stageOf_43 (fun Ma2 H locs hp w => ?_)
      rcases hp with ⟨hW2, hF2⟩
      have hC2 : CW Ma2 (44 + 3 * (rd1 + 1)) x.1 x.2.1 x.2.2.1 (sg9 Ps x rd1) := ⟨hW2, (i0.2.1.2.2.1 rd1 (Nat.le_refl _)).2⟩
      refine lv_aload_n hx hb wdX0_stageOf_46 rfl (lv_at hl 1 rfl) ?_
      refine f_0_5 F w (a := 22) rfl wtb_188 wdX0_stageOf_47 ?_
      refine lv_aload_n hx hb wdX0_stageOf_50 rfl (lv_at hl 1 rfl) ?_
      refine f_0_7 F w (a := 22) rfl wtb_183 wdX0_stageOf_51 ?_
      refine r_val (v := (zI (rd1 : Int))) (((congrFun (hF2.1 22 (by omega) (by omega) (by omega)) 7).trans i0.2.1.1)) ?_
      refine lv_aload_n hx hb wdX0_stageOf_54 rfl (lv_at hl 1 rfl) ?_
      refine f_0_0 F w (a := 22) rfl wtb_189 wdX0_stageOf_55 ?_
      refine lv_aload_n hx hb wdX0_stageOf_58 rfl (lv_at hl 1 rfl) ?_
      refine f_0_1 F w (a := 22) rfl wtb_190 wdX0_stageOf_59 ?_
      refine lv_aload_n hx hb wdX0_stageOf_62 rfl (lv_at hl 1 rfl) ?_
      refine f_0_7 F w (a := 22) rfl wtb_183 wdX0_stageOf_63 ?_
      refine r_val (v := (zI (rd1 : Int))) (((congrFun (hF2.1 22 (by omega) (by omega) (by omega)) 7).trans i0.2.1.1)) ?_
      refine g_aldR F w (a := 24) rfl (j := rd1) (o := (28 + 2 * rd1)) rfl (ix_n (by omega)) (by omega) wdX0_stageOf_66 ?_
      refine lv_aload_n hx hb wdX0_stageOf_67 rfl (lv_at hl 0 rfl) ?_
      refine k_Vi F w (As := [.ref (B + (28 + 2 * rd1)), .ref (B + (44 + 3 * (rd1 + 1)))]) (rest := [.int (zI (rd1 : Int)), .ref (B + 26)]) (a := 23) (kd_lt (a := 23) (show kd 23 = (1, 0, 0) from rfl) (by decide)) (sh_1 rfl _ _) rfl (s_X1_perform (a := 44 + 3 * (rd1 + 1)) (kd_sg (by omega)) hC2 (ru := 28 + 2 * rd1) (kd_lst (by omega)) ((i0.1.2.2 rd1 (by omega)).1.fr (hF2.1 _ (by omega) (by omega) (by omega))) (i0.1.2.2 rd1 (by omega)).2) wgv_X0_67 whv_X1_perform ⟨(by omega), (by omega)⟩ hl.1 rfl (Nat.le_of_ble_eq_true rfl) ⟨Nat.zero_le _, Nat.zero_le _⟩ wdX0_stageOf_68 (fun r Ma3 H locs hp w => ?_)
      rcases hp with ⟨o2, dd, pp, e2, rfl, hC3, hF3, hpp, hdd, hp20⟩
      refine g_iast F w (a := 26) rfl (j := rd1) (ix_n (by omega)) (by omega) wdX0_stageOf_71 (fun H locs w => ?_)
      refine lv_aload_n hx hb wdX0_stageOf_72 rfl (lv_at hl 1 rfl) ?_
      refine f_0_6 F w (a := 22) rfl wtb_194 wdX0_stageOf_73 ?_
      refine lv_aload_n hx hb wdX0_stageOf_76 rfl (lv_at hl 1 rfl) ?_
      refine f_0_7 F w (a := 22) rfl wtb_183 wdX0_stageOf_77 ?_
      refine r_val (v := (zI (rd1 : Int))) ((st_ne (Or.inl (by omega))).trans (((congrFun (hF3.1 22 (by omega) (by omega) (by omega) (by decide)) 7).trans ((congrFun (hF2.1 22 (by omega) (by omega) (by omega)) 7).trans i0.2.1.1)))) ?_
      refine lv_aload_n hx hb wdX0_stageOf_80 rfl (lv_at hl 1 rfl) ?_
      refine f_0_0 F w (a := 22) rfl wtb_189 wdX0_stageOf_81 ?_
      refine f_1_0 F w (a := 23) rfl wtb_195 wdX0_stageOf_84 ?_
      refine r_val (v := (zI (pp : Int))) ((st_ne (Or.inl (by omega))).trans hpp) ?_
      refine g_iast F w (a := 27) rfl (j := rd1) (ix_n (by omega)) (by omega) wdX0_stageOf_87 (fun H locs w => ?_)
      refine lv_aload_n hx hb wdX0_stageOf_88 rfl (lv_at hl 1 rfl) ?_
      refine lv_dup hx hb wdX0_stageOf_89 rfl ?_
      refine f_0_7 F w (a := 22) rfl wtb_183 wdX0_stageOf_90 ?_
      refine r_val (v := (zI (rd1 : Int))) ((st_ne (Or.inl (by omega))).trans ((st_ne (Or.inl (by omega))).trans (((congrFun (hF3.1 22 (by omega) (by omega) (by omega) (by decide)) 7).trans ((congrFun (hF2.1 22 (by omega) (by omega) (by omega)) 7).trans i0.2.1.1))))) ?_
      refine lv_iconst (v := zI 1) hx hb wdX0_stageOf_93 rfl ?_
      refine z_iadd (z := (((rd1 + 1) : Nat) : Int)) hx hb wdX0_stageOf_94 (by omega) ?_
      refine u_0_7 F w (a := 22) rfl wtb_183 wdX0_stageOf_95 (fun H locs w => ?_)
      refine lv_goto (tgt := 13) hx hb wdX0_stageOf_98 (by decide) ?_
      exact ih (rd1 + 1) (st (st (st Ma3 26 rd1 (zI (dd : Int))) 27 rd1 (zI (pp : Int))) 22 7 (zI (((rd1 + 1) : Nat) : Int))) (CS.step i0 (by omega) (Fr4.tr (Fr4.of3 hF2) hF3) hC3 e2 hdd hp20) (by omega) (FS.tr i2 (FS.step (by omega) (Fr4.tr (Fr4.of3 hF2) hF3))) (by omega) _ _ ls w (lv_sub hl [1, 2] rfl)
theorem wdX0_stageOf_0 : decode cX0_stageOf 0 = .ok (.aload_n 0, 1) := dq0 kk_42 (by decide +kernel)
theorem wdX0_stageOf_1 : decode cX0_stageOf 1 = .ok (.iload_n 1, 1) := dq0 kk_27 (by decide +kernel)
theorem wdX0_stageOf_2 : decode cX0_stageOf 2 = .ok (.invokevirtual 60, 3) := dqV kk_182 (by decide +kernel)
theorem wtk_X0_covers : Cond.code yX0_covers cX0_covers 2 (some .boolean) ∈ TB := tbm (tc4 (List.mem_of_getElem? (i := 101) rfl)) rfl
theorem wgc_X0_covers : GoodIn TB (cw yX0_covers cX0_covers 2 (some .boolean)) := goodIn_c2 wtk_X0_covers
theorem wtb_196 : Cond.methodLink "ToneLines$Derivation" 60 yX0_covers ∈ TB := tbm (tc4 (List.mem_of_getElem? (i := 106) rfl)) rfl
theorem wtb_197 : Cond.instanceMethod yX0_covers ∈ TB := tbm (tc4 (List.mem_of_getElem? (i := 99) rfl)) rfl
theorem wtb_198 : Cond.selects "ToneLines$Derivation" yX0_covers yX0_covers ∈ TB := tbm (tc4 (List.mem_of_getElem? (i := 100) rfl)) rfl
theorem wtb_199 : Cond.initialized "ToneLines$Derivation" ∈ TB := rtb_112
theorem wgv_X0_60 : GoodIn TB (wsV RX0 60 RX0 yX0_covers (cw yX0_covers cX0_covers 2 (some .boolean))) := goodIn_4 wtb_196 wtb_197 wtb_198 wtb_199 wgc_X0_covers
theorem whv_X0_covers : yX0_covers.cls = RX0 ∧ yX0_covers.cls ≠ "java/lang/invoke/MethodHandle" ∧ yX0_covers.cls ≠ "java/lang/invoke/VarHandle" ∧ (parseMethodDescriptor yX0_covers.desc).map (fun d => d.parameters.length) = some 1 := by decide +kernel
theorem wdX0_stageOf_5 : decode cX0_stageOf 5 = .ok (.ifCond .ne 8, 3) := dqT kk_154 (by decide +kernel)
theorem wdX0_stageOf_101 : decode cX0_stageOf 101 = .ok (.aload_n 0, 1) := dq0 kk_42 (by decide +kernel)
theorem wdX0_stageOf_102 : decode cX0_stageOf 102 = .ok (.getfield 30, 3) := dqV kk_180 (by decide +kernel)
theorem wdX0_stageOf_105 : decode cX0_stageOf 105 = .ok (.iload_n 1, 1) := dq0 kk_27 (by decide +kernel)
theorem wdX0_stageOf_106 : decode cX0_stageOf 106 = .ok (.aaload, 1) := dq0 kk_50 (by decide +kernel)
theorem wdX0_stageOf_107 : decode cX0_stageOf 107 = .ok (.areturn, 1) := dq0 kk_176 (by decide +kernel)
set_option maxRecDepth 4000 in
theorem g_stageOf {l : Launch} {D : va_G} {B : Nat} {cy : Nat → ClassId} {M : Mem} {Ps : Nat → Nat → Int} {mr rd k : Nat} {x : Fw} {Hs : Nat → Fw} (hS : CS M Ps mr x rd Hs k) {n9 : Nat} (hn : n9 ≤ mr) : Cr l D B cy yX0_stageOf cX0_stageOf 3 (some (.object "ToneLines$Word")) 5 133 [.ref (B + 22), .int (zI (n9 : Int))] M (fun r M1 => r = 44 + 3 * n9 ∧ ∃ rd1, n9 ≤ rd1 ∧ rd ≤ rd1 ∧ CS M1 Ps mr x rd1 Hs k ∧ FS M1 M) := by
  refine s_any (by decide) (Nat.le_of_ble_eq_true rfl) ?_
  intro p e s m below meth c ls F hr hlocks w hl
  have F : CallFix p m c cX0_stageOf 3 s _ TB RX0 := F
  have hx := F.1
  have hb := F.2.1
  have hl : lv_has ls 3 [(0, .ref (B + 22)), (1, .int (zI (n9 : Int)))] := hl
  have hm8 := hS.1.2.1
  have hrd := hS.2.1.2.1
  refine lv_aload_n hx hb wdX0_stageOf_0 rfl (lv_at hl 0 rfl) ?_
  refine lv_iload_n hx hb wdX0_stageOf_1 rfl (lv_at hl 1 rfl) ?_
  refine k_Vi F w (As := [.int (zI (n9 : Int))]) (rest := []) (a := 22) (kd_lt (a := 22) (show kd 22 = (0, 0, 0) from rfl) (by decide)) (sh_0 rfl _ _) rfl (g_covers hS (n9 := (n9 : Int)) (by omega)) wgv_X0_60 whv_X0_covers ⟨(Nat.le_of_ble_eq_true rfl), (Nat.le_of_ble_eq_true rfl)⟩ hl.1 rfl (Nat.le_of_ble_eq_true rfl) ⟨Nat.zero_le _, Nat.zero_le _⟩ wdX0_stageOf_2 (fun r Ma2 H locs hp w => ?_)
  rcases hp with ⟨⟨hb1, rfl⟩ | ⟨hb1, rfl⟩, hMe⟩
  · rw [hMe] at w
    refine z_if_ne (tgt := 13) hx hb (by omega) wdX0_stageOf_5 (by decide) (fun c3 => ?_) (fun c3 => False.elim (by omega))
    refine lp_X0_stageOf  F (Nat.le_of_ble_eq_true rfl) (Nat.le_of_ble_eq_true rfl) hn hm8 (fun rd1 Nm H locs ls x0 x1 x2 x3 w hl => ?_) n9 rd M hS (Nat.le_refl _) FS.rf (by omega) _ _ ls w (lv_sub hl [0, 1] rfl)
    have hr1 := x0.2.1.2.1
    refine lv_aload_n hx hb wdX0_stageOf_101 rfl (lv_at hl 0 rfl) ?_
    refine f_0_3 F w (a := 22) rfl wtb_184 wdX0_stageOf_102 ?_
    refine lv_iload_n hx hb wdX0_stageOf_105 rfl (lv_at hl 1 rfl) ?_
    refine g_aldW F w (a := 25) rfl (j := n9) (o := (44 + 3 * n9)) rfl (ix_n (by omega)) (by omega) wdX0_stageOf_106 ?_
    exact e_r (post := fun r M1 => r = 44 + 3 * n9 ∧ ∃ rd1, n9 ≤ rd1 ∧ rd ≤ rd1 ∧ CS M1 Ps mr x rd1 Hs k ∧ FS M1 M) F w hr hlocks ⟨rfl, rd1, x1, x2, x0, x3⟩ wdX0_stageOf_107
  · exact False.elim (by omega)
theorem wdX0_changesUpTo_4 : decode cX0_changesUpTo 4 = .ok (.iload_n 3, 1) := dq0 kk_29 (by decide +kernel)
theorem wdX0_changesUpTo_5 : decode cX0_changesUpTo 5 = .ok (.iload_n 1, 1) := dq0 kk_27 (by decide +kernel)
theorem wdX0_changesUpTo_6 : decode cX0_changesUpTo 6 = .ok (.if_icmp .ge 26, 3) := dqT kk_162 (by decide +kernel)
theorem wdX0_changesUpTo_9 : decode cX0_changesUpTo 9 = .ok (.iload_n 3, 1) := dq0 kk_29 (by decide +kernel)
theorem wdX0_changesUpTo_10 : decode cX0_changesUpTo 10 = .ok (.aload_n 0, 1) := dq0 kk_42 (by decide +kernel)
theorem wdX0_changesUpTo_11 : decode cX0_changesUpTo 11 = .ok (.getfield 41, 3) := dqV kk_180 (by decide +kernel)
theorem wdX0_changesUpTo_14 : decode cX0_changesUpTo 14 = .ok (.if_icmp .ge 18, 3) := dqT kk_162 (by decide +kernel)
theorem wdX0_changesUpTo_17 : decode cX0_changesUpTo 17 = .ok (.iload_n 2, 1) := dq0 kk_28 (by decide +kernel)
theorem wdX0_changesUpTo_18 : decode cX0_changesUpTo 18 = .ok (.aload_n 0, 1) := dq0 kk_42 (by decide +kernel)
theorem wdX0_changesUpTo_19 : decode cX0_changesUpTo 19 = .ok (.getfield 34, 3) := dqV kk_180 (by decide +kernel)
theorem wdX0_changesUpTo_22 : decode cX0_changesUpTo 22 = .ok (.iload_n 3, 1) := dq0 kk_29 (by decide +kernel)
theorem wdX0_changesUpTo_23 : decode cX0_changesUpTo 23 = .ok (.iaload, 1) := dq0 kk_46 (by decide +kernel)
theorem wdX0_changesUpTo_24 : decode cX0_changesUpTo 24 = .ok (.iadd, 1) := dq0 kk_96 (by decide +kernel)
theorem wdX0_changesUpTo_25 : decode cX0_changesUpTo 25 = .ok (.istore_n 2, 1) := dq0 kk_61 (by decide +kernel)
theorem wdX0_changesUpTo_26 : decode cX0_changesUpTo 26 = .ok (.iinc 3 1, 3) := dqI kk_132 (by decide +kernel)
theorem wdX0_changesUpTo_29 : decode cX0_changesUpTo 29 = .ok (.goto (-25), 3) := dqT kk_167 (by decide +kernel)
set_option maxRecDepth 4000 in
theorem lp_X0_changes {p : Program} {l : Launch} {e : Env} {s : State} {m : MethodId} {args : Array Value} {below : List Frame} {meth : Method} {c : Code} {D : va_G} {B : Nat} {cy : Nat → ClassId} {H0 : Heap} {Q : State → Prop} {M : Mem} {R : Room} {Ps : Nat → Nat → Int} {mr rd k n9 : Nat} {x : Fw} {Hs : Nat → Fw} (F : CallFix p m c cX0_changesUpTo 4 s args TB RX0) (hR1 : 0 ≤ R.frames) (hR2 : 0 ≤ R.locals) (hS : CS M Ps mr x rd Hs k) (hn : n9 ≤ rd) (kk : ∀ (j : Nat) (H : Heap) (locs : List Loc) (ls : Array Slot), (j = n9) → Wd D B cy s H0 M H locs → lv_has ls 4 [(2, .int (zI (((dv2 Ps x j) : Nat) : Int)))] → W p l e R s m args below meth c H locs 0 0 Q (F0 m 32 ls [])) : ∀ (f : Nat) (j : Nat), (j ≤ n9) → (n9 ≤ j + f) → ∀ (H : Heap) (locs : List Loc) (ls : Array Slot), Wd D B cy s H0 M H locs → lv_has ls 4 [(3, .int (zI (j : Int))), (2, .int (zI (((dv2 Ps x j) : Nat) : Int))), (0, .ref (B + 22)), (1, .int (zI (n9 : Int)))] → W p l e R s m args below meth c H locs 0 0 Q (F0 m 4 ls []) := by
  have hx := F.1
  have hb := F.2.1
  have hm8 := hS.1.2.1
  have hrd := hS.2.1.2.1
  intro f
  induction f with
  | zero =>
    intro j i0 hf H locs ls w hl
    have hdl := dv2_le hS.2.1 j (by omega)
    refine lv_iload_n hx hb wdX0_changesUpTo_4 rfl (lv_at hl 0 rfl) ?_
    refine lv_iload_n hx hb wdX0_changesUpTo_5 rfl (lv_at hl 3 rfl) ?_
    refine z_icmp_ge (tgt := 32) hx hb (by omega) (by omega) wdX0_changesUpTo_6 (by decide) (fun c1 => ?_) (fun c1 => False.elim (by omega))
    exact kk j _ _ ls (by omega) w (lv_sub hl [1] rfl)
  | succ f ih =>
    intro j i0 hf H locs ls w hl
    have hdl := dv2_le hS.2.1 j (by omega)
    refine lv_iload_n hx hb wdX0_changesUpTo_4 rfl (lv_at hl 0 rfl) ?_
    refine lv_iload_n hx hb wdX0_changesUpTo_5 rfl (lv_at hl 3 rfl) ?_
    refine z_icmp_ge (tgt := 32) hx hb (by omega) (by omega) wdX0_changesUpTo_6 (by decide) (fun c1 => ?_) (fun c1 => ?_)
    · exact kk j _ _ ls (by omega) w (lv_sub hl [1] rfl)
    · refine lv_iload_n hx hb wdX0_changesUpTo_9 rfl (lv_at hl 0 rfl) ?_
      refine lv_aload_n hx hb wdX0_changesUpTo_10 rfl (lv_at hl 2 rfl) ?_
      refine f_0_7 F w (a := 22) rfl wtb_183 wdX0_changesUpTo_11 ?_
      refine r_val (v := (zI (rd : Int))) (hS.2.1.1) ?_
      refine z_icmp_ge (tgt := 32) hx hb (by omega) (by omega) wdX0_changesUpTo_14 (by decide) (fun c2 => ?_) (fun c2 => ?_)
      · exact kk j _ _ ls (by omega) w (lv_sub hl [1] rfl)
      · refine lv_iload_n hx hb wdX0_changesUpTo_17 rfl (lv_at hl 1 rfl) ?_
        refine lv_aload_n hx hb wdX0_changesUpTo_18 rfl (lv_at hl 2 rfl) ?_
        refine f_0_5 F w (a := 22) rfl wtb_188 wdX0_changesUpTo_19 ?_
        refine lv_iload_n hx hb wdX0_changesUpTo_22 rfl (lv_at hl 0 rfl) ?_
        refine g_iald F w (a := 26) rfl (j := j) (ix_n (by omega)) (by omega) wdX0_changesUpTo_23 ?_
        have hcd := hS.2.1.2.2.2 j (by omega)
        refine r_val (v := (zI (((pf9 Ps x j).2.1 : Nat) : Int))) (hcd.1) ?_
        refine z_iadd (z := ((((dv2 Ps x j) + (pf9 Ps x j).2.1) : Nat) : Int)) hx hb wdX0_changesUpTo_24 (by omega) ?_
        refine r_val (v := zI ((dv2 Ps x (j + 1) : Nat) : Int)) (congrArg zI (by have h9 := dv2_s (Ps := Ps) (x := x) (i := j); omega)) ?_
        refine lv_istore_n (lv' := [(2, .int (zI (((dv2 Ps x (j + 1)) : Nat) : Int))), (3, .int (zI (j : Int))), (0, .ref (B + 22)), (1, .int (zI (n9 : Int)))]) hx hb wdX0_changesUpTo_25 rfl hl (by decide) rfl (fun ls hl => ?_)
        refine z_iinc (v := (((j + 1) : Nat) : Int)) (lv' := [(3, .int (zI (((j + 1) : Nat) : Int))), (2, .int (zI (((dv2 Ps x (j + 1)) : Nat) : Int))), (0, .ref (B + 22)), (1, .int (zI (n9 : Int)))]) hx hb wdX0_changesUpTo_26 hl (k := 1) rfl (by omega) (by decide) rfl (fun ls hl => ?_)
        refine lv_goto (tgt := 4) hx hb wdX0_changesUpTo_29 (by decide) ?_
        exact ih (j + 1) (by omega) (by omega) _ _ ls w (lv_sub hl [0, 1, 2, 3] rfl)
theorem wdX0_changesUpTo_0 : decode cX0_changesUpTo 0 = .ok (.iconst 0, 1) := dq0 kk_3 (by decide +kernel)
theorem wdX0_changesUpTo_1 : decode cX0_changesUpTo 1 = .ok (.istore_n 2, 1) := dq0 kk_61 (by decide +kernel)
theorem wdX0_changesUpTo_2 : decode cX0_changesUpTo 2 = .ok (.iconst 0, 1) := dq0 kk_3 (by decide +kernel)
theorem wdX0_changesUpTo_3 : decode cX0_changesUpTo 3 = .ok (.istore_n 3, 1) := dq0 kk_62 (by decide +kernel)
theorem wdX0_changesUpTo_32 : decode cX0_changesUpTo 32 = .ok (.iload_n 2, 1) := dq0 kk_28 (by decide +kernel)
theorem wdX0_changesUpTo_33 : decode cX0_changesUpTo 33 = .ok (.ireturn, 1) := dq0 kk_172 (by decide +kernel)
set_option maxRecDepth 4000 in
theorem g_changesUpTo {l : Launch} {D : va_G} {B : Nat} {cy : Nat → ClassId} {M : Mem} {Ps : Nat → Nat → Int} {mr rd k : Nat} {x : Fw} {Hs : Nat → Fw} (hS : CS M Ps mr x rd Hs k) {n9 : Nat} (hn : n9 ≤ rd) : Ci l D B cy yX0_changesUpTo cX0_changesUpTo 4 (some .int) 0 0 [.ref (B + 22), .int (zI (n9 : Int))] M (fun r M1 => r = zI ((dv2 Ps x n9 : Nat) : Int) ∧ M1 = M) := by
  refine s_any (by decide) (Nat.le_of_ble_eq_true rfl) ?_
  intro p e s m below meth c ls F hr hlocks w hl
  have F : CallFix p m c cX0_changesUpTo 4 s _ TB RX0 := F
  have hx := F.1
  have hb := F.2.1
  have hl : lv_has ls 4 [(0, .ref (B + 22)), (1, .int (zI (n9 : Int)))] := hl
  have hm8 := hS.1.2.1
  have hrd := hS.2.1.2.1
  refine lv_iconst (v := zI 0) hx hb wdX0_changesUpTo_0 rfl ?_
  refine lv_istore_n (lv' := [(2, .int (zI 0)), (0, .ref (B + 22)), (1, .int (zI (n9 : Int)))]) hx hb wdX0_changesUpTo_1 rfl hl (by decide) rfl (fun ls hl => ?_)
  refine lv_iconst (v := zI 0) hx hb wdX0_changesUpTo_2 rfl ?_
  refine lv_istore_n (lv' := [(3, .int (zI 0)), (2, .int (zI 0)), (0, .ref (B + 22)), (1, .int (zI (n9 : Int)))]) hx hb wdX0_changesUpTo_3 rfl hl (by decide) rfl (fun ls hl => ?_)
  refine lp_X0_changes  F (Nat.le_of_ble_eq_true rfl) (Nat.le_of_ble_eq_true rfl) hS hn (fun j H locs ls x0 w hl => ?_) n9 0 (by omega) (by omega) _ _ ls w (lv_sub hl [0, 1, 2, 3] rfl)
  rw [x0] at hl
  refine lv_iload_n hx hb wdX0_changesUpTo_32 rfl (lv_at hl 0 rfl) ?_
  exact e_i F w hr hlocks ⟨rfl, rfl⟩ wdX0_changesUpTo_33
