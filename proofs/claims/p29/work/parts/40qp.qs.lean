-- sources: words without lines, told by a number
def p39 (i : Nat) : Nat := 3 ^ i
theorem p3_s (i : Nat) : p39 (i + 1) = p39 i * 3 := by
  unfold p39
  rw [Nat.pow_succ]
theorem p3_b {i : Nat} (h : i ≤ 6) : 1 ≤ p39 i ∧ p39 i ≤ 729 := (by decide : ∀ i, i < 7 → 1 ≤ p39 i ∧ p39 i ≤ 729) i (by omega)
def sr3 (c i : Nat) : Nat := c / p39 i
theorem sr3_0 (c : Nat) : sr3 c 0 = c := Nat.div_one c
theorem sr3_s (c i : Nat) : sr3 c (i + 1) = sr3 c i / 3 := by
  unfold sr3
  rw [p3_s, Nat.div_div_eq_div_mul]
theorem sr3_le (c i : Nat) : sr3 c i ≤ c := Nat.div_le_self _ _
def srK (n c : Nat) : Nat → Nat := fun k => sr3 c (n - 1 - k) % 3
def srL : Nat → Nat := fun _ => 0
def srO (n c : Nat) : Wo := (n, srK n c, srL)
theorem srK_le {n c k : Nat} : srK n c k ≤ 2 := by
  have h := Nat.mod_lt (sr3 c (n - 1 - k)) (show 0 < 3 by decide)
  show sr3 c (n - 1 - k) % 3 ≤ 2
  omega
theorem okW_sr {q n c : Nat} (hq : q ≤ 12) (hn : n ≤ 12) : okW q (srO n c) := ⟨hn, hq, fun k _ => ⟨srK_le, show 0 < 2 ^ q from Nat.pow_pos (by decide)⟩⟩
theorem nc_sr {n c : Nat} : ncW (srO n c) := fun t u i j _ _ h _ => by
  have e : (0 : Nat).testBit i = true := h
  rw [Nat.zero_testBit] at e
  cases e
theorem wf_sr {i n c q hv ed n0 : Nat} {K L : Nat → Nat} (h : wf n0 q hv ed K L) (hi : i ≤ 12) : wf i q hv ed (srK n c) srL := ⟨hi, h.2.1, h.2.2.1, h.2.2.2.1, fun k _ => ⟨srK_le, show (0 : Nat) < 4096 by decide⟩⟩
theorem isW.cg {M : Mem} {a n q hv ed : Nat} {K L K2 L2 : Nat → Nat} (h : isW M a n q hv ed K L) (e : ∀ k, k < n → K k = K2 k) (e2 : ∀ k, k < n → L k = L2 k) : isW M a n q hv ed K2 L2 := ⟨h.1, h.2.1, h.2.2.1, h.2.2.2.1, fun k hk => by rw [← e k hk]; exact h.2.2.2.2.1 k hk, fun k hk => by rw [← e2 k hk]; exact h.2.2.2.2.2 k hk⟩
theorem isR.cg {M : Mem} {a n q hv ed : Nat} {K L K2 L2 : Nat → Nat} (h : isR M a n q hv ed K L) (e : ∀ k, k < n → K k = K2 k) (e2 : ∀ k, k < n → L k = L2 k) : isR M a n q hv ed K2 L2 := ⟨h.1, h.2.1, h.2.2.1, h.2.2.2.1, fun k hk => by rw [← e k hk]; exact h.2.2.2.2.1 k hk, fun k hk => by rw [← e2 k hk]; exact h.2.2.2.2.2 k hk⟩
theorem sr_ins0 {i c : Nat} : ∀ k, k < i + 1 → insF (srK i c) 0 (sr3 c i % 3) k = srK (i + 1) c k := fun k hk => by
  unfold insF srK
  rw [if_neg (Nat.not_lt_zero k)]
  by_cases h : k = 0
  · rw [if_pos h, show i + 1 - 1 - k = i by omega]
  · rw [if_neg h, show i - 1 - (k - 1) = i + 1 - 1 - k by omega]
theorem sr_insN {n c k : Nat} : ∀ j, j < k + 1 → insF (srK n c) k (sr3 c (n - 1 - k) % 3) j = srK n c j := fun j hj => by
  unfold insF
  by_cases h : j < k
  · rw [if_pos h]
  · have e : j = k := by omega
    rw [if_neg h, if_pos e, e]
    rfl
theorem sr_insL {t : Nat} : ∀ k, insF srL t 0 k = srL k := fun k => by
  unfold insF
  by_cases h : k < t
  · rw [if_pos h]
  · rw [if_neg h]
    by_cases h2 : k = t
    · rw [if_pos h2]; rfl
    · rw [if_neg h2]; rfl
theorem W_cs {M : Mem} {a n q0 hv0 ed0 q hv ed : Nat} {K L : Nat → Nat} (h : isW M a n q0 hv0 ed0 K L) : isW (st (st (st M a 1 (zI (q : Int))) a 2 (zI (hv : Int))) a 3 (zI (ed : Int))) a n q hv ed K L ∧ Fr3 (st (st (st M a 1 (zI (q : Int))) a 2 (zI (hv : Int))) a 3 (zI (ed : Int))) M a := by
  refine ⟨⟨?_, ?_, ?_, st_at, fun k hk => ?_, fun k hk => ?_⟩, fun b h1 _ _ => ?_, rfl⟩
  · rw [st_ne (Or.inr (by decide)), st_ne (Or.inr (by decide)), st_ne (Or.inr (by decide))]; exact h.1
  · rw [st_ne (Or.inr (by decide)), st_ne (Or.inr (by decide))]; exact st_at
  · rw [st_ne (Or.inr (by decide))]; exact st_at
  · rw [st_ne (Or.inl (by omega)), st_ne (Or.inl (by omega)), st_ne (Or.inl (by omega))]; exact h.2.2.2.2.1 k hk
  · rw [st_ne (Or.inl (by omega)), st_ne (Or.inl (by omega)), st_ne (Or.inl (by omega))]; exact h.2.2.2.2.2 k hk
  · rw [st_ob h1, st_ob h1, st_ob h1]
theorem R_z {M : Mem} {a n q hv ed : Nat} {K L K2 L2 : Nat → Nat} (h : isR M a n q hv ed K L) : isR (st M a 0 (zI ((0 : Nat) : Int))) a 0 q hv ed K2 L2 := ⟨st_at, by rw [st_ne (Or.inr (by decide))]; exact h.2.1, by rw [st_ne (Or.inr (by decide))]; exact h.2.2.1, by rw [st_ne (Or.inr (by decide))]; exact h.2.2.2.1, fun k hk => absurd hk (Nat.not_lt_zero k), fun k hk => absurd hk (Nat.not_lt_zero k)⟩
theorem sg9_x {Ps : Nat → Nat → Int} {q hv ed r : Nat} {o o2 : Wo} {c : Nat × Nat} (e : pfF (Ps r) q hv ed 20 (sg9 Ps (q, hv, ed, o) r) = (o2, c)) : sg9 Ps (q, hv, ed, o) (r + 1) = o2 := by
  show (pfF (Ps r) q hv ed 20 (sg9 Ps (q, hv, ed, o) r)).1 = o2
  rw [e]
/-- the word that a source gives; is it read as the one due -/
noncomputable def srW (Ps : Nat → Nat → Int) (m : Nat) (x : Fw) (n c : Nat) : Wo := sg9 Ps (x.1, x.2.1, x.2.2.1, srO n c) m
noncomputable def srP (Ps : Nat → Nat → Int) (m : Nat) (x : Fw) (n c : Nat) : Nat := yn (rdE x.1 (srW Ps m x n c) (sg9 Ps x m))
noncomputable def scF (Ps : Nat → Nat → Int) (m : Nat) (x : Fw) (n : Nat) : Nat → Nat
  | 0 => 0
  | c + 1 => scF Ps m x n c + srP Ps m x n c
noncomputable def sfF (Ps : Nat → Nat → Int) (m : Nat) (x : Fw) (n : Nat) : Nat → Int
  | 0 => -2
  | c + 1 => if srP Ps m x n c = 1 ∧ scF Ps m x n c = 0 then (c : Int) else sfF Ps m x n c
theorem yn_le {p : Prop} : yn p ≤ 1 := by
  by_cases h : p
  · rw [yn_1 h]; decide
  · rw [yn_0 h]; decide
theorem sc_y {Ps : Nat → Nat → Int} {m n c : Nat} {x : Fw} (h : rdE x.1 (srW Ps m x n c) (sg9 Ps x m)) : scF Ps m x n (c + 1) = scF Ps m x n c + 1 := by rw [scF, srP, yn_1 h]
theorem sc_n {Ps : Nat → Nat → Int} {m n c : Nat} {x : Fw} (h : ¬ rdE x.1 (srW Ps m x n c) (sg9 Ps x m)) : scF Ps m x n (c + 1) = scF Ps m x n c := by rw [scF, srP, yn_0 h]; rfl
theorem sf_0 {Ps : Nat → Nat → Int} {m n c : Nat} {x : Fw} (h : rdE x.1 (srW Ps m x n c) (sg9 Ps x m)) (h0 : scF Ps m x n c = 0) : sfF Ps m x n (c + 1) = (c : Int) := by rw [sfF, if_pos ⟨yn_1 h, h0⟩]
theorem sf_1 {Ps : Nat → Nat → Int} {m n c : Nat} {x : Fw} (h0 : ¬ scF Ps m x n c = 0) : sfF Ps m x n (c + 1) = sfF Ps m x n c := by rw [sfF, if_neg (fun h => h0 h.2)]
theorem sf_n {Ps : Nat → Nat → Int} {m n c : Nat} {x : Fw} (h : ¬ rdE x.1 (srW Ps m x n c) (sg9 Ps x m)) : sfF Ps m x n (c + 1) = sfF Ps m x n c := by rw [sfF, if_neg (fun h1 => by have h2 := h1.1; rw [srP, yn_0 h] at h2; cases h2)]
theorem sc_le {Ps : Nat → Nat → Int} {m n : Nat} {x : Fw} : ∀ c, scF Ps m x n c ≤ c
  | 0 => Nat.le_refl 0
  | c + 1 => by
    have h := sc_le (Ps := Ps) (m := m) (n := n) (x := x) c
    have h1 : srP Ps m x n c ≤ 1 := yn_le
    show scF Ps m x n c + srP Ps m x n c ≤ c + 1
    omega
theorem sf_b {Ps : Nat → Nat → Int} {m n : Nat} {x : Fw} : ∀ c, -2 ≤ sfF Ps m x n c ∧ sfF Ps m x n c ≤ (c : Int)
  | 0 => ⟨by show (-2 : Int) ≤ -2; decide, by show (-2 : Int) ≤ _; omega⟩
  | c + 1 => by
    have h := sf_b (Ps := Ps) (m := m) (n := n) (x := x) c
    rw [sfF]
    by_cases h1 : srP Ps m x n c = 1 ∧ scF Ps m x n c = 0
    · rw [if_pos h1]; omega
    · rw [if_neg h1]; omega
noncomputable def soA (Ps : Nat → Nat → Int) (m : Nat) (n : Int) (x : Fw) : Int := if 0 ≤ n ∧ n ≤ 6 then ((scF Ps m x n.toNat (p39 n.toNat) : Nat) : Int) else -1
noncomputable def sfA (Ps : Nat → Nat → Int) (m : Nat) (n : Int) (x : Fw) : Int := if 0 ≤ n ∧ n ≤ 6 then sfF Ps m x n.toNat (p39 n.toNat) else -1
theorem soA_n {Ps : Nat → Nat → Int} {m : Nat} {n : Int} {x : Fw} (h : ¬ (0 ≤ n ∧ n ≤ 6)) : soA Ps m n x = -1 := by unfold soA; rw [if_neg h]
theorem sfA_n {Ps : Nat → Nat → Int} {m : Nat} {n : Int} {x : Fw} (h : ¬ (0 ≤ n ∧ n ≤ 6)) : sfA Ps m n x = -1 := by unfold sfA; rw [if_neg h]
theorem soA_y {Ps : Nat → Nat → Int} {m nn : Nat} {x : Fw} (h : nn ≤ 6) : soA Ps m (nn : Int) x = ((scF Ps m x nn (p39 nn) : Nat) : Int) := by unfold soA; rw [if_pos (by omega), Int.toNat_natCast]
theorem sfA_y {Ps : Nat → Nat → Int} {m nn : Nat} {x : Fw} (h : nn ≤ 6) : sfA Ps m (nn : Int) x = sfF Ps m x nn (p39 nn) := by unfold sfA; rw [if_pos (by omega), Int.toNat_natCast]
theorem srP_l {Ps : Nat → Nat → Int} {m n c q hv ed hv2 ed2 : Nat} {o : Wo} (hG : ∀ j, j < m → okG (Ps j)) (hk : okW q o) (h1 : lkB q hv hv2) (h2 : lkB q ed ed2) (hn : n ≤ 12) : srP Ps m (q, hv, ed, o) n c = srP Ps m (q, hv2, ed2, o) n c := by
  unfold srP srW
  show yn (rdE q (sg9 Ps (q, hv, ed, srO n c) m) (sg9 Ps (q, hv, ed, o) m)) = yn (rdE q (sg9 Ps (q, hv2, ed2, srO n c) m) (sg9 Ps (q, hv2, ed2, o) m))
  rw [(sg9_l (n := m) hG hk h1 h2 (Nat.le_refl m)).1, (sg9_l (n := m) hG (okW_sr (n := n) (c := c) hk.2.1 hn) h1 h2 (Nat.le_refl m)).1]
theorem sc_l {Ps : Nat → Nat → Int} {m n q hv ed hv2 ed2 : Nat} {o : Wo} (hG : ∀ j, j < m → okG (Ps j)) (hk : okW q o) (h1 : lkB q hv hv2) (h2 : lkB q ed ed2) (hn : n ≤ 12) : ∀ c, scF Ps m (q, hv, ed, o) n c = scF Ps m (q, hv2, ed2, o) n c
  | 0 => rfl
  | c + 1 => by rw [scF, scF, sc_l hG hk h1 h2 hn c, srP_l hG hk h1 h2 hn]
theorem sf_l {Ps : Nat → Nat → Int} {m n q hv ed hv2 ed2 : Nat} {o : Wo} (hG : ∀ j, j < m → okG (Ps j)) (hk : okW q o) (h1 : lkB q hv hv2) (h2 : lkB q ed ed2) (hn : n ≤ 12) : ∀ c, sfF Ps m (q, hv, ed, o) n c = sfF Ps m (q, hv2, ed2, o) n c
  | 0 => rfl
  | c + 1 => by rw [sfF, sfF, sf_l hG hk h1 h2 hn c, sc_l hG hk h1 h2 hn c, srP_l hG hk h1 h2 hn]
theorem al_sfir {Ps : Nat → Nat → Int} {m q hv ed hv2 ed2 : Nat} {o : Wo} {n : Int} (hG : ∀ j, j < m → okG (Ps j)) (hk : okW q o) (h1 : lkB q hv hv2) (h2 : lkB q ed ed2) : sfA Ps m n (q, hv, ed, o) = sfA Ps m n (q, hv2, ed2, o) := by
  by_cases h : 0 ≤ n ∧ n ≤ 6
  · unfold sfA
    rw [if_pos h, if_pos h, sf_l hG hk h1 h2 (by omega)]
  · rw [sfA_n h, sfA_n h]
/-- what the class keeps of sources that it has reckoned: it is so -/
def JS9 (M : Mem) (Ps : Nat → Nat → Int) (m : Nat) (x : Fw) : Prop := ∃ kn : Nat, kn < 4096 ∧ M.1 135 0 = zI (kn : Int) ∧ ∀ n, n ≤ 6 → kn.testBit n = true → M.1 136 n = zI ((scF Ps m x n (p39 n) : Nat) : Int) ∧ M.1 137 n = zI (sfF Ps m x n (p39 n))
theorem JS9.fr {M M1 : Mem} {Ps : Nat → Nat → Int} {m : Nat} {x : Fw} (h : JS9 M Ps m x) (e0 : M1.1 135 = M.1 135) (e1 : M1.1 136 = M.1 136) (e2 : M1.1 137 = M.1 137) : JS9 M1 Ps m x := by
  obtain ⟨kn, h1, h2, h3⟩ := h
  exact ⟨kn, h1, by rw [e0]; exact h2, fun n hn hb => by rw [e1, e2]; exact h3 n hn hb⟩
theorem JS9.z {M : Mem} {Ps : Nat → Nat → Int} {m : Nat} {x : Fw} (h : M.1 135 0 = zI 0) : JS9 M Ps m x := ⟨0, by decide, h, fun n _ hb => by rw [Nat.zero_testBit] at hb; cases hb⟩
/-- one row more -/
def FrJ (n : Nat) (M1 M : Mem) : Prop := M1.1 135 = M.1 135 ∧ ∀ j, j ≠ n → M1.1 136 j = M.1 136 j ∧ M1.1 137 j = M.1 137 j
theorem JS9.add {M M1 : Mem} {Ps : Nat → Nat → Int} {m n kn : Nat} {x : Fw} (hk : kn < 4096) (hn : n ≤ 6) (h3 : ∀ n, n ≤ 6 → kn.testBit n = true → M.1 136 n = zI ((scF Ps m x n (p39 n) : Nat) : Int) ∧ M.1 137 n = zI (sfF Ps m x n (p39 n))) (hF : FrJ n M1 M) (h1 : M1.1 136 n = zI ((scF Ps m x n (p39 n) : Nat) : Int)) (h2 : M1.1 137 n = zI (sfF Ps m x n (p39 n))) : JS9 (st M1 135 0 (zI ((kn ||| 2 ^ n : Nat) : Int))) Ps m x := by
  refine ⟨kn ||| 2 ^ n, or_lt12 hk (by have h9 := p2_b (n := n) (by omega); omega), st_at, fun j hj hb => ?_⟩
  rw [st_ob (by decide), st_ob (by decide)]
  by_cases e : j = n
  · rw [e]; exact ⟨h1, h2⟩
  · rw [Nat.testBit_or, Nat.testBit_two_pow, decide_eq_false (fun q => e q.symm), Bool.or_false] at hb
    rw [(hF.2 j e).1, (hF.2 j e).2]
    exact h3 j hj hb
theorem CS.d138 {M M1 : Mem} {Ps : Nat → Nat → Int} {m rd k : Nat} {x : Fw} {Hs : Nat → Fw} (h : CS M Ps m x rd Hs k) (hF : Fr4 M1 M 138) : CS M1 Ps m x rd Hs k := h.fr (hF.1 22 (by decide) (by decide) (by decide) (by decide)) (fun b a1 a2 => hF.1 b (by omega) (by omega) (by omega) (by omega))
theorem CS.d13 {M : Mem} {Ps : Nat → Nat → Int} {m rd k a j : Nat} {x : Fw} {Hs : Nat → Fw} {v : Int32} (h : CS M Ps m x rd Hs k) (ha : 109 ≤ a) : CS (st M a j v) Ps m x rd Hs k := h.fr (st_ob (by omega)) (fun b a1 a2 => st_ob (by omega))
theorem FrJ.d {n : Nat} {M M1 M2 : Mem} (h : FrJ n M1 M) (hF : Fr4 M2 M1 138) : FrJ n M2 M := by
  have e : ∀ b, b < 138 → b ≠ 23 → M2.1 b = M1.1 b := fun b h1 h2 => hF.1 b (by omega) (by omega) (by omega) h2
  refine ⟨(e 135 (by decide) (by decide)).trans h.1, fun j hj => ?_⟩
  rw [e 136 (by decide) (by decide), e 137 (by decide) (by decide)]
  exact h.2 j hj
theorem FrJ.s6 {n : Nat} {M M1 : Mem} {v : Int32} (h : FrJ n M1 M) : FrJ n (st M1 136 n v) M := ⟨(st_ob (by decide)).trans h.1, fun j hj => ⟨(st_ne (Or.inr hj)).trans (h.2 j hj).1, (congrFun (st_ob (by decide)) j).trans (h.2 j hj).2⟩⟩
theorem FrJ.s7 {n : Nat} {M M1 : Mem} {v : Int32} (h : FrJ n M1 M) : FrJ n (st M1 137 n v) M := ⟨(st_ob (by decide)).trans h.1, fun j hj => ⟨(congrFun (st_ob (by decide)) j).trans (h.2 j hj).1, (st_ne (Or.inr hj)).trans (h.2 j hj).2⟩⟩
theorem FrJ.rf {n : Nat} {M : Mem} : FrJ n M M := ⟨rfl, fun _ _ => ⟨rfl, rfl⟩⟩
theorem MS.s26 {M : Mem} {Ps : Nat → Nat → Int} {m k : Nat} {x : Fw} {Hs : Nat → Fw} {v : Int32} (h : MS M Ps m x Hs k) : MS (st M 146 26 v) Ps m x Hs k := h.fr (st_ob (by decide)) (st_ob (by decide)) (st_ob (by decide)) (st_ne (Or.inr (by decide))) (st_ne (Or.inr (by decide)))
theorem RW.sr {M : Mem} {q hv ed n c : Nat} (h : isR M 148 n q hv ed (srK n c) srL) (hq : q ≤ 12) (hn : n ≤ 12) (hv9 : hv < 4096) (he9 : ed < 4096) : ∃ z, RW M q hv ed (srO n c) z := by
  obtain ⟨z, _, e⟩ := zI_ex (M.1 146 3)
  exact ⟨z, h, okW_sr hq hn, hv9, he9, e⟩
theorem p3_d {n j : Nat} (h : j < n) : p39 (n - j) / 3 = p39 (n - 1 - j) := by
  rw [show n - j = (n - 1 - j) + 1 by omega, p3_s, Nat.mul_div_cancel _ (by decide)]
theorem Fr1.t2 {M M1 M2 : Mem} {a : Nat} (h1 : Fr1 M1 M a) (h2 : Fr1 M2 M1 a) : Fr1 M2 M a := ⟨fun b hb => (h2.1 b hb).trans (h1.1 b hb), h2.2.trans h1.2⟩
theorem wdX6_layRow_21 : decode cX6_layRow 21 = .ok (.iload 5, 2) := dX6_layRow_21
theorem wdX6_layRow_23 : decode cX6_layRow 23 = .ok (.iload_n 2, 1) := dX6_layRow_23
theorem wdX6_layRow_24 : decode cX6_layRow 24 = .ok (.if_icmp .ge 27, 3) := dX6_layRow_24
theorem wdX6_layRow_27 : decode cX6_layRow 27 = .ok (.aload_n 0, 1) := dX6_layRow_27
theorem wdX6_layRow_28 : decode cX6_layRow 28 = .ok (.getfield 25, 3) := dX6_layRow_28
theorem wtb_434 : Cond.fieldLink "ToneLines$Sources" 25 "ToneLines$Sources" "row" "LToneLines$Word;" ∈ TB := tb_233
theorem wdX6_layRow_31 : decode cX6_layRow 31 = .ok (.iconst 0, 1) := dX6_layRow_31
theorem wdX6_layRow_32 : decode cX6_layRow 32 = .ok (.iload 4, 2) := dX6_layRow_32
theorem wdX6_layRow_34 : decode cX6_layRow 34 = .ok (.iconst 3, 1) := dX6_layRow_34
theorem wdX6_layRow_35 : decode cX6_layRow 35 = .ok (.irem, 1) := dX6_layRow_35
theorem wdX6_layRow_36 : decode cX6_layRow 36 = .ok (.invokevirtual 69, 3) := dX6_layRow_36
theorem wtb_435 : Cond.methodLink "ToneLines$Sources" 69 yX9_insertTone ∈ TB := tb_238
theorem wgv_X6_69 : GoodIn TB (wsV RX6 69 RX9 yX9_insertTone (cw yX9_insertTone cX9_insertTone 4 none)) := goodIn_4 wtb_435 wtb_57 wtb_58 wtb_3 wgc_X9_insertTone
theorem wdX6_layRow_39 : decode cX6_layRow 39 = .ok (.iload 4, 2) := dX6_layRow_39
theorem wdX6_layRow_41 : decode cX6_layRow 41 = .ok (.iconst 3, 1) := dX6_layRow_41
theorem wdX6_layRow_42 : decode cX6_layRow 42 = .ok (.idiv, 1) := dX6_layRow_42
theorem wdX6_layRow_43 : decode cX6_layRow 43 = .ok (.istore 4, 2) := dX6_layRow_43
theorem wdX6_layRow_45 : decode cX6_layRow 45 = .ok (.iinc 5 1, 3) := dX6_layRow_45
theorem wdX6_layRow_48 : decode cX6_layRow 48 = .ok (.goto (-27), 3) := dX6_layRow_48
set_option maxRecDepth 4000 in
theorem lp_X6_layRow {p : Program} {l : Launch} {e : Env} {s : State} {m : MethodId} {args : Array Value} {below : List Frame} {meth : Method} {c : Code} {D : va_G} {B : Nat} {cy : Nat → ClassId} {H0 : Heap} {Q : State → Prop} {M : Mem} {R : Room} {n cz q hv ed : Nat} {o : Wo} (F : CallFix p m c cX6_layRow 6 s args TB RX6) (hR1 : 1 ≤ R.frames) (hR2 : 23 ≤ R.locals) (hwf : wf o.1 q hv ed o.2.1 o.2.2) (hn : n ≤ 6) (hc : cz < 729) (kk : ∀ (i : Nat) (Nm : Mem) (H : Heap) (locs : List Loc) (ls : Array Slot), (isW Nm 138 n q hv ed (srK n cz) srL) → (Fr3 Nm M 138) → Wd D B cy s H0 Nm H locs → lv_has ls 6 [] → W p l e R s m args below meth c H locs 0 0 Q (F0 m 51 ls [])) : ∀ (f : Nat) (i : Nat) (Nm : Mem), (i ≤ n) → (isW Nm 138 i q hv ed (srK i cz) srL) → (Fr3 Nm M 138) → (n ≤ i + f) → ∀ (H : Heap) (locs : List Loc) (ls : Array Slot), Wd D B cy s H0 Nm H locs → lv_has ls 6 [(5, .int (zI (i : Int))), (4, .int (zI (((sr3 cz i) : Nat) : Int))), (0, .ref (B + 135)), (2, .int (zI (n : Int)))] → W p l e R s m args below meth c H locs 0 0 Q (F0 m 21 ls []) := by
  have hx := F.1
  have hb := F.2.1
  intro f
  induction f with
  | zero =>
    intro i Nm i0 i1 i2 hf H locs ls w hl
    have hs3 := sr3_le cz i
    refine lv_iload hx hb wdX6_layRow_21 (lv_at hl 0 rfl) ?_
    refine lv_iload_n hx hb wdX6_layRow_23 rfl (lv_at hl 3 rfl) ?_
    refine z_icmp_ge (tgt := 51) hx hb (by omega) (by omega) wdX6_layRow_24 (by decide) (fun c1 => ?_) (fun c1 => False.elim (by omega))
    exact kk i Nm _ _ ls (by have h9 := i1; rw [show i = n by omega] at h9; exact h9) i2 w (lv_sub hl [] rfl)
  | succ f ih =>
    intro i Nm i0 i1 i2 hf H locs ls w hl
    have hs3 := sr3_le cz i
    refine lv_iload hx hb wdX6_layRow_21 (lv_at hl 0 rfl) ?_
    refine lv_iload_n hx hb wdX6_layRow_23 rfl (lv_at hl 3 rfl) ?_
    refine z_icmp_ge (tgt := 51) hx hb (by omega) (by omega) wdX6_layRow_24 (by decide) (fun c1 => ?_) (fun c1 => ?_)
    · exact kk i Nm _ _ ls (by have h9 := i1; rw [show i = n by omega] at h9; exact h9) i2 w (lv_sub hl [] rfl)
    · refine lv_aload_n hx hb wdX6_layRow_27 rfl (lv_at hl 2 rfl) ?_
      refine f_6_3 F w (a := 135) rfl wtb_434 wdX6_layRow_28 ?_
      refine lv_iconst (v := zI 0) hx hb wdX6_layRow_31 rfl ?_
      refine lv_iload hx hb wdX6_layRow_32 (lv_at hl 1 rfl) ?_
      refine lv_iconst (v := zI 3) hx hb wdX6_layRow_34 rfl ?_
      refine lv_irem hx hb wdX6_layRow_35 (nz_z (by omega) (by omega)) ?_
      refine r_val (v := zI ((((sr3 cz i) % 3) : Nat) : Int)) (rem_zI (by omega) (by omega)) ?_
      refine k_Vv F w (As := [.int (zI 0), .int (zI ((((sr3 cz i) % 3) : Nat) : Int))]) (rest := []) (a := 138) (kd_lt (a := 138) (show kd 138 = (9, 0, 0) from rfl) (by decide)) (sh_9 rfl _ _) rfl (s_X9_insertTone (a := 138) rfl i1 (wf_sr hwf (by omega)) (t := 0) (x := sr3 cz i % 3) (Nat.zero_le _) (by omega) (by omega)) wgv_X6_69 whv_X9_insertTone ⟨(by omega), (by omega)⟩ hl.1 rfl (Nat.le_of_ble_eq_true rfl) ⟨Nat.zero_le _, Nat.zero_le _⟩ wdX6_layRow_36 (fun Ma2 H locs hp w => ?_)
      rcases hp with ⟨hW3, hF3⟩
      refine lv_iload hx hb wdX6_layRow_39 (lv_at hl 1 rfl) ?_
      refine lv_iconst (v := zI 3) hx hb wdX6_layRow_41 rfl ?_
      refine lv_idiv hx hb wdX6_layRow_42 (nz_z (by omega) (by omega)) ?_
      refine r_val (v := zI ((((sr3 cz i) / 3) : Nat) : Int)) (div_zI (by omega) (by omega)) ?_
      refine lv_istore (lv' := [(4, .int (zI ((((sr3 cz i) / 3) : Nat) : Int))), (5, .int (zI (i : Int))), (0, .ref (B + 135)), (2, .int (zI (n : Int)))]) hx hb wdX6_layRow_43 hl (by decide) rfl (fun ls hl => ?_)
      refine z_iinc (v := (((i + 1) : Nat) : Int)) (lv' := [(5, .int (zI (((i + 1) : Nat) : Int))), (4, .int (zI ((((sr3 cz i) / 3) : Nat) : Int))), (0, .ref (B + 135)), (2, .int (zI (n : Int)))]) hx hb wdX6_layRow_45 hl (k := 1) rfl (by omega) (by decide) rfl (fun ls hl => ?_)
      refine lv_goto (tgt := 21) hx hb wdX6_layRow_48 (by decide) ?_
      replace hl : lv_has ls 6 [(5, .int (zI (((i + 1) : Nat) : Int))), (4, .int (zI (((sr3 cz (i + 1)) : Nat) : Int))), (0, .ref (B + 135)), (2, .int (zI (n : Int)))] := by rw [sr3_s]; exact hl
      exact ih (i + 1) Ma2 (by omega) (hW3.cg sr_ins0 (fun k9 _ => sr_insL k9)) (Fr3.tr i2 hF3) (by omega) _ _ ls w (lv_sub hl [0, 1, 2, 3] rfl)
theorem wdX6_layRow_0 : decode cX6_layRow 0 = .ok (.aload_n 0, 1) := dX6_layRow_0
theorem wdX6_layRow_1 : decode cX6_layRow 1 = .ok (.getfield 25, 3) := dX6_layRow_1
theorem wdX6_layRow_4 : decode cX6_layRow 4 = .ok (.invokevirtual 62, 3) := dX6_layRow_4
theorem wtk_X9_clear : Cond.code yX9_clear cX9_clear 1 none ∈ TB := utk_X9_clear
theorem wgc_X9_clear : GoodIn TB (cw yX9_clear cX9_clear 1 none) := goodIn_c2 wtk_X9_clear
theorem wtb_436 : Cond.methodLink "ToneLines$Sources" 62 yX9_clear ∈ TB := tb_234
theorem wtb_437 : Cond.instanceMethod yX9_clear ∈ TB := utb_61
theorem wtb_438 : Cond.selects "ToneLines$Word" yX9_clear yX9_clear ∈ TB := utb_62
theorem wgv_X6_62 : GoodIn TB (wsV RX6 62 RX9 yX9_clear (cw yX9_clear cX9_clear 1 none)) := goodIn_4 wtb_436 wtb_437 wtb_438 wtb_3 wgc_X9_clear
theorem whv_X9_clear : yX9_clear.cls = RX9 ∧ yX9_clear.cls ≠ "java/lang/invoke/MethodHandle" ∧ yX9_clear.cls ≠ "java/lang/invoke/VarHandle" ∧ (parseMethodDescriptor yX9_clear.desc).map (fun d => d.parameters.length) = some 0 := uhv_X9_clear
theorem wdX6_layRow_7 : decode cX6_layRow 7 = .ok (.aload_n 0, 1) := dX6_layRow_7
theorem wdX6_layRow_8 : decode cX6_layRow 8 = .ok (.getfield 25, 3) := dX6_layRow_8
theorem wdX6_layRow_11 : decode cX6_layRow 11 = .ok (.aload_n 1, 1) := dX6_layRow_11
theorem wdX6_layRow_12 : decode cX6_layRow 12 = .ok (.invokevirtual 65, 3) := dX6_layRow_12
theorem wtk_X9_copySyllables : Cond.code yX9_copySyllables cX9_copySyllables 2 none ∈ TB := tk_X9_copySyllables
theorem wgc_X9_copySyllables : GoodIn TB (cw yX9_copySyllables cX9_copySyllables 2 none) := goodIn_c2 wtk_X9_copySyllables
theorem wtb_439 : Cond.methodLink "ToneLines$Sources" 65 yX9_copySyllables ∈ TB := tb_237
theorem wtb_440 : Cond.instanceMethod yX9_copySyllables ∈ TB := tb_30
theorem wtb_441 : Cond.selects "ToneLines$Word" yX9_copySyllables yX9_copySyllables ∈ TB := tb_31
theorem wgv_X6_65 : GoodIn TB (wsV RX6 65 RX9 yX9_copySyllables (cw yX9_copySyllables cX9_copySyllables 2 none)) := goodIn_4 wtb_439 wtb_440 wtb_441 wtb_3 wgc_X9_copySyllables
theorem whv_X9_copySyllables : yX9_copySyllables.cls = RX9 ∧ yX9_copySyllables.cls ≠ "java/lang/invoke/MethodHandle" ∧ yX9_copySyllables.cls ≠ "java/lang/invoke/VarHandle" ∧ (parseMethodDescriptor yX9_copySyllables.desc).map (fun d => d.parameters.length) = some 1 := hv_X9_copySyllables
theorem wdX6_layRow_15 : decode cX6_layRow 15 = .ok (.iload_n 3, 1) := dX6_layRow_15
theorem wdX6_layRow_16 : decode cX6_layRow 16 = .ok (.istore 4, 2) := dX6_layRow_16
theorem wdX6_layRow_18 : decode cX6_layRow 18 = .ok (.iconst 0, 1) := dX6_layRow_18
theorem wdX6_layRow_19 : decode cX6_layRow 19 = .ok (.istore 5, 2) := dX6_layRow_19
theorem wdX6_layRow_51 : decode cX6_layRow 51 = .ok (.return_, 1) := dX6_layRow_51
set_option maxRecDepth 4000 in
theorem h_layRow {l : Launch} {D : va_G} {B : Nat} {cy : Nat → ClassId} {M : Mem} {n cz q hv ed : Nat} {o : Wo} (hC : CW M 44 q hv ed o) (hn : n ≤ 6) (hc : cz < 729) : Cv l D B cy yX6_layRow cX6_layRow 6 1 23 [.ref (B + 135), .ref (B + 44), .int (zI (n : Int)), .int (zI (cz : Int))] M (fun M1 => CW M1 138 q hv ed (srO n cz) ∧ Fr3 M1 M 138) := by
  refine s_any (by decide) (Nat.le_of_ble_eq_true rfl) ?_
  intro p e s m below meth c ls F hr hlocks w hl
  have F : CallFix p m c cX6_layRow 6 s _ TB RX6 := F
  have hx := F.1
  have hb := F.2.1
  have hl : lv_has ls 6 [(0, .ref (B + 135)), (1, .ref (B + 44)), (2, .int (zI (n : Int))), (3, .int (zI (cz : Int)))] := hl
  have hwf := hC.wf
  have hq12 := hwf.2.1
  have hhv := hwf.2.2.1
  have hed := hwf.2.2.2.1
  refine lv_aload_n hx hb wdX6_layRow_0 rfl (lv_at hl 0 rfl) ?_
  refine f_6_3 F w (a := 135) rfl wtb_434 wdX6_layRow_1 ?_
  refine k_Vv F w (As := []) (rest := []) (a := 138) (kd_lt (a := 138) (show kd 138 = (9, 0, 0) from rfl) (by decide)) (sh_9 rfl _ _) rfl (s_X9_clear (a := 138) rfl) wgv_X6_62 whv_X9_clear ⟨(Nat.le_of_ble_eq_true rfl), (Nat.le_of_ble_eq_true rfl)⟩ hl.1 rfl (Nat.le_of_ble_eq_true rfl) ⟨Nat.zero_le _, Nat.zero_le _⟩ wdX6_layRow_4 (fun Ma1 H locs hp w => ?_)
  rcases hp with ⟨hW0, hF0⟩
  refine lv_aload_n hx hb wdX6_layRow_7 rfl (lv_at hl 0 rfl) ?_
  refine f_6_3 F w (a := 135) rfl wtb_434 wdX6_layRow_8 ?_
  refine lv_aload_n hx hb wdX6_layRow_11 rfl (lv_at hl 1 rfl) ?_
  refine k_Vv F w (As := [.ref (B + 44)]) (rest := []) (a := 138) (kd_lt (a := 138) (show kd 138 = (9, 0, 0) from rfl) (by decide)) (sh_9 rfl _ _) rfl (s_X9_copySyllables (a := 138) rfl (b := 44) rfl (hC.fr (hF0.1 _ (by decide) (by decide) (by decide)) (hF0.1 _ (by decide) (by decide) (by decide)) (hF0.1 _ (by decide) (by decide) (by decide))).1 (by decide)) wgv_X6_65 whv_X9_copySyllables ⟨(Nat.le_of_ble_eq_true rfl), (Nat.le_of_ble_eq_true rfl)⟩ hl.1 rfl (Nat.le_of_ble_eq_true rfl) ⟨Nat.zero_le _, Nat.zero_le _⟩ wdX6_layRow_12 (fun Ma2 H locs hp w => ?_)
  rcases hp with hE1
  have hW1 := W_cs (q := q) (hv := hv) (ed := ed) hW0
  rw [← hp] at hW1
  have hF1 : Fr3 Ma2 M 138 := Fr3.tr hF0 hW1.2
  refine lv_iload_n hx hb wdX6_layRow_15 rfl (lv_at hl 3 rfl) ?_
  refine lv_istore (lv' := [(4, .int (zI (cz : Int))), (0, .ref (B + 135)), (1, .ref (B + 44)), (2, .int (zI (n : Int))), (3, .int (zI (cz : Int)))]) hx hb wdX6_layRow_16 hl (by decide) rfl (fun ls hl => ?_)
  refine lv_iconst (v := zI 0) hx hb wdX6_layRow_18 rfl ?_
  refine lv_istore (lv' := [(5, .int (zI 0)), (4, .int (zI (cz : Int))), (0, .ref (B + 135)), (1, .ref (B + 44)), (2, .int (zI (n : Int))), (3, .int (zI (cz : Int)))]) hx hb wdX6_layRow_19 hl (by decide) rfl (fun ls hl => ?_)
  replace hl : lv_has ls 6 [(5, .int (zI 0)), (4, .int (zI (((sr3 cz 0) : Nat) : Int))), (0, .ref (B + 135)), (1, .ref (B + 44)), (2, .int (zI (n : Int))), (3, .int (zI (cz : Int)))] := by rw [sr3_0]; exact hl
  refine lp_X6_layRow  F (Nat.le_of_ble_eq_true rfl) (Nat.le_of_ble_eq_true rfl) hwf hn hc (fun i Nm H locs ls x0 x1 w hl => ?_) n 0 Ma2 (by omega) (hW1.1.cg (fun k9 hk9 => absurd hk9 (Nat.not_lt_zero k9)) (fun k9 hk9 => absurd hk9 (Nat.not_lt_zero k9))) hF1 (by omega) _ _ ls w (lv_sub hl [0, 1, 2, 4] rfl)
  exact e_v F w hr hlocks ⟨⟨x0, okW_sr hq12 (by omega), hhv, hed⟩, x1⟩ wdX6_layRow_51
theorem wdX6_bring_28 : decode cX6_bring 28 = .ok (.iload 5, 2) := dX6_bring_28
theorem wdX6_bring_30 : decode cX6_bring 30 = .ok (.iload_n 3, 1) := dX6_bring_30
theorem wdX6_bring_31 : decode cX6_bring 31 = .ok (.if_icmp .ge 15, 3) := dX6_bring_31
theorem wdX6_bring_34 : decode cX6_bring 34 = .ok (.iload 4, 2) := dX6_bring_34
theorem wdX6_bring_36 : decode cX6_bring 36 = .ok (.iconst 3, 1) := dX6_bring_36
theorem wdX6_bring_37 : decode cX6_bring 37 = .ok (.imul, 1) := dX6_bring_37
theorem wdX6_bring_38 : decode cX6_bring 38 = .ok (.istore 4, 2) := dX6_bring_38
theorem wdX6_bring_40 : decode cX6_bring 40 = .ok (.iinc 5 1, 3) := dX6_bring_40
theorem wdX6_bring_43 : decode cX6_bring 43 = .ok (.goto (-15), 3) := dX6_bring_43
set_option maxRecDepth 4000 in
theorem lp_X6_bring1 {p : Program} {l : Launch} {e : Env} {s : State} {m : MethodId} {args : Array Value} {below : List Frame} {meth : Method} {c : Code} {D : va_G} {B : Nat} {cy : Nat → ClassId} {H0 : Heap} {Q : State → Prop} {M : Mem} {R : Room} {mr n : Nat} (F : CallFix p m c cX6_bring 11 s args TB RX6) (hR1 : 0 ≤ R.frames) (hR2 : 0 ≤ R.locals) (hn : n ≤ 6) (kk : ∀ (i : Nat) (H : Heap) (locs : List Loc) (ls : Array Slot), (i = n) → Wd D B cy s H0 M H locs → lv_has ls 11 [(4, .int (zI (((p39 i) : Nat) : Int))), (0, .ref (B + 135)), (1, .ref (B + 22)), (3, .int (zI (n : Int))), (2, .ref (B + (44 + 3 * mr)))] → W p l e R s m args below meth c H locs 0 0 Q (F0 m 46 ls [])) : ∀ (f : Nat) (i : Nat), (i ≤ n) → (n ≤ i + f) → ∀ (H : Heap) (locs : List Loc) (ls : Array Slot), Wd D B cy s H0 M H locs → lv_has ls 11 [(5, .int (zI (i : Int))), (4, .int (zI (((p39 i) : Nat) : Int))), (0, .ref (B + 135)), (1, .ref (B + 22)), (3, .int (zI (n : Int))), (2, .ref (B + (44 + 3 * mr)))] → W p l e R s m args below meth c H locs 0 0 Q (F0 m 28 ls []) := by
  have hx := F.1
  have hb := F.2.1
  intro f
  induction f with
  | zero =>
    intro i i0 hf H locs ls w hl
    have hp3 := p3_b (i := i) (by omega)
    refine lv_iload hx hb wdX6_bring_28 (lv_at hl 0 rfl) ?_
    refine lv_iload_n hx hb wdX6_bring_30 rfl (lv_at hl 4 rfl) ?_
    refine z_icmp_ge (tgt := 46) hx hb (by omega) (by omega) wdX6_bring_31 (by decide) (fun c1 => ?_) (fun c1 => False.elim (by omega))
    exact kk i _ _ ls (by omega) w (lv_sub hl [1, 2, 3, 4, 5] rfl)
  | succ f ih =>
    intro i i0 hf H locs ls w hl
    have hp3 := p3_b (i := i) (by omega)
    refine lv_iload hx hb wdX6_bring_28 (lv_at hl 0 rfl) ?_
    refine lv_iload_n hx hb wdX6_bring_30 rfl (lv_at hl 4 rfl) ?_
    refine z_icmp_ge (tgt := 46) hx hb (by omega) (by omega) wdX6_bring_31 (by decide) (fun c1 => ?_) (fun c1 => ?_)
    · exact kk i _ _ ls (by omega) w (lv_sub hl [1, 2, 3, 4, 5] rfl)
    · refine lv_iload hx hb wdX6_bring_34 (lv_at hl 1 rfl) ?_
      refine lv_iconst (v := zI 3) hx hb wdX6_bring_36 rfl ?_
      refine z_imul (z := ((((p39 i) * 3) : Nat) : Int)) hx hb wdX6_bring_37 (by omega) ?_
      refine lv_istore (lv' := [(4, .int (zI ((((p39 i) * 3) : Nat) : Int))), (5, .int (zI (i : Int))), (0, .ref (B + 135)), (1, .ref (B + 22)), (3, .int (zI (n : Int))), (2, .ref (B + (44 + 3 * mr)))]) hx hb wdX6_bring_38 hl (by decide) rfl (fun ls hl => ?_)
      refine z_iinc (v := (((i + 1) : Nat) : Int)) (lv' := [(5, .int (zI (((i + 1) : Nat) : Int))), (4, .int (zI ((((p39 i) * 3) : Nat) : Int))), (0, .ref (B + 135)), (1, .ref (B + 22)), (3, .int (zI (n : Int))), (2, .ref (B + (44 + 3 * mr)))]) hx hb wdX6_bring_40 hl (k := 1) rfl (by omega) (by decide) rfl (fun ls hl => ?_)
      refine lv_goto (tgt := 28) hx hb wdX6_bring_43 (by decide) ?_
      replace hl : lv_has ls 11 [(5, .int (zI (((i + 1) : Nat) : Int))), (4, .int (zI (((p39 (i + 1)) : Nat) : Int))), (0, .ref (B + 135)), (1, .ref (B + 22)), (3, .int (zI (n : Int))), (2, .ref (B + (44 + 3 * mr)))] := by rw [p3_s]; exact hl
      exact ih (i + 1) (by omega) (by omega) _ _ ls w (lv_sub hl [0, 1, 2, 3, 4, 5] rfl)
theorem wdX6_bring_97 : decode cX6_bring 97 = .ok (.iload 10, 2) := dX6_bring_97
theorem wdX6_bring_99 : decode cX6_bring 99 = .ok (.aload_n 1, 1) := dX6_bring_99
theorem wdX6_bring_100 : decode cX6_bring 100 = .ok (.getfield 45, 3) := dX6_bring_100
theorem wtb_442 : Cond.fieldLink "ToneLines$Sources" 45 "ToneLines$Derivation" "size" "I" ∈ TB := tb_249
theorem wdX6_bring_103 : decode cX6_bring 103 = .ok (.if_icmp .ge 28, 3) := dX6_bring_103
theorem wdX6_bring_106 : decode cX6_bring 106 = .ok (.aload_n 1, 1) := dX6_bring_106
theorem wdX6_bring_107 : decode cX6_bring 107 = .ok (.getfield 48, 3) := dX6_bring_107
theorem wtb_443 : Cond.fieldLink "ToneLines$Sources" 48 "ToneLines$Derivation" "doer" "LToneLines$Doer;" ∈ TB := tb_250
theorem wdX6_bring_110 : decode cX6_bring 110 = .ok (.aload_n 1, 1) := dX6_bring_110
theorem wdX6_bring_111 : decode cX6_bring 111 = .ok (.getfield 52, 3) := dX6_bring_111
theorem wtb_444 : Cond.fieldLink "ToneLines$Sources" 52 "ToneLines$Derivation" "list" "[LToneLines$Rule;" ∈ TB := tb_251
theorem wdX6_bring_114 : decode cX6_bring 114 = .ok (.iload 10, 2) := dX6_bring_114
theorem wdX6_bring_116 : decode cX6_bring 116 = .ok (.aaload, 1) := dX6_bring_116
theorem wdX6_bring_117 : decode cX6_bring 117 = .ok (.aload_n 0, 1) := dX6_bring_117
theorem wdX6_bring_118 : decode cX6_bring 118 = .ok (.getfield 25, 3) := dX6_bring_118
theorem wdX6_bring_121 : decode cX6_bring 121 = .ok (.invokevirtual 56, 3) := dX6_bring_121
theorem wtb_445 : Cond.methodLink "ToneLines$Sources" 56 yX1_perform ∈ TB := tb_252
theorem wgv_X6_56 : GoodIn TB (wsV RX6 56 RX1 yX1_perform (cw yX1_perform cX1_perform 6 (some .int))) := goodIn_4 wtb_445 wtb_192 wtb_193 wtb_52 wgc_X1_perform
theorem wdX6_bring_124 : decode cX6_bring 124 = .ok (.pop, 1) := dX6_bring_124
theorem wdX6_bring_125 : decode cX6_bring 125 = .ok (.iinc 10 1, 3) := dX6_bring_125
theorem wdX6_bring_128 : decode cX6_bring 128 = .ok (.goto (-31), 3) := dX6_bring_128
set_option maxRecDepth 4000 in
theorem lp_X6_bring3 {p : Program} {l : Launch} {e : Env} {s : State} {m : MethodId} {args : Array Value} {below : List Frame} {meth : Method} {c : Code} {D : va_G} {B : Nat} {cy : Nat → ClassId} {H0 : Heap} {Q : State → Prop} {M : Mem} {R : Room} {Ps : Nat → Nat → Int} {mr rd k q hv ed n : Nat} {o : Wo} {Hs : Nat → Fw} {cz : Nat} (F : CallFix p m c cX6_bring 11 s args TB RX6) (hR1 : 5 ≤ R.frames) (hR2 : 133 ≤ R.locals) (hm8 : mr ≤ 8) (kk : ∀ (r : Nat) (Nc : Mem) (H : Heap) (locs : List Loc) (ls : Array Slot), (CW Nc 138 q hv ed (sg9 Ps (q, hv, ed, srO n cz) mr)) → (CS Nc Ps mr (q, hv, ed, o) rd Hs k) → (Fr4 Nc M 138) → Wd D B cy s H0 Nc H locs → lv_has ls 11 [(9, .int (zI (cz : Int))), (4, .int (zI (((p39 n) : Nat) : Int))), (5, .long (nL (kvr (sqR (sg9 Ps (q, hv, ed, o) mr).2.1 (sg9 Ps (q, hv, ed, o) mr).2.2 (sg9 Ps (q, hv, ed, o) mr).1)))), (7, .long (nL (lrF (sg9 Ps (q, hv, ed, o) mr).2.2 (sg9 Ps (q, hv, ed, o) mr).1))), (0, .ref (B + 135)), (1, .ref (B + 22)), (3, .int (zI (n : Int)))] → W p l e R s m args below meth c H locs 0 0 Q (F0 m 131 ls [])) : ∀ (f : Nat) (r : Nat) (Nc : Mem), (r ≤ mr) → (CW Nc 138 q hv ed (sg9 Ps (q, hv, ed, srO n cz) r)) → (CS Nc Ps mr (q, hv, ed, o) rd Hs k) → (Fr4 Nc M 138) → (mr ≤ r + f) → ∀ (H : Heap) (locs : List Loc) (ls : Array Slot), Wd D B cy s H0 Nc H locs → lv_has ls 11 [(10, .int (zI (r : Int))), (9, .int (zI (cz : Int))), (4, .int (zI (((p39 n) : Nat) : Int))), (5, .long (nL (kvr (sqR (sg9 Ps (q, hv, ed, o) mr).2.1 (sg9 Ps (q, hv, ed, o) mr).2.2 (sg9 Ps (q, hv, ed, o) mr).1)))), (7, .long (nL (lrF (sg9 Ps (q, hv, ed, o) mr).2.2 (sg9 Ps (q, hv, ed, o) mr).1))), (0, .ref (B + 135)), (1, .ref (B + 22)), (3, .int (zI (n : Int)))] → W p l e R s m args below meth c H locs 0 0 Q (F0 m 97 ls []) := by
  have hx := F.1
  have hb := F.2.1
  intro f
  induction f with
  | zero =>
    intro r Nc i0 i1 i2 i3 hf H locs ls w hl
    refine lv_iload hx hb wdX6_bring_97 (lv_at hl 0 rfl) ?_
    refine lv_aload_n hx hb wdX6_bring_99 rfl (lv_at hl 6 rfl) ?_
    refine f_0_2 F w (a := 22) rfl wtb_442 wdX6_bring_100 ?_
    refine r_val (v := (zI (mr : Int))) (i2.1.1) ?_
    refine z_icmp_ge (tgt := 131) hx hb (by omega) (by omega) wdX6_bring_103 (by decide) (fun c1 => ?_) (fun c1 => False.elim (by omega))
    exact kk r Nc _ _ ls (by have h9 := i1; rw [show r = mr by omega] at h9; exact h9) i2 i3 w (lv_sub hl [1, 2, 3, 4, 5, 6, 7] rfl)
  | succ f ih =>
    intro r Nc i0 i1 i2 i3 hf H locs ls w hl
    refine lv_iload hx hb wdX6_bring_97 (lv_at hl 0 rfl) ?_
    refine lv_aload_n hx hb wdX6_bring_99 rfl (lv_at hl 6 rfl) ?_
    refine f_0_2 F w (a := 22) rfl wtb_442 wdX6_bring_100 ?_
    refine r_val (v := (zI (mr : Int))) (i2.1.1) ?_
    refine z_icmp_ge (tgt := 131) hx hb (by omega) (by omega) wdX6_bring_103 (by decide) (fun c1 => ?_) (fun c1 => ?_)
    · exact kk r Nc _ _ ls (by have h9 := i1; rw [show r = mr by omega] at h9; exact h9) i2 i3 w (lv_sub hl [1, 2, 3, 4, 5, 6, 7] rfl)
    · refine lv_aload_n hx hb wdX6_bring_106 rfl (lv_at hl 6 rfl) ?_
      refine f_0_0 F w (a := 22) rfl wtb_443 wdX6_bring_107 ?_
      refine lv_aload_n hx hb wdX6_bring_110 rfl (lv_at hl 6 rfl) ?_
      refine f_0_1 F w (a := 22) rfl wtb_444 wdX6_bring_111 ?_
      refine lv_iload hx hb wdX6_bring_114 (lv_at hl 0 rfl) ?_
      refine g_aldR F w (a := 24) rfl (j := r) (o := (28 + 2 * r)) rfl (ix_n (by omega)) (by omega) wdX6_bring_116 ?_
      refine lv_aload_n hx hb wdX6_bring_117 rfl (lv_at hl 5 rfl) ?_
      refine f_6_3 F w (a := 135) rfl wtb_434 wdX6_bring_118 ?_
      refine k_Vi F w (As := [.ref (B + (28 + 2 * r)), .ref (B + 138)]) (rest := []) (a := 23) (kd_lt (a := 23) (show kd 23 = (1, 0, 0) from rfl) (by decide)) (sh_1 rfl _ _) rfl (s_X1_perform (a := 138) rfl i1 (ru := 28 + 2 * r) (kd_lst (by omega)) (i2.1.2.2 r (by omega)).1 (i2.1.2.2 r (by omega)).2) wgv_X6_56 whv_X1_perform ⟨(by omega), (by omega)⟩ hl.1 rfl (Nat.le_of_ble_eq_true rfl) ⟨Nat.zero_le _, Nat.zero_le _⟩ wdX6_bring_121 (fun r Ma2 H locs hp w => ?_)
      rcases hp with ⟨o2, dd, pp, e2, rfl, hC3, hF3, hpp, hdd, hp20⟩
      refine lv_pop hx hb wdX6_bring_124 rfl ?_
      refine z_iinc (v := (((r + 1) : Nat) : Int)) (lv' := [(10, .int (zI (((r + 1) : Nat) : Int))), (9, .int (zI (cz : Int))), (4, .int (zI (((p39 n) : Nat) : Int))), (5, .long (nL (kvr (sqR (sg9 Ps (q, hv, ed, o) mr).2.1 (sg9 Ps (q, hv, ed, o) mr).2.2 (sg9 Ps (q, hv, ed, o) mr).1)))), (7, .long (nL (lrF (sg9 Ps (q, hv, ed, o) mr).2.2 (sg9 Ps (q, hv, ed, o) mr).1))), (0, .ref (B + 135)), (1, .ref (B + 22)), (3, .int (zI (n : Int)))]) hx hb wdX6_bring_125 hl (k := 0) rfl (by omega) (by decide) rfl (fun ls hl => ?_)
      refine lv_goto (tgt := 97) hx hb wdX6_bring_128 (by decide) ?_
      exact ih (r + 1) Ma2 (by omega) (by rw [sg9_x e2]; exact hC3) (i2.d138 hF3) (Fr4.tr i3 hF3) (by omega) _ _ ls w (lv_sub hl [0, 1, 2, 3, 4, 5, 6, 7] rfl)
theorem wdX6_bring_76 : decode cX6_bring 76 = .ok (.iload 9, 2) := dX6_bring_76
theorem wdX6_bring_78 : decode cX6_bring 78 = .ok (.iload 4, 2) := dX6_bring_78
theorem wdX6_bring_80 : decode cX6_bring 80 = .ok (.if_icmp .ge 119, 3) := dX6_bring_80
theorem wdX6_bring_83 : decode cX6_bring 83 = .ok (.aload_n 0, 1) := dX6_bring_83
theorem wdX6_bring_84 : decode cX6_bring 84 = .ok (.aload_n 1, 1) := dX6_bring_84
theorem wdX6_bring_85 : decode cX6_bring 85 = .ok (.getfield 36, 3) := dX6_bring_85
theorem wtb_446 : Cond.fieldLink "ToneLines$Sources" 36 "ToneLines$Derivation" "told" "LToneLines$Word;" ∈ TB := tb_244
theorem wdX6_bring_88 : decode cX6_bring 88 = .ok (.iload_n 3, 1) := dX6_bring_88
theorem wdX6_bring_89 : decode cX6_bring 89 = .ok (.iload 9, 2) := dX6_bring_89
theorem wdX6_bring_91 : decode cX6_bring 91 = .ok (.invokevirtual 41, 3) := dX6_bring_91
theorem wtk_X6_layRow : Cond.code yX6_layRow cX6_layRow 6 none ∈ TB := tk_X6_layRow
theorem wgc_X6_layRow : GoodIn TB (cw yX6_layRow cX6_layRow 6 none) := goodIn_c2 wtk_X6_layRow
theorem wtb_447 : Cond.methodLink "ToneLines$Sources" 41 yX6_layRow ∈ TB := tb_245
theorem wtb_448 : Cond.instanceMethod yX6_layRow ∈ TB := tb_246
theorem wtb_449 : Cond.selects "ToneLines$Sources" yX6_layRow yX6_layRow ∈ TB := tb_247
theorem wtb_450 : Cond.initialized "ToneLines$Sources" ∈ TB := tb_248
theorem wgv_X6_41 : GoodIn TB (wsV RX6 41 RX6 yX6_layRow (cw yX6_layRow cX6_layRow 6 none)) := goodIn_4 wtb_447 wtb_448 wtb_449 wtb_450 wgc_X6_layRow
theorem whv_X6_layRow : yX6_layRow.cls = RX6 ∧ yX6_layRow.cls ≠ "java/lang/invoke/MethodHandle" ∧ yX6_layRow.cls ≠ "java/lang/invoke/VarHandle" ∧ (parseMethodDescriptor yX6_layRow.desc).map (fun d => d.parameters.length) = some 3 := hv_X6_layRow
theorem wdX6_bring_94 : decode cX6_bring 94 = .ok (.iconst 0, 1) := dX6_bring_94
theorem wdX6_bring_95 : decode cX6_bring 95 = .ok (.istore 10, 2) := dX6_bring_95
theorem wdX6_bring_131 : decode cX6_bring 131 = .ok (.aload_n 0, 1) := dX6_bring_131
theorem wdX6_bring_132 : decode cX6_bring 132 = .ok (.getfield 25, 3) := dX6_bring_132
theorem wdX6_bring_135 : decode cX6_bring 135 = .ok (.invokevirtual 29, 3) := dX6_bring_135
theorem wtb_451 : Cond.methodLink "ToneLines$Sources" 29 yX9_kindsRead ∈ TB := tb_240
theorem wgv_X6_29 : GoodIn TB (wsV RX6 29 RX9 yX9_kindsRead (cw yX9_kindsRead cX9_kindsRead 5 (some .long))) := goodIn_4 wtb_451 wtb_380 wtb_381 wtb_3 wgc_X9_kindsRead
theorem wdX6_bring_138 : decode cX6_bring 138 = .ok (.lload 5, 2) := dX6_bring_138
theorem wdX6_bring_140 : decode cX6_bring 140 = .ok (.lcmp, 1) := dX6_bring_140
theorem wdX6_bring_141 : decode cX6_bring 141 = .ok (.ifCond .ne 52, 3) := dX6_bring_141
theorem wdX6_bring_193 : decode cX6_bring 193 = .ok (.iinc 9 1, 3) := dX6_bring_193
theorem wdX6_bring_196 : decode cX6_bring 196 = .ok (.goto (-120), 3) := dX6_bring_196
theorem wdX6_bring_144 : decode cX6_bring 144 = .ok (.aload_n 0, 1) := dX6_bring_144
theorem wdX6_bring_145 : decode cX6_bring 145 = .ok (.getfield 25, 3) := dX6_bring_145
theorem wdX6_bring_148 : decode cX6_bring 148 = .ok (.invokevirtual 33, 3) := dX6_bring_148
theorem wtb_452 : Cond.methodLink "ToneLines$Sources" 33 yX9_linesRead ∈ TB := tb_241
theorem wgv_X6_33 : GoodIn TB (wsV RX6 33 RX9 yX9_linesRead (cw yX9_linesRead cX9_linesRead 5 (some .long))) := goodIn_4 wtb_452 wtb_383 wtb_384 wtb_3 wgc_X9_linesRead
theorem wdX6_bring_151 : decode cX6_bring 151 = .ok (.lload 7, 2) := dX6_bring_151
theorem wdX6_bring_153 : decode cX6_bring 153 = .ok (.lcmp, 1) := dX6_bring_153
theorem wdX6_bring_154 : decode cX6_bring 154 = .ok (.ifCond .ne 39, 3) := dX6_bring_154
theorem wdX6_bring_157 : decode cX6_bring 157 = .ok (.aload_n 0, 1) := dX6_bring_157
theorem wdX6_bring_158 : decode cX6_bring 158 = .ok (.getfield 19, 3) := dX6_bring_158
theorem wtb_453 : Cond.fieldLink "ToneLines$Sources" 19 "ToneLines$Sources" "firsts" "[I" ∈ TB := tb_243
theorem wdX6_bring_161 : decode cX6_bring 161 = .ok (.iload_n 3, 1) := dX6_bring_161
theorem wdX6_bring_162 : decode cX6_bring 162 = .ok (.aload_n 0, 1) := dX6_bring_162
theorem wdX6_bring_163 : decode cX6_bring 163 = .ok (.getfield 15, 3) := dX6_bring_163
theorem wtb_454 : Cond.fieldLink "ToneLines$Sources" 15 "ToneLines$Sources" "counts" "[I" ∈ TB := tb_242
theorem wdX6_bring_166 : decode cX6_bring 166 = .ok (.iload_n 3, 1) := dX6_bring_166
theorem wdX6_bring_167 : decode cX6_bring 167 = .ok (.iaload, 1) := dX6_bring_167
theorem wdX6_bring_168 : decode cX6_bring 168 = .ok (.ifCond .ne 8, 3) := dX6_bring_168
theorem wdX6_bring_176 : decode cX6_bring 176 = .ok (.aload_n 0, 1) := dX6_bring_176
theorem wdX6_bring_177 : decode cX6_bring 177 = .ok (.getfield 19, 3) := dX6_bring_177
theorem wdX6_bring_180 : decode cX6_bring 180 = .ok (.iload_n 3, 1) := dX6_bring_180
theorem wdX6_bring_181 : decode cX6_bring 181 = .ok (.iaload, 1) := dX6_bring_181
theorem wdX6_bring_182 : decode cX6_bring 182 = .ok (.iastore, 1) := dX6_bring_182
theorem wdX6_bring_183 : decode cX6_bring 183 = .ok (.aload_n 0, 1) := dX6_bring_183
theorem wdX6_bring_184 : decode cX6_bring 184 = .ok (.getfield 15, 3) := dX6_bring_184
theorem wdX6_bring_187 : decode cX6_bring 187 = .ok (.iload_n 3, 1) := dX6_bring_187
theorem wdX6_bring_188 : decode cX6_bring 188 = .ok (.dup2, 1) := dX6_bring_188
theorem wdX6_bring_189 : decode cX6_bring 189 = .ok (.iaload, 1) := dX6_bring_189
theorem wdX6_bring_190 : decode cX6_bring 190 = .ok (.iconst 1, 1) := dX6_bring_190
theorem wdX6_bring_191 : decode cX6_bring 191 = .ok (.iadd, 1) := dX6_bring_191
theorem wdX6_bring_192 : decode cX6_bring 192 = .ok (.iastore, 1) := dX6_bring_192
theorem wdX6_bring_171 : decode cX6_bring 171 = .ok (.iload 9, 2) := dX6_bring_171
theorem wdX6_bring_173 : decode cX6_bring 173 = .ok (.goto 9, 3) := dX6_bring_173
set_option maxRecDepth 4000 in
theorem lp_X6_bring2 {p : Program} {l : Launch} {e : Env} {s : State} {m : MethodId} {args : Array Value} {below : List Frame} {meth : Method} {c : Code} {D : va_G} {B : Nat} {cy : Nat → ClassId} {H0 : Heap} {Q : State → Prop} {M : Mem} {R : Room} {Ps : Nat → Nat → Int} {mr rd k q hv ed n : Nat} {o : Wo} {Hs : Nat → Fw} (F : CallFix p m c cX6_bring 11 s args TB RX6) (hR1 : 5 ≤ R.frames) (hR2 : 133 ≤ R.locals) (hm8 : mr ≤ 8) (hn : n ≤ 6) (hokM : okW q (sg9 Ps (q, hv, ed, o) mr)) (hncm : ncW (sg9 Ps (q, hv, ed, o) mr)) (hGa : ∀ j, j < mr → okG (Ps j)) (kk : ∀ (cz : Nat) (Nm : Mem) (H : Heap) (locs : List Loc) (ls : Array Slot), (CS Nm Ps mr (q, hv, ed, o) rd Hs k) → (Nm.1 136 n = zI (((scF Ps mr (q, hv, ed, o) n (p39 n)) : Nat) : Int)) → (Nm.1 137 n = zI (sfF Ps mr (q, hv, ed, o) n (p39 n))) → (FrJ n Nm M) → Wd D B cy s H0 Nm H locs → lv_has ls 11 [(0, .ref (B + 135)), (1, .ref (B + 22)), (3, .int (zI (n : Int)))] → W p l e R s m args below meth c H locs 0 0 Q (F0 m 199 ls [])) : ∀ (f : Nat) (cz : Nat) (Nm : Mem), (cz ≤ p39 n) → (CS Nm Ps mr (q, hv, ed, o) rd Hs k) → (Nm.1 136 n = zI (((scF Ps mr (q, hv, ed, o) n cz) : Nat) : Int)) → (Nm.1 137 n = zI (sfF Ps mr (q, hv, ed, o) n cz)) → (FrJ n Nm M) → (p39 n ≤ cz + f) → ∀ (H : Heap) (locs : List Loc) (ls : Array Slot), Wd D B cy s H0 Nm H locs → lv_has ls 11 [(9, .int (zI (cz : Int))), (4, .int (zI (((p39 n) : Nat) : Int))), (5, .long (nL (kvr (sqR (sg9 Ps (q, hv, ed, o) mr).2.1 (sg9 Ps (q, hv, ed, o) mr).2.2 (sg9 Ps (q, hv, ed, o) mr).1)))), (7, .long (nL (lrF (sg9 Ps (q, hv, ed, o) mr).2.2 (sg9 Ps (q, hv, ed, o) mr).1))), (0, .ref (B + 135)), (1, .ref (B + 22)), (3, .int (zI (n : Int)))] → W p l e R s m args below meth c H locs 0 0 Q (F0 m 76 ls []) := by
  have hx := F.1
  have hb := F.2.1
  have hpn := p3_b hn
  intro f
  induction f with
  | zero =>
    intro cz Nm i0 i1 i2 i3 i4 hf H locs ls w hl
    have hncy : ncW (sg9 Ps (q, hv, ed, srO n cz) mr) := nc_dvF nc_sr mr hGa
    have hsc := sc_le (Ps := Ps) (m := mr) (n := n) (x := (q, hv, ed, o)) cz
    have hsf := sf_b (Ps := Ps) (m := mr) (n := n) (x := (q, hv, ed, o)) cz
    refine lv_iload hx hb wdX6_bring_76 (lv_at hl 0 rfl) ?_
    refine lv_iload hx hb wdX6_bring_78 (lv_at hl 1 rfl) ?_
    refine z_icmp_ge (tgt := 199) hx hb (by omega) (by omega) wdX6_bring_80 (by decide) (fun c1 => ?_) (fun c1 => False.elim (by omega))
    exact kk cz Nm _ _ ls i1 (by have h9 := i2; rw [show cz = p39 n by omega] at h9; exact h9) (by have h9 := i3; rw [show cz = p39 n by omega] at h9; exact h9) i4 w (lv_sub hl [4, 5, 6] rfl)
  | succ f ih =>
    intro cz Nm i0 i1 i2 i3 i4 hf H locs ls w hl
    have hncy : ncW (sg9 Ps (q, hv, ed, srO n cz) mr) := nc_dvF nc_sr mr hGa
    have hsc := sc_le (Ps := Ps) (m := mr) (n := n) (x := (q, hv, ed, o)) cz
    have hsf := sf_b (Ps := Ps) (m := mr) (n := n) (x := (q, hv, ed, o)) cz
    refine lv_iload hx hb wdX6_bring_76 (lv_at hl 0 rfl) ?_
    refine lv_iload hx hb wdX6_bring_78 (lv_at hl 1 rfl) ?_
    refine z_icmp_ge (tgt := 199) hx hb (by omega) (by omega) wdX6_bring_80 (by decide) (fun c1 => ?_) (fun c1 => ?_)
    · exact kk cz Nm _ _ ls i1 (by have h9 := i2; rw [show cz = p39 n by omega] at h9; exact h9) (by have h9 := i3; rw [show cz = p39 n by omega] at h9; exact h9) i4 w (lv_sub hl [4, 5, 6] rfl)
    · refine lv_aload_n hx hb wdX6_bring_83 rfl (lv_at hl 4 rfl) ?_
      refine lv_aload_n hx hb wdX6_bring_84 rfl (lv_at hl 5 rfl) ?_
      refine f_0_4 F w (a := 22) rfl wtb_446 wdX6_bring_85 ?_
      refine lv_iload_n hx hb wdX6_bring_88 rfl (lv_at hl 6 rfl) ?_
      refine lv_iload hx hb wdX6_bring_89 (lv_at hl 0 rfl) ?_
      refine k_Vv F w (As := [.ref (B + 44), .int (zI (n : Int)), .int (zI (cz : Int))]) (rest := []) (a := 135) (kd_lt (a := 135) (show kd 135 = (6, 0, 0) from rfl) (by decide)) (sh_6 rfl _ _) rfl (h_layRow (n := n) (cz := cz) i1.t hn (by omega)) wgv_X6_41 whv_X6_layRow ⟨(by omega), (by omega)⟩ hl.1 rfl (Nat.le_of_ble_eq_true rfl) ⟨Nat.zero_le _, Nat.zero_le _⟩ wdX6_bring_91 (fun Ma2 H locs hp w => ?_)
      rcases hp with ⟨hC2, hF2⟩
      have hS2 := i1.d138 (Fr4.of3 hF2)
      refine lv_iconst (v := zI 0) hx hb wdX6_bring_94 rfl ?_
      refine lv_istore (lv' := [(10, .int (zI 0)), (9, .int (zI (cz : Int))), (4, .int (zI (((p39 n) : Nat) : Int))), (5, .long (nL (kvr (sqR (sg9 Ps (q, hv, ed, o) mr).2.1 (sg9 Ps (q, hv, ed, o) mr).2.2 (sg9 Ps (q, hv, ed, o) mr).1)))), (7, .long (nL (lrF (sg9 Ps (q, hv, ed, o) mr).2.2 (sg9 Ps (q, hv, ed, o) mr).1))), (0, .ref (B + 135)), (1, .ref (B + 22)), (3, .int (zI (n : Int)))]) hx hb wdX6_bring_95 hl (by decide) rfl (fun ls hl => ?_)
      refine lp_X6_bring3  F (by omega) (by omega) hm8 (fun r Nc H locs ls x0 x1 x2 w hl => ?_) mr 0 Ma2 (by omega) hC2 hS2 (Fr4.of3 hF2) (by omega) _ _ ls w (lv_sub hl [0, 1, 2, 3, 4, 5, 6, 7] rfl)
      refine lv_aload_n hx hb wdX6_bring_131 rfl (lv_at hl 4 rfl) ?_
      refine f_6_3 F w (a := 135) rfl wtb_434 wdX6_bring_132 ?_
      refine x_Vl F w (As := []) (rest := []) (a := 138) (kd_lt (a := 138) (show kd 138 = (9, 0, 0) from rfl) (by decide)) (sh_9 rfl _ _) rfl (h_kindsRead (a := 138) rfl x0) wgv_X6_29 whv_X9_kindsRead ⟨(by omega), (by omega)⟩ hl.1 rfl (Nat.le_of_ble_eq_true rfl) ⟨Nat.zero_le _, Nat.zero_le _⟩ wdX6_bring_135 (fun H locs w => ?_)
      refine lv_lload hx hb wdX6_bring_138 (lv_at hl 2 rfl) ?_
      refine W.lcmp hx hb wdX6_bring_140 ?_
      obtain ⟨lc4, blc4, elc4⟩ := rg_ex (lg_cmp (nL (kvr (sqR (sg9 Ps (q, hv, ed, srO n cz) mr).2.1 (sg9 Ps (q, hv, ed, srO n cz) mr).2.2 (sg9 Ps (q, hv, ed, srO n cz) mr).1))) (nL (kvr (sqR (sg9 Ps (q, hv, ed, o) mr).2.1 (sg9 Ps (q, hv, ed, o) mr).2.2 (sg9 Ps (q, hv, ed, o) mr).1))))
      refine r_val elc4 ?_
      refine z_if_ne (tgt := 193) hx hb (by omega) wdX6_bring_141 (by decide) (fun c5 => ?_) (fun c5 => ?_)
      · refine z_iinc (v := (((cz + 1) : Nat) : Int)) (lv' := [(9, .int (zI (((cz + 1) : Nat) : Int))), (4, .int (zI (((p39 n) : Nat) : Int))), (5, .long (nL (kvr (sqR (sg9 Ps (q, hv, ed, o) mr).2.1 (sg9 Ps (q, hv, ed, o) mr).2.2 (sg9 Ps (q, hv, ed, o) mr).1)))), (7, .long (nL (lrF (sg9 Ps (q, hv, ed, o) mr).2.2 (sg9 Ps (q, hv, ed, o) mr).1))), (0, .ref (B + 135)), (1, .ref (B + 22)), (3, .int (zI (n : Int)))]) hx hb wdX6_bring_193 hl (k := 0) rfl (by omega) (by decide) rfl (fun ls hl => ?_)
        refine lv_goto (tgt := 76) hx hb wdX6_bring_196 (by decide) ?_
        have hrd : ¬ rdE (q, hv, ed, o).1 (srW Ps mr (q, hv, ed, o) n cz) (sg9 Ps (q, hv, ed, o) mr) := rdE_n1 x0.2.1 hokM hncy hncm (lcmp_n (fun h9 => by have h8 := (zI_eq (by constructor <;> omega) (by constructor <;> omega)).mp (h9.symm.trans elc4); omega))
        exact ih (cz + 1) Nc (by omega) x1 (by rw [sc_n (Ps := Ps) (m := mr) (n := n) (c := cz) (x := (q, hv, ed, o)) hrd]; exact (congrFun (x2.1 136 (by decide) (by decide) (by decide) (by decide)) n).trans i2) (by rw [sf_n (Ps := Ps) (m := mr) (n := n) (c := cz) (x := (q, hv, ed, o)) hrd]; exact (congrFun (x2.1 137 (by decide) (by decide) (by decide) (by decide)) n).trans i3) (i4.d x2) (by omega) _ _ ls w (lv_sub hl [0, 1, 2, 3, 4, 5, 6] rfl)
      · refine lv_aload_n hx hb wdX6_bring_144 rfl (lv_at hl 4 rfl) ?_
        refine f_6_3 F w (a := 135) rfl wtb_434 wdX6_bring_145 ?_
        refine x_Vl F w (As := []) (rest := []) (a := 138) (kd_lt (a := 138) (show kd 138 = (9, 0, 0) from rfl) (by decide)) (sh_9 rfl _ _) rfl (h_linesRead (a := 138) rfl x0) wgv_X6_33 whv_X9_linesRead ⟨(by omega), (by omega)⟩ hl.1 rfl (Nat.le_of_ble_eq_true rfl) ⟨Nat.zero_le _, Nat.zero_le _⟩ wdX6_bring_148 (fun H locs w => ?_)
        refine lv_lload hx hb wdX6_bring_151 (lv_at hl 3 rfl) ?_
        refine W.lcmp hx hb wdX6_bring_153 ?_
        obtain ⟨lc7, blc7, elc7⟩ := rg_ex (lg_cmp (nL (lrF (sg9 Ps (q, hv, ed, srO n cz) mr).2.2 (sg9 Ps (q, hv, ed, srO n cz) mr).1)) (nL (lrF (sg9 Ps (q, hv, ed, o) mr).2.2 (sg9 Ps (q, hv, ed, o) mr).1)))
        refine r_val elc7 ?_
        refine z_if_ne (tgt := 193) hx hb (by omega) wdX6_bring_154 (by decide) (fun c8 => ?_) (fun c8 => ?_)
        · refine z_iinc (v := (((cz + 1) : Nat) : Int)) (lv' := [(9, .int (zI (((cz + 1) : Nat) : Int))), (4, .int (zI (((p39 n) : Nat) : Int))), (5, .long (nL (kvr (sqR (sg9 Ps (q, hv, ed, o) mr).2.1 (sg9 Ps (q, hv, ed, o) mr).2.2 (sg9 Ps (q, hv, ed, o) mr).1)))), (7, .long (nL (lrF (sg9 Ps (q, hv, ed, o) mr).2.2 (sg9 Ps (q, hv, ed, o) mr).1))), (0, .ref (B + 135)), (1, .ref (B + 22)), (3, .int (zI (n : Int)))]) hx hb wdX6_bring_193 hl (k := 0) rfl (by omega) (by decide) rfl (fun ls hl => ?_)
          refine lv_goto (tgt := 76) hx hb wdX6_bring_196 (by decide) ?_
          have hrd : ¬ rdE (q, hv, ed, o).1 (srW Ps mr (q, hv, ed, o) n cz) (sg9 Ps (q, hv, ed, o) mr) := rdE_n2 x0.2.1 hokM hncy hncm (lcmp_n (fun h9 => by have h8 := (zI_eq (by constructor <;> omega) (by constructor <;> omega)).mp (h9.symm.trans elc7); omega))
          exact ih (cz + 1) Nc (by omega) x1 (by rw [sc_n (Ps := Ps) (m := mr) (n := n) (c := cz) (x := (q, hv, ed, o)) hrd]; exact (congrFun (x2.1 136 (by decide) (by decide) (by decide) (by decide)) n).trans i2) (by rw [sf_n (Ps := Ps) (m := mr) (n := n) (c := cz) (x := (q, hv, ed, o)) hrd]; exact (congrFun (x2.1 137 (by decide) (by decide) (by decide) (by decide)) n).trans i3) (i4.d x2) (by omega) _ _ ls w (lv_sub hl [0, 1, 2, 3, 4, 5, 6] rfl)
        · refine lv_aload_n hx hb wdX6_bring_157 rfl (lv_at hl 4 rfl) ?_
          refine f_6_2 F w (a := 135) rfl wtb_453 wdX6_bring_158 ?_
          refine lv_iload_n hx hb wdX6_bring_161 rfl (lv_at hl 6 rfl) ?_
          refine lv_aload_n hx hb wdX6_bring_162 rfl (lv_at hl 4 rfl) ?_
          refine f_6_1 F w (a := 135) rfl wtb_454 wdX6_bring_163 ?_
          refine lv_iload_n hx hb wdX6_bring_166 rfl (lv_at hl 6 rfl) ?_
          refine g_iald F w (a := 136) rfl (j := n) (ix_n (by omega)) (by omega) wdX6_bring_167 ?_
          refine r_val (v := (zI (((scF Ps mr (q, hv, ed, o) n cz) : Nat) : Int))) (((congrFun (x2.1 136 (by decide) (by decide) (by decide) (by decide)) n).trans i2)) ?_
          refine z_if_ne (tgt := 176) hx hb (by omega) wdX6_bring_168 (by decide) (fun c9 => ?_) (fun c9 => ?_)
          · refine lv_aload_n hx hb wdX6_bring_176 rfl (lv_at hl 4 rfl) ?_
            refine f_6_2 F w (a := 135) rfl wtb_453 wdX6_bring_177 ?_
            refine lv_iload_n hx hb wdX6_bring_180 rfl (lv_at hl 6 rfl) ?_
            refine g_iald F w (a := 137) rfl (j := n) (ix_n (by omega)) (by omega) wdX6_bring_181 ?_
            refine r_val (v := (zI (sfF Ps mr (q, hv, ed, o) n cz))) (((congrFun (x2.1 137 (by decide) (by decide) (by decide) (by decide)) n).trans i3)) ?_
            refine g_iast F w (a := 137) rfl (j := n) (ix_n (by omega)) (by omega) wdX6_bring_182 (fun H locs w => ?_)
            refine lv_aload_n hx hb wdX6_bring_183 rfl (lv_at hl 4 rfl) ?_
            refine f_6_1 F w (a := 135) rfl wtb_454 wdX6_bring_184 ?_
            refine lv_iload_n hx hb wdX6_bring_187 rfl (lv_at hl 6 rfl) ?_
            refine lv_dup2_11 hx hb wdX6_bring_188 rfl rfl ?_
            refine g_iald F w (a := 136) rfl (j := n) (ix_n (by omega)) (by omega) wdX6_bring_189 ?_
            refine r_val (v := (zI (((scF Ps mr (q, hv, ed, o) n cz) : Nat) : Int))) ((st_ne (Or.inl (by omega))).trans (((congrFun (x2.1 136 (by decide) (by decide) (by decide) (by decide)) n).trans i2))) ?_
            refine lv_iconst (v := zI 1) hx hb wdX6_bring_190 rfl ?_
            refine z_iadd (z := ((((scF Ps mr (q, hv, ed, o) n cz) + 1) : Nat) : Int)) hx hb wdX6_bring_191 (by omega) ?_
            refine g_iast F w (a := 136) rfl (j := n) (ix_n (by omega)) (by omega) wdX6_bring_192 (fun H locs w => ?_)
            refine z_iinc (v := (((cz + 1) : Nat) : Int)) (lv' := [(9, .int (zI (((cz + 1) : Nat) : Int))), (4, .int (zI (((p39 n) : Nat) : Int))), (5, .long (nL (kvr (sqR (sg9 Ps (q, hv, ed, o) mr).2.1 (sg9 Ps (q, hv, ed, o) mr).2.2 (sg9 Ps (q, hv, ed, o) mr).1)))), (7, .long (nL (lrF (sg9 Ps (q, hv, ed, o) mr).2.2 (sg9 Ps (q, hv, ed, o) mr).1))), (0, .ref (B + 135)), (1, .ref (B + 22)), (3, .int (zI (n : Int)))]) hx hb wdX6_bring_193 hl (k := 0) rfl (by omega) (by decide) rfl (fun ls hl => ?_)
            refine lv_goto (tgt := 76) hx hb wdX6_bring_196 (by decide) ?_
            have hrd : rdE (q, hv, ed, o).1 (srW Ps mr (q, hv, ed, o) n cz) (sg9 Ps (q, hv, ed, o) mr) := rdE_y x0.2.1 hokM hncy hncm (lcmp_0 (elc4.trans (congrArg zI (by omega)))) (lcmp_0 (elc7.trans (congrArg zI (by omega))))
            exact ih (cz + 1) (st (st Nc 137 n (zI (sfF Ps mr (q, hv, ed, o) n cz))) 136 n (zI ((((scF Ps mr (q, hv, ed, o) n cz) + 1) : Nat) : Int))) (by omega) ((x1.d13 (by decide)).d13 (by decide)) (by rw [sc_y (Ps := Ps) (m := mr) (n := n) (c := cz) (x := (q, hv, ed, o)) hrd]; exact st_at) (by rw [sf_1 (Ps := Ps) (m := mr) (n := n) (c := cz) (x := (q, hv, ed, o)) (by omega)]; exact (st_ne (Or.inl (by decide))).trans st_at) (FrJ.s6 (FrJ.s7 (i4.d x2))) (by omega) _ _ ls w (lv_sub hl [0, 1, 2, 3, 4, 5, 6] rfl)
          · refine lv_iload hx hb wdX6_bring_171 (lv_at hl 0 rfl) ?_
            refine lv_goto (tgt := 182) hx hb wdX6_bring_173 (by decide) ?_
            refine g_iast F w (a := 137) rfl (j := n) (ix_n (by omega)) (by omega) wdX6_bring_182 (fun H locs w => ?_)
            refine lv_aload_n hx hb wdX6_bring_183 rfl (lv_at hl 4 rfl) ?_
            refine f_6_1 F w (a := 135) rfl wtb_454 wdX6_bring_184 ?_
            refine lv_iload_n hx hb wdX6_bring_187 rfl (lv_at hl 6 rfl) ?_
            refine lv_dup2_11 hx hb wdX6_bring_188 rfl rfl ?_
            refine g_iald F w (a := 136) rfl (j := n) (ix_n (by omega)) (by omega) wdX6_bring_189 ?_
            refine r_val (v := (zI (((scF Ps mr (q, hv, ed, o) n cz) : Nat) : Int))) ((st_ne (Or.inl (by omega))).trans (((congrFun (x2.1 136 (by decide) (by decide) (by decide) (by decide)) n).trans i2))) ?_
            refine lv_iconst (v := zI 1) hx hb wdX6_bring_190 rfl ?_
            refine z_iadd (z := ((((scF Ps mr (q, hv, ed, o) n cz) + 1) : Nat) : Int)) hx hb wdX6_bring_191 (by omega) ?_
            refine g_iast F w (a := 136) rfl (j := n) (ix_n (by omega)) (by omega) wdX6_bring_192 (fun H locs w => ?_)
            refine z_iinc (v := (((cz + 1) : Nat) : Int)) (lv' := [(9, .int (zI (((cz + 1) : Nat) : Int))), (4, .int (zI (((p39 n) : Nat) : Int))), (5, .long (nL (kvr (sqR (sg9 Ps (q, hv, ed, o) mr).2.1 (sg9 Ps (q, hv, ed, o) mr).2.2 (sg9 Ps (q, hv, ed, o) mr).1)))), (7, .long (nL (lrF (sg9 Ps (q, hv, ed, o) mr).2.2 (sg9 Ps (q, hv, ed, o) mr).1))), (0, .ref (B + 135)), (1, .ref (B + 22)), (3, .int (zI (n : Int)))]) hx hb wdX6_bring_193 hl (k := 0) rfl (by omega) (by decide) rfl (fun ls hl => ?_)
            refine lv_goto (tgt := 76) hx hb wdX6_bring_196 (by decide) ?_
            have hrd : rdE (q, hv, ed, o).1 (srW Ps mr (q, hv, ed, o) n cz) (sg9 Ps (q, hv, ed, o) mr) := rdE_y x0.2.1 hokM hncy hncm (lcmp_0 (elc4.trans (congrArg zI (by omega)))) (lcmp_0 (elc7.trans (congrArg zI (by omega))))
            exact ih (cz + 1) (st (st Nc 137 n (zI (cz : Int))) 136 n (zI ((((scF Ps mr (q, hv, ed, o) n cz) + 1) : Nat) : Int))) (by omega) ((x1.d13 (by decide)).d13 (by decide)) (by rw [sc_y (Ps := Ps) (m := mr) (n := n) (c := cz) (x := (q, hv, ed, o)) hrd]; exact st_at) (by rw [sf_0 (Ps := Ps) (m := mr) (n := n) (c := cz) (x := (q, hv, ed, o)) hrd (by omega)]; exact (st_ne (Or.inl (by decide))).trans st_at) (FrJ.s6 (FrJ.s7 (i4.d x2))) (by omega) _ _ ls w (lv_sub hl [0, 1, 2, 3, 4, 5, 6] rfl)
theorem wdX6_bring_0 : decode cX6_bring 0 = .ok (.iload_n 3, 1) := dX6_bring_0
theorem wdX6_bring_1 : decode cX6_bring 1 = .ok (.ifCond .lt 20, 3) := dX6_bring_1
theorem wdX6_bring_4 : decode cX6_bring 4 = .ok (.iload_n 3, 1) := dX6_bring_4
theorem wdX6_bring_5 : decode cX6_bring 5 = .ok (.bipush 6, 2) := dX6_bring_5
theorem wdX6_bring_7 : decode cX6_bring 7 = .ok (.if_icmp .gt 14, 3) := dX6_bring_7
theorem wdX6_bring_10 : decode cX6_bring 10 = .ok (.aload_n 0, 1) := dX6_bring_10
theorem wdX6_bring_11 : decode cX6_bring 11 = .ok (.getfield 9, 3) := dX6_bring_11
theorem wtb_455 : Cond.fieldLink "ToneLines$Sources" 9 "ToneLines$Sources" "known" "I" ∈ TB := tb_239
theorem wdX6_bring_14 : decode cX6_bring 14 = .ok (.iload_n 3, 1) := dX6_bring_14
theorem wdX6_bring_15 : decode cX6_bring 15 = .ok (.ishr, 1) := dX6_bring_15
theorem wdX6_bring_16 : decode cX6_bring 16 = .ok (.iconst 1, 1) := dX6_bring_16
theorem wdX6_bring_17 : decode cX6_bring 17 = .ok (.iand, 1) := dX6_bring_17
theorem wdX6_bring_18 : decode cX6_bring 18 = .ok (.ifCond .eq 4, 3) := dX6_bring_18
theorem wdX6_bring_22 : decode cX6_bring 22 = .ok (.iconst 1, 1) := dX6_bring_22
theorem wdX6_bring_23 : decode cX6_bring 23 = .ok (.istore 4, 2) := dX6_bring_23
theorem wdX6_bring_25 : decode cX6_bring 25 = .ok (.iconst 0, 1) := dX6_bring_25
theorem wdX6_bring_26 : decode cX6_bring 26 = .ok (.istore 5, 2) := dX6_bring_26
theorem wdX6_bring_46 : decode cX6_bring 46 = .ok (.aload_n 2, 1) := dX6_bring_46
theorem wdX6_bring_47 : decode cX6_bring 47 = .ok (.invokevirtual 29, 3) := dX6_bring_47
theorem wdX6_bring_50 : decode cX6_bring 50 = .ok (.lstore 5, 2) := dX6_bring_50
theorem wdX6_bring_52 : decode cX6_bring 52 = .ok (.aload_n 2, 1) := dX6_bring_52
theorem wdX6_bring_53 : decode cX6_bring 53 = .ok (.invokevirtual 33, 3) := dX6_bring_53
theorem wdX6_bring_56 : decode cX6_bring 56 = .ok (.lstore 7, 2) := dX6_bring_56
theorem wdX6_bring_58 : decode cX6_bring 58 = .ok (.aload_n 0, 1) := dX6_bring_58
theorem wdX6_bring_59 : decode cX6_bring 59 = .ok (.getfield 15, 3) := dX6_bring_59
theorem wdX6_bring_62 : decode cX6_bring 62 = .ok (.iload_n 3, 1) := dX6_bring_62
theorem wdX6_bring_63 : decode cX6_bring 63 = .ok (.iconst 0, 1) := dX6_bring_63
theorem wdX6_bring_64 : decode cX6_bring 64 = .ok (.iastore, 1) := dX6_bring_64
theorem wdX6_bring_65 : decode cX6_bring 65 = .ok (.aload_n 0, 1) := dX6_bring_65
theorem wdX6_bring_66 : decode cX6_bring 66 = .ok (.getfield 19, 3) := dX6_bring_66
theorem wdX6_bring_69 : decode cX6_bring 69 = .ok (.iload_n 3, 1) := dX6_bring_69
theorem wdX6_bring_70 : decode cX6_bring 70 = .ok (.bipush (-2), 2) := dX6_bring_70
theorem wdX6_bring_72 : decode cX6_bring 72 = .ok (.iastore, 1) := dX6_bring_72
theorem wdX6_bring_73 : decode cX6_bring 73 = .ok (.iconst 0, 1) := dX6_bring_73
theorem wdX6_bring_74 : decode cX6_bring 74 = .ok (.istore 9, 2) := dX6_bring_74
theorem wdX6_bring_199 : decode cX6_bring 199 = .ok (.aload_n 0, 1) := dX6_bring_199
theorem wdX6_bring_200 : decode cX6_bring 200 = .ok (.dup, 1) := dX6_bring_200
theorem wdX6_bring_201 : decode cX6_bring 201 = .ok (.getfield 9, 3) := dX6_bring_201
theorem wdX6_bring_204 : decode cX6_bring 204 = .ok (.iconst 1, 1) := dX6_bring_204
theorem wdX6_bring_205 : decode cX6_bring 205 = .ok (.iload_n 3, 1) := dX6_bring_205
theorem wdX6_bring_206 : decode cX6_bring 206 = .ok (.ishl, 1) := dX6_bring_206
theorem wdX6_bring_207 : decode cX6_bring 207 = .ok (.ior, 1) := dX6_bring_207
theorem wdX6_bring_208 : decode cX6_bring 208 = .ok (.putfield 9, 3) := dX6_bring_208
theorem wdX6_bring_211 : decode cX6_bring 211 = .ok (.return_, 1) := dX6_bring_211
theorem wdX6_bring_21 : decode cX6_bring 21 = .ok (.return_, 1) := dX6_bring_21
set_option maxRecDepth 4000 in
theorem h_bring {l : Launch} {D : va_G} {B : Nat} {cy : Nat → ClassId} {M : Mem} {Ps : Nat → Nat → Int} {mr rd k q hv ed : Nat} {o : Wo} {Hs : Nat → Fw} (hS : CS M Ps mr (q, hv, ed, o) rd Hs k) (hn9 : ncW o) {n kn : Nat} (hn : n ≤ 6) (hmr : mr ≤ rd) (hk9 : kn < 4096) (hkn : M.1 135 0 = zI (kn : Int)) (hjs : ∀ n, n ≤ 6 → kn.testBit n = true → M.1 136 n = zI ((scF Ps mr (q, hv, ed, o) n (p39 n) : Nat) : Int) ∧ M.1 137 n = zI (sfF Ps mr (q, hv, ed, o) n (p39 n))) : Cv l D B cy yX6_bring cX6_bring 11 5 133 [.ref (B + 135), .ref (B + 22), .ref (B + (44 + 3 * mr)), .int (zI (n : Int))] M (fun M1 => JS9 M1 Ps mr (q, hv, ed, o) ∧ CS M1 Ps mr (q, hv, ed, o) rd Hs k ∧ M1.1 136 n = zI (((scF Ps mr (q, hv, ed, o) n (p39 n)) : Nat) : Int) ∧ M1.1 137 n = zI (sfF Ps mr (q, hv, ed, o) n (p39 n))) := by
  refine s_any (by decide) (Nat.le_of_ble_eq_true rfl) ?_
  intro p e s m below meth c ls F hr hlocks w hl
  have F : CallFix p m c cX6_bring 11 s _ TB RX6 := F
  have hx := F.1
  have hb := F.2.1
  have hl : lv_has ls 11 [(0, .ref (B + 135)), (1, .ref (B + 22)), (2, .ref (B + (44 + 3 * mr))), (3, .int (zI (n : Int)))] := hl
  have hm8 := hS.1.2.1
  have hC : CW M 44 q hv ed o := hS.t
  have hW : isW M 44 o.1 q hv ed o.2.1 o.2.2 := hC.1
  have hwf := hC.wf
  have hKL := hwf.2.2.2.2
  have hn12 := hwf.1
  have hq12 := hwf.2.1
  have hhv := hwf.2.2.1
  have hed := hwf.2.2.2.1
  have hpn := p3_b hn
  have hCw : CW M (44 + 3 * mr) q hv ed (sg9 Ps (q, hv, ed, o) mr) := hS.2.1.2.2.1 mr hmr
  have hGa : ∀ j, j < mr → okG (Ps j) := fun j hj => (hS.1.2.2 j hj).2
  have hncm : ncW (sg9 Ps (q, hv, ed, o) mr) := nc_dvF hn9 mr hGa
  refine lv_iload_n hx hb wdX6_bring_0 rfl (lv_at hl 3 rfl) ?_
  refine z_if_lt (tgt := 21) hx hb (by omega) wdX6_bring_1 (by decide) (fun c1 => False.elim (by omega)) (fun c1 => ?_)
  refine lv_iload_n hx hb wdX6_bring_4 rfl (lv_at hl 3 rfl) ?_
  refine lv_bipush (v := zI 6) hx hb wdX6_bring_5 (by decide) ?_
  refine z_icmp_gt (tgt := 21) hx hb (by omega) (by omega) wdX6_bring_7 (by decide) (fun c2 => False.elim (by omega)) (fun c2 => ?_)
  refine lv_aload_n hx hb wdX6_bring_10 rfl (lv_at hl 0 rfl) ?_
  refine f_6_0 F w (a := 135) rfl wtb_455 wdX6_bring_11 ?_
  refine r_val (v := (zI (kn : Int))) (hkn) ?_
  refine lv_iload_n hx hb wdX6_bring_14 rfl (lv_at hl 3 rfl) ?_
  refine lv_ishr hx hb wdX6_bring_15 ?_
  refine r_val (v := (zI (((kn >>> n) : Nat) : Int))) (zb_shr (a := kn) (n := n) (by omega) (by omega)) ?_
  have q3 := shr_le kn n
  refine lv_iconst (v := zI 1) hx hb wdX6_bring_16 rfl ?_
  refine lv_iand hx hb wdX6_bring_17 ?_
  refine r_val (v := (zI (((tb kn n) : Nat) : Int))) zb_tst ?_
  have q4 := tb01 kn n
  refine z_if_eq (tgt := 22) hx hb (by omega) wdX6_bring_18 (by decide) (fun c5 => ?_) (fun c5 => ?_)
  · refine lv_iconst (v := zI 1) hx hb wdX6_bring_22 rfl ?_
    refine lv_istore (lv' := [(4, .int (zI 1)), (0, .ref (B + 135)), (1, .ref (B + 22)), (2, .ref (B + (44 + 3 * mr))), (3, .int (zI (n : Int)))]) hx hb wdX6_bring_23 hl (by decide) rfl (fun ls hl => ?_)
    refine lv_iconst (v := zI 0) hx hb wdX6_bring_25 rfl ?_
    refine lv_istore (lv' := [(5, .int (zI 0)), (4, .int (zI 1)), (0, .ref (B + 135)), (1, .ref (B + 22)), (2, .ref (B + (44 + 3 * mr))), (3, .int (zI (n : Int)))]) hx hb wdX6_bring_26 hl (by decide) rfl (fun ls hl => ?_)
    replace hl : lv_has ls 11 [(5, .int (zI 0)), (4, .int (zI (((p39 0) : Nat) : Int))), (0, .ref (B + 135)), (1, .ref (B + 22)), (2, .ref (B + (44 + 3 * mr))), (3, .int (zI (n : Int)))] := by rw [show p39 0 = 1 from rfl]; exact hl
    refine lp_X6_bring1  F (Nat.le_of_ble_eq_true rfl) (Nat.le_of_ble_eq_true rfl) hn (fun i H locs ls x0 w hl => ?_) n 0 (by omega) (by omega) _ _ ls w (lv_sub hl [0, 1, 2, 3, 5, 4] rfl)
    rw [x0] at hl
    refine lv_aload_n hx hb wdX6_bring_46 rfl (lv_at hl 4 rfl) ?_
    refine x_Vl F w (As := []) (rest := []) (a := (44 + 3 * mr)) (kd_lt (a := (44 + 3 * mr)) (kd_sg (by omega)) (by decide)) (sh_9 (kd_sg (by omega)) _ _) rfl (h_kindsRead (a := 44 + 3 * mr) (kd_sg (by omega)) hCw) wgv_X6_29 whv_X9_kindsRead ⟨(Nat.le_of_ble_eq_true rfl), (Nat.le_of_ble_eq_true rfl)⟩ hl.1 rfl (Nat.le_of_ble_eq_true rfl) ⟨Nat.zero_le _, Nat.zero_le _⟩ wdX6_bring_47 (fun H locs w => ?_)
    refine lv_lstore (lv' := [(5, .long (nL (kvr (sqR (sg9 Ps (q, hv, ed, o) mr).2.1 (sg9 Ps (q, hv, ed, o) mr).2.2 (sg9 Ps (q, hv, ed, o) mr).1)))), (4, .int (zI (((p39 n) : Nat) : Int))), (0, .ref (B + 135)), (1, .ref (B + 22)), (3, .int (zI (n : Int))), (2, .ref (B + (44 + 3 * mr)))]) hx hb wdX6_bring_50 hl (by decide) rfl (fun ls hl => ?_)
    refine lv_aload_n hx hb wdX6_bring_52 rfl (lv_at hl 5 rfl) ?_
    refine x_Vl F w (As := []) (rest := []) (a := (44 + 3 * mr)) (kd_lt (a := (44 + 3 * mr)) (kd_sg (by omega)) (by decide)) (sh_9 (kd_sg (by omega)) _ _) rfl (h_linesRead (a := 44 + 3 * mr) (kd_sg (by omega)) hCw) wgv_X6_33 whv_X9_linesRead ⟨(Nat.le_of_ble_eq_true rfl), (Nat.le_of_ble_eq_true rfl)⟩ hl.1 rfl (Nat.le_of_ble_eq_true rfl) ⟨Nat.zero_le _, Nat.zero_le _⟩ wdX6_bring_53 (fun H locs w => ?_)
    refine lv_lstore (lv' := [(7, .long (nL (lrF (sg9 Ps (q, hv, ed, o) mr).2.2 (sg9 Ps (q, hv, ed, o) mr).1))), (5, .long (nL (kvr (sqR (sg9 Ps (q, hv, ed, o) mr).2.1 (sg9 Ps (q, hv, ed, o) mr).2.2 (sg9 Ps (q, hv, ed, o) mr).1)))), (4, .int (zI (((p39 n) : Nat) : Int))), (0, .ref (B + 135)), (1, .ref (B + 22)), (3, .int (zI (n : Int))), (2, .ref (B + (44 + 3 * mr)))]) hx hb wdX6_bring_56 hl (by decide) rfl (fun ls hl => ?_)
    refine lv_aload_n hx hb wdX6_bring_58 rfl (lv_at hl 3 rfl) ?_
    refine f_6_1 F w (a := 135) rfl wtb_454 wdX6_bring_59 ?_
    refine lv_iload_n hx hb wdX6_bring_62 rfl (lv_at hl 5 rfl) ?_
    refine lv_iconst (v := zI 0) hx hb wdX6_bring_63 rfl ?_
    refine g_iast F w (a := 136) rfl (j := n) (ix_n (by omega)) (by omega) wdX6_bring_64 (fun H locs w => ?_)
    refine lv_aload_n hx hb wdX6_bring_65 rfl (lv_at hl 3 rfl) ?_
    refine f_6_2 F w (a := 135) rfl wtb_453 wdX6_bring_66 ?_
    refine lv_iload_n hx hb wdX6_bring_69 rfl (lv_at hl 5 rfl) ?_
    refine lv_bipush (v := zI (-2)) hx hb wdX6_bring_70 (by decide) ?_
    refine g_iast F w (a := 137) rfl (j := n) (ix_n (by omega)) (by omega) wdX6_bring_72 (fun H locs w => ?_)
    refine lv_iconst (v := zI 0) hx hb wdX6_bring_73 rfl ?_
    refine lv_istore (lv' := [(9, .int (zI 0)), (7, .long (nL (lrF (sg9 Ps (q, hv, ed, o) mr).2.2 (sg9 Ps (q, hv, ed, o) mr).1))), (5, .long (nL (kvr (sqR (sg9 Ps (q, hv, ed, o) mr).2.1 (sg9 Ps (q, hv, ed, o) mr).2.2 (sg9 Ps (q, hv, ed, o) mr).1)))), (4, .int (zI (((p39 n) : Nat) : Int))), (0, .ref (B + 135)), (1, .ref (B + 22)), (3, .int (zI (n : Int))), (2, .ref (B + (44 + 3 * mr)))]) hx hb wdX6_bring_74 hl (by decide) rfl (fun ls hl => ?_)
    refine lp_X6_bring2  F (Nat.le_of_ble_eq_true rfl) (Nat.le_of_ble_eq_true rfl) hm8 hn hCw.2.1 hncm hGa (fun cz Nm H locs ls x0 x1 x2 x3 w hl => ?_) (p39 n) 0 (st (st M 136 n (zI 0)) 137 n (zI (-2))) (Nat.zero_le _) ((hS.d13 (by decide)).d13 (by decide)) (by rw [scF]; exact (st_ne (Or.inl (by decide))).trans st_at) (by rw [sfF]; exact st_at) (FrJ.s7 (FrJ.s6 FrJ.rf)) (by omega) _ _ ls w (lv_sub hl [0, 3, 2, 1, 4, 5, 6] rfl)
    refine lv_aload_n hx hb wdX6_bring_199 rfl (lv_at hl 0 rfl) ?_
    refine lv_dup hx hb wdX6_bring_200 rfl ?_
    refine f_6_0 F w (a := 135) rfl wtb_455 wdX6_bring_201 ?_
    refine r_val (v := (zI (kn : Int))) (((congrFun x3.1 0).trans hkn)) ?_
    refine lv_iconst (v := zI 1) hx hb wdX6_bring_204 rfl ?_
    refine lv_iload_n hx hb wdX6_bring_205 rfl (lv_at hl 2 rfl) ?_
    refine lv_ishl hx hb wdX6_bring_206 ?_
    refine r_val (v := (zI (((2 ^ n) : Nat) : Int))) (zb_shl (n := n) (by omega)) ?_
    have q8 := p2_b (n := n) (by omega)
    refine lv_ior hx hb wdX6_bring_207 ?_
    refine r_val (v := (zI (((kn ||| (2 ^ n)) : Nat) : Int))) (zb_or kn (2 ^ n)) ?_
    have q9 := or_lt12 (a := kn) (b := (2 ^ n)) (by omega) (by omega)
    refine u_6_0 F w (a := 135) rfl wtb_455 wdX6_bring_208 (fun H locs w => ?_)
    exact e_v F w hr hlocks ⟨JS9.add hk9 hn hjs x3 x1 x2, x0.d13 (by decide), (congrFun (st_ob (by decide)) n).trans x1, (congrFun (st_ob (by decide)) n).trans x2⟩ wdX6_bring_211
  · exact e_v F w hr hlocks ⟨⟨kn, hk9, hkn, hjs⟩, hS, (hjs n hn (tbo.mp (by have := tb01 kn n; omega))).1, (hjs n hn (tbo.mp (by have := tb01 kn n; omega))).2⟩ wdX6_bring_21
theorem wdX11_sources_0 : decode cX11_sources 0 = .ok (.iload_n 1, 1) := dX11_sources_0
theorem wdX11_sources_1 : decode cX11_sources 1 = .ok (.ifCond .lt 9, 3) := dX11_sources_1
theorem wdX11_sources_10 : decode cX11_sources 10 = .ok (.iconst (-1), 1) := dX11_sources_10
theorem wdX11_sources_11 : decode cX11_sources 11 = .ok (.ireturn, 1) := dX11_sources_11
theorem wdX11_sources_4 : decode cX11_sources 4 = .ok (.iload_n 1, 1) := dX11_sources_4
theorem wdX11_sources_5 : decode cX11_sources 5 = .ok (.bipush 6, 2) := dX11_sources_5
theorem wdX11_sources_7 : decode cX11_sources 7 = .ok (.if_icmp .le 5, 3) := dX11_sources_7
theorem wdX11_sources_12 : decode cX11_sources 12 = .ok (.aload_n 0, 1) := dX11_sources_12
theorem wdX11_sources_13 : decode cX11_sources 13 = .ok (.getfield 61, 3) := dX11_sources_13
theorem wdX11_sources_16 : decode cX11_sources 16 = .ok (.aload_n 0, 1) := dX11_sources_16
theorem wdX11_sources_17 : decode cX11_sources 17 = .ok (.getfield 35, 3) := dX11_sources_17
theorem wdX11_sources_20 : decode cX11_sources 20 = .ok (.aload_n 0, 1) := dX11_sources_20
theorem wdX11_sources_21 : decode cX11_sources 21 = .ok (.getfield 35, 3) := dX11_sources_21
theorem wdX11_sources_24 : decode cX11_sources 24 = .ok (.aload_n 0, 1) := dX11_sources_24
theorem wdX11_sources_25 : decode cX11_sources 25 = .ok (.getfield 35, 3) := dX11_sources_25
theorem wdX11_sources_28 : decode cX11_sources 28 = .ok (.getfield 118, 3) := dX11_sources_28
theorem wdX11_sources_31 : decode cX11_sources 31 = .ok (.invokevirtual 196, 3) := dX11_sources_31
theorem wdX11_sources_34 : decode cX11_sources 34 = .ok (.iload_n 1, 1) := dX11_sources_34
theorem wdX11_sources_35 : decode cX11_sources 35 = .ok (.invokevirtual 285, 3) := dX11_sources_35
theorem wtk_X6_bring : Cond.code yX6_bring cX6_bring 11 none ∈ TB := tk_X6_bring
theorem wgc_X6_bring : GoodIn TB (cw yX6_bring cX6_bring 11 none) := goodIn_c2 wtk_X6_bring
theorem wtb_456 : Cond.methodLink "ToneLines" 285 yX6_bring ∈ TB := tb_388
theorem wtb_457 : Cond.instanceMethod yX6_bring ∈ TB := tb_389
theorem wtb_458 : Cond.selects "ToneLines$Sources" yX6_bring yX6_bring ∈ TB := tb_390
theorem wgv_X11_285 : GoodIn TB (wsV RX11 285 RX6 yX6_bring (cw yX6_bring cX6_bring 11 none)) := goodIn_4 wtb_456 wtb_457 wtb_458 wtb_450 wgc_X6_bring
theorem whv_X6_bring : yX6_bring.cls = RX6 ∧ yX6_bring.cls ≠ "java/lang/invoke/MethodHandle" ∧ yX6_bring.cls ≠ "java/lang/invoke/VarHandle" ∧ (parseMethodDescriptor yX6_bring.desc).map (fun d => d.parameters.length) = some 3 := hv_X6_bring
theorem wdX11_sources_38 : decode cX11_sources 38 = .ok (.aload_n 0, 1) := dX11_sources_38
theorem wdX11_sources_39 : decode cX11_sources 39 = .ok (.getfield 61, 3) := dX11_sources_39
theorem wdX11_sources_42 : decode cX11_sources 42 = .ok (.getfield 289, 3) := dX11_sources_42
theorem wtb_459 : Cond.fieldLink "ToneLines" 289 "ToneLines$Sources" "counts" "[I" ∈ TB := tb_391
theorem wdX11_sources_45 : decode cX11_sources 45 = .ok (.iload_n 1, 1) := dX11_sources_45
theorem wdX11_sources_46 : decode cX11_sources 46 = .ok (.iaload, 1) := dX11_sources_46
theorem wdX11_sources_47 : decode cX11_sources 47 = .ok (.ireturn, 1) := dX11_sources_47
set_option maxRecDepth 4000 in
theorem h_sources {l : Launch} {D : va_G} {B : Nat} {cy : Nat → ClassId} {M : Mem} {Ps : Nat → Nat → Int} {mr rd k q hv ed : Nat} {o : Wo} {Hs : Nat → Fw} (hS : CS M Ps mr (q, hv, ed, o) rd Hs k) (hn9 : ncW o) (hJ : JS9 M Ps mr (q, hv, ed, o)) {n9 : Int} (hn8 : rg n9) : Ci l D B cy yX11_sources cX11_sources 2 (some .int) 6 163 [.ref (B + 0), .int (zI n9)] M (fun r M1 => r = zI (soA Ps mr n9 (q, hv, ed, o)) ∧ JS9 M1 Ps mr (q, hv, ed, o)) := by
  refine s_any (by decide) (Nat.le_of_ble_eq_true rfl) ?_
  intro p e s m below meth c ls F hr hlocks w hl
  have F : CallFix p m c cX11_sources 2 s _ TB RX11 := F
  have hx := F.1
  have hb := F.2.1
  have hl : lv_has ls 2 [(0, .ref (B + 0)), (1, .int (zI n9))] := hl
  have hm8 := hS.1.2.1
  have hC : CW M 44 q hv ed o := hS.t
  have hW : isW M 44 o.1 q hv ed o.2.1 o.2.2 := hC.1
  have hwf := hC.wf
  have hKL := hwf.2.2.2.2
  have hn12 := hwf.1
  have hq12 := hwf.2.1
  have hhv := hwf.2.2.1
  have hed := hwf.2.2.2.1
  refine lv_iload_n hx hb wdX11_sources_0 rfl (lv_at hl 1 rfl) ?_
  refine z_if_lt (tgt := 10) hx hb (by omega) wdX11_sources_1 (by decide) (fun c1 => ?_) (fun c1 => ?_)
  · refine lv_iconst (v := zI (-1)) hx hb wdX11_sources_10 rfl ?_
    exact e_i F w hr hlocks ⟨congrArg zI (soA_n (by omega)).symm, hJ⟩ wdX11_sources_11
  · refine lv_iload_n hx hb wdX11_sources_4 rfl (lv_at hl 1 rfl) ?_
    refine lv_bipush (v := zI 6) hx hb wdX11_sources_5 (by decide) ?_
    refine z_icmp_le (tgt := 12) hx hb (by omega) (by omega) wdX11_sources_7 (by decide) (fun c2 => ?_) (fun c2 => ?_)
    · obtain ⟨nn, rfl⟩ : ∃ n8 : Nat, n9 = (n8 : Int) := ⟨Int.toNat n9, by omega⟩
      refine lv_aload_n hx hb wdX11_sources_12 rfl (lv_at hl 0 rfl) ?_
      refine f_11_7 F w (a := 0) rfl wtb_211 wdX11_sources_13 ?_
      refine lv_aload_n hx hb wdX11_sources_16 rfl (lv_at hl 0 rfl) ?_
      refine f_11_3 F w (a := 0) rfl wtb_207 wdX11_sources_17 ?_
      refine lv_aload_n hx hb wdX11_sources_20 rfl (lv_at hl 0 rfl) ?_
      refine f_11_3 F w (a := 0) rfl wtb_207 wdX11_sources_21 ?_
      refine lv_aload_n hx hb wdX11_sources_24 rfl (lv_at hl 0 rfl) ?_
      refine f_11_3 F w (a := 0) rfl wtb_207 wdX11_sources_25 ?_
      refine f_0_2 F w (a := 22) rfl wtb_368 wdX11_sources_28 ?_
      refine r_val (v := (zI (mr : Int))) (hS.1.1) ?_
      refine k_Vr F w (As := [.int (zI (mr : Int))]) (rest := [.ref (B + 22), .ref (B + 135)]) (a := 22) (kd_lt (a := 22) (show kd 22 = (0, 0, 0) from rfl) (by decide)) (sh_0 rfl _ _) rfl (g_stageOf hS (n9 := mr) (by omega)) wgv_X11_196 whv_X0_stageOf ⟨(Nat.le_of_ble_eq_true rfl), (Nat.le_of_ble_eq_true rfl)⟩ hl.1 rfl (Nat.le_of_ble_eq_true rfl) ⟨Nat.zero_le _, Nat.zero_le _⟩ wdX11_sources_31 (fun r Ma3 H locs hp w => ?_)
      rcases hp with ⟨rfl, rd1, hnr, hrr, hS1, hF1⟩
      obtain ⟨kn, hk9, hkn, hjs⟩ := hJ.fr (hF1.1 135 (by decide)) (hF1.1 136 (by decide)) (hF1.1 137 (by decide))
      refine lv_iload_n hx hb wdX11_sources_34 rfl (lv_at hl 1 rfl) ?_
      refine k_Vv F w (As := [.ref (B + 22), .ref (B + (44 + 3 * mr)), .int (zI (nn : Int))]) (rest := []) (a := 135) (kd_lt (a := 135) (show kd 135 = (6, 0, 0) from rfl) (by decide)) (sh_6 rfl _ _) rfl (h_bring hS1 hn9 (n := nn) (by omega) hnr hk9 hkn hjs) wgv_X11_285 whv_X6_bring ⟨(Nat.le_of_ble_eq_true rfl), (Nat.le_of_ble_eq_true rfl)⟩ hl.1 rfl (Nat.le_of_ble_eq_true rfl) ⟨Nat.zero_le _, Nat.zero_le _⟩ wdX11_sources_35 (fun Ma4 H locs hp w => ?_)
      rcases hp with ⟨hJ2, hS2, hc2, hf2⟩
      refine lv_aload_n hx hb wdX11_sources_38 rfl (lv_at hl 0 rfl) ?_
      refine f_11_7 F w (a := 0) rfl wtb_211 wdX11_sources_39 ?_
      refine f_6_1 F w (a := 135) rfl wtb_459 wdX11_sources_42 ?_
      refine lv_iload_n hx hb wdX11_sources_45 rfl (lv_at hl 1 rfl) ?_
      refine g_iald F w (a := 136) rfl (j := nn) (ix_n (by omega)) (by omega) wdX11_sources_46 ?_
      refine r_val (v := (zI (((scF Ps mr (q, hv, ed, o) nn (p39 nn)) : Nat) : Int))) (hc2) ?_
      exact e_i F w hr hlocks ⟨congrArg zI (soA_y (by omega)).symm, hJ2⟩ wdX11_sources_47
    · refine lv_iconst (v := zI (-1)) hx hb wdX11_sources_10 rfl ?_
      exact e_i F w hr hlocks ⟨congrArg zI (soA_n (by omega)).symm, hJ⟩ wdX11_sources_11
theorem wdX11_source_0 : decode cX11_source 0 = .ok (.iload_n 1, 1) := dX11_source_0
theorem wdX11_source_1 : decode cX11_source 1 = .ok (.ifCond .lt 9, 3) := dX11_source_1
theorem wdX11_source_10 : decode cX11_source 10 = .ok (.iconst (-1), 1) := dX11_source_10
theorem wdX11_source_11 : decode cX11_source 11 = .ok (.ireturn, 1) := dX11_source_11
theorem wdX11_source_4 : decode cX11_source 4 = .ok (.iload_n 1, 1) := dX11_source_4
theorem wdX11_source_5 : decode cX11_source 5 = .ok (.bipush 6, 2) := dX11_source_5
theorem wdX11_source_7 : decode cX11_source 7 = .ok (.if_icmp .le 5, 3) := dX11_source_7
theorem wdX11_source_12 : decode cX11_source 12 = .ok (.aload_n 0, 1) := dX11_source_12
theorem wdX11_source_13 : decode cX11_source 13 = .ok (.getfield 61, 3) := dX11_source_13
theorem wdX11_source_16 : decode cX11_source 16 = .ok (.aload_n 0, 1) := dX11_source_16
theorem wdX11_source_17 : decode cX11_source 17 = .ok (.getfield 35, 3) := dX11_source_17
theorem wdX11_source_20 : decode cX11_source 20 = .ok (.aload_n 0, 1) := dX11_source_20
theorem wdX11_source_21 : decode cX11_source 21 = .ok (.getfield 35, 3) := dX11_source_21
theorem wdX11_source_24 : decode cX11_source 24 = .ok (.aload_n 0, 1) := dX11_source_24
theorem wdX11_source_25 : decode cX11_source 25 = .ok (.getfield 35, 3) := dX11_source_25
theorem wdX11_source_28 : decode cX11_source 28 = .ok (.getfield 118, 3) := dX11_source_28
theorem wdX11_source_31 : decode cX11_source 31 = .ok (.invokevirtual 196, 3) := dX11_source_31
theorem wdX11_source_34 : decode cX11_source 34 = .ok (.iload_n 1, 1) := dX11_source_34
theorem wdX11_source_35 : decode cX11_source 35 = .ok (.invokevirtual 285, 3) := dX11_source_35
theorem wdX11_source_38 : decode cX11_source 38 = .ok (.aload_n 0, 1) := dX11_source_38
theorem wdX11_source_39 : decode cX11_source 39 = .ok (.getfield 61, 3) := dX11_source_39
theorem wdX11_source_42 : decode cX11_source 42 = .ok (.getfield 292, 3) := dX11_source_42
theorem wtb_460 : Cond.fieldLink "ToneLines" 292 "ToneLines$Sources" "firsts" "[I" ∈ TB := tb_392
theorem wdX11_source_45 : decode cX11_source 45 = .ok (.iload_n 1, 1) := dX11_source_45
theorem wdX11_source_46 : decode cX11_source 46 = .ok (.iaload, 1) := dX11_source_46
theorem wdX11_source_47 : decode cX11_source 47 = .ok (.ireturn, 1) := dX11_source_47
set_option maxRecDepth 4000 in
theorem h_source {l : Launch} {D : va_G} {B : Nat} {cy : Nat → ClassId} {M : Mem} {Ps : Nat → Nat → Int} {mr rd k q hv ed : Nat} {o : Wo} {Hs : Nat → Fw} (hS : CS M Ps mr (q, hv, ed, o) rd Hs k) (hn9 : ncW o) (hJ : JS9 M Ps mr (q, hv, ed, o)) {n9 : Int} (hn8 : rg n9) : Ci l D B cy yX11_source cX11_source 2 (some .int) 6 163 [.ref (B + 0), .int (zI n9)] M (fun r M1 => r = zI (sfA Ps mr n9 (q, hv, ed, o)) ∧ JS9 M1 Ps mr (q, hv, ed, o)) := by
  refine s_any (by decide) (Nat.le_of_ble_eq_true rfl) ?_
  intro p e s m below meth c ls F hr hlocks w hl
  have F : CallFix p m c cX11_source 2 s _ TB RX11 := F
  have hx := F.1
  have hb := F.2.1
  have hl : lv_has ls 2 [(0, .ref (B + 0)), (1, .int (zI n9))] := hl
  have hm8 := hS.1.2.1
  have hC : CW M 44 q hv ed o := hS.t
  have hW : isW M 44 o.1 q hv ed o.2.1 o.2.2 := hC.1
  have hwf := hC.wf
  have hKL := hwf.2.2.2.2
  have hn12 := hwf.1
  have hq12 := hwf.2.1
  have hhv := hwf.2.2.1
  have hed := hwf.2.2.2.1
  refine lv_iload_n hx hb wdX11_source_0 rfl (lv_at hl 1 rfl) ?_
  refine z_if_lt (tgt := 10) hx hb (by omega) wdX11_source_1 (by decide) (fun c1 => ?_) (fun c1 => ?_)
  · refine lv_iconst (v := zI (-1)) hx hb wdX11_source_10 rfl ?_
    exact e_i F w hr hlocks ⟨congrArg zI (sfA_n (by omega)).symm, hJ⟩ wdX11_source_11
  · refine lv_iload_n hx hb wdX11_source_4 rfl (lv_at hl 1 rfl) ?_
    refine lv_bipush (v := zI 6) hx hb wdX11_source_5 (by decide) ?_
    refine z_icmp_le (tgt := 12) hx hb (by omega) (by omega) wdX11_source_7 (by decide) (fun c2 => ?_) (fun c2 => ?_)
    · obtain ⟨nn, rfl⟩ : ∃ n8 : Nat, n9 = (n8 : Int) := ⟨Int.toNat n9, by omega⟩
      refine lv_aload_n hx hb wdX11_source_12 rfl (lv_at hl 0 rfl) ?_
      refine f_11_7 F w (a := 0) rfl wtb_211 wdX11_source_13 ?_
      refine lv_aload_n hx hb wdX11_source_16 rfl (lv_at hl 0 rfl) ?_
      refine f_11_3 F w (a := 0) rfl wtb_207 wdX11_source_17 ?_
      refine lv_aload_n hx hb wdX11_source_20 rfl (lv_at hl 0 rfl) ?_
      refine f_11_3 F w (a := 0) rfl wtb_207 wdX11_source_21 ?_
      refine lv_aload_n hx hb wdX11_source_24 rfl (lv_at hl 0 rfl) ?_
      refine f_11_3 F w (a := 0) rfl wtb_207 wdX11_source_25 ?_
      refine f_0_2 F w (a := 22) rfl wtb_368 wdX11_source_28 ?_
      refine r_val (v := (zI (mr : Int))) (hS.1.1) ?_
      refine k_Vr F w (As := [.int (zI (mr : Int))]) (rest := [.ref (B + 22), .ref (B + 135)]) (a := 22) (kd_lt (a := 22) (show kd 22 = (0, 0, 0) from rfl) (by decide)) (sh_0 rfl _ _) rfl (g_stageOf hS (n9 := mr) (by omega)) wgv_X11_196 whv_X0_stageOf ⟨(Nat.le_of_ble_eq_true rfl), (Nat.le_of_ble_eq_true rfl)⟩ hl.1 rfl (Nat.le_of_ble_eq_true rfl) ⟨Nat.zero_le _, Nat.zero_le _⟩ wdX11_source_31 (fun r Ma3 H locs hp w => ?_)
      rcases hp with ⟨rfl, rd1, hnr, hrr, hS1, hF1⟩
      obtain ⟨kn, hk9, hkn, hjs⟩ := hJ.fr (hF1.1 135 (by decide)) (hF1.1 136 (by decide)) (hF1.1 137 (by decide))
      refine lv_iload_n hx hb wdX11_source_34 rfl (lv_at hl 1 rfl) ?_
      refine k_Vv F w (As := [.ref (B + 22), .ref (B + (44 + 3 * mr)), .int (zI (nn : Int))]) (rest := []) (a := 135) (kd_lt (a := 135) (show kd 135 = (6, 0, 0) from rfl) (by decide)) (sh_6 rfl _ _) rfl (h_bring hS1 hn9 (n := nn) (by omega) hnr hk9 hkn hjs) wgv_X11_285 whv_X6_bring ⟨(Nat.le_of_ble_eq_true rfl), (Nat.le_of_ble_eq_true rfl)⟩ hl.1 rfl (Nat.le_of_ble_eq_true rfl) ⟨Nat.zero_le _, Nat.zero_le _⟩ wdX11_source_35 (fun Ma4 H locs hp w => ?_)
      rcases hp with ⟨hJ2, hS2, hc2, hf2⟩
      refine lv_aload_n hx hb wdX11_source_38 rfl (lv_at hl 0 rfl) ?_
      refine f_11_7 F w (a := 0) rfl wtb_211 wdX11_source_39 ?_
      refine f_6_2 F w (a := 135) rfl wtb_460 wdX11_source_42 ?_
      refine lv_iload_n hx hb wdX11_source_45 rfl (lv_at hl 1 rfl) ?_
      refine g_iald F w (a := 137) rfl (j := nn) (ix_n (by omega)) (by omega) wdX11_source_46 ?_
      refine r_val (v := (zI (sfF Ps mr (q, hv, ed, o) nn (p39 nn)))) (hf2) ?_
      exact e_i F w hr hlocks ⟨congrArg zI (sfA_y (by omega)).symm, hJ2⟩ wdX11_source_47
    · refine lv_iconst (v := zI (-1)) hx hb wdX11_source_10 rfl ?_
      exact e_i F w hr hlocks ⟨congrArg zI (sfA_n (by omega)).symm, hJ⟩ wdX11_source_11
