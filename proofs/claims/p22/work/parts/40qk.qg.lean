-- a word as a text
def chK (k : Nat) : Nat := if k = 2 then 104 else if k = 0 then 108 else 109
def tT (K : Nat → Nat) : Nat → List Nat
  | 0 => []
  | t + 1 => tT K t ++ [chK (K t)]
def tS (hv ed : Nat) (b : List Nat) : Nat → List Nat
  | 0 => b
  | s + 1 => (tS hv ed b s ++ (if ed.testBit s = true then [45] else [])) ++ [if hv.testBit s = true then 79 else 111]
def nmT (v : Nat) : List Nat := (if 10 ≤ v then [48 + v / 10] else []) ++ [48 + v % 10]
def lnP (t s : Nat) (x : Nat × List Nat) : Nat × List Nat := (0, ((x.2 ++ (if x.1 = 1 then [] else [32])) ++ nmT t ++ [58]) ++ nmT s)
def lnR (t m : Nat) : Nat → Nat × List Nat → Nat × List Nat
  | 0, x => x
  | s + 1, x => if m.testBit s = true then lnP t s (lnR t m s x) else lnR t m s x
def lnA (L : Nat → Nat) : Nat → Nat × List Nat → Nat × List Nat
  | 0, x => x
  | t + 1, x => lnR t (L t) 12 (lnA L t x)
def txB (q hv ed : Nat) (o : Wo) : List Nat := tS hv ed (tT o.2.1 o.1 ++ [47]) q ++ [47]
def txF (q hv ed : Nat) (o : Wo) : List Nat := (lnA o.2.2 o.1 (1, txB q hv ed o)).2
theorem tT_2 {K : Nat → Nat} {t : Nat} (h : K t = 2) : tT K t ++ [104] = tT K (t + 1) := by rw [tT]; unfold chK; rw [if_pos h]
theorem tT_0 {K : Nat → Nat} {t : Nat} (h : K t = 0) : tT K t ++ [108] = tT K (t + 1) := by rw [tT]; unfold chK; rw [if_neg (by omega), if_pos h]
theorem tT_1 {K : Nat → Nat} {t : Nat} (h : K t ≠ 2) (h1 : K t ≠ 0) : tT K t ++ [109] = tT K (t + 1) := by rw [tT]; unfold chK; rw [if_neg h, if_neg h1]
theorem tT_len {K : Nat → Nat} : ∀ t, (tT K t).length = t
  | 0 => rfl
  | t + 1 => by rw [tT, List.length_append, tT_len t]; rfl
theorem tS_len {hv ed : Nat} {b : List Nat} : ∀ s, (tS hv ed b s).length ≤ b.length + 2 * s
  | 0 => Nat.le_refl _
  | s + 1 => by
    have h := tS_len (hv := hv) (ed := ed) (b := b) s
    rw [tS, List.length_append, List.length_append]
    by_cases h1 : ed.testBit s = true
    · rw [if_pos h1]; show (tS hv ed b s).length + 1 + 1 ≤ _; omega
    · rw [if_neg h1]; show (tS hv ed b s).length + 0 + 1 ≤ _; omega
theorem nm_len {v : Nat} : (nmT v).length ≤ 2 ∧ 1 ≤ (nmT v).length := by
  unfold nmT
  by_cases h : 10 ≤ v
  · rw [if_pos h]; exact ⟨Nat.le_refl 2, by show 1 ≤ 2; decide⟩
  · rw [if_neg h]; exact ⟨by show 1 ≤ 2; decide, Nat.le_refl 1⟩
theorem lnP_len {t s : Nat} {x : Nat × List Nat} : (lnP t s x).2.length ≤ x.2.length + 6 := by
  have h1 := nm_len (v := t)
  have h2 := nm_len (v := s)
  unfold lnP
  show (((x.2 ++ (if x.1 = 1 then [] else [32])) ++ nmT t ++ [58]) ++ nmT s).length ≤ x.2.length + 6
  rw [List.length_append, List.length_append, List.length_append, List.length_append]
  have h3 : (if x.1 = 1 then ([] : List Nat) else [32]).length ≤ 1 := by
    by_cases h : x.1 = 1
    · rw [if_pos h]; exact Nat.zero_le 1
    · rw [if_neg h]; exact Nat.le_refl 1
  have h4 : ([58] : List Nat).length = 1 := rfl
  omega
theorem lnR_len {t m : Nat} {x : Nat × List Nat} : ∀ s, (lnR t m s x).2.length ≤ x.2.length + 6 * cb m s
  | 0 => Nat.le_add_right _ _
  | s + 1 => by
    have h := lnR_len (t := t) (m := m) (x := x) s
    by_cases h1 : m.testBit s = true
    · rw [lnR, if_pos h1, cb_y h1]
      have h2 := lnP_len (t := t) (s := s) (x := lnR t m s x)
      omega
    · rw [lnR, if_neg h1, cb_n h1]; exact h
theorem lnA_len {L : Nat → Nat} {x : Nat × List Nat} : ∀ t, (lnA L t x).2.length ≤ x.2.length + 6 * lcF L t
  | 0 => Nat.le_add_right _ _
  | t + 1 => by
    have h := lnA_len (L := L) (x := x) t
    have h1 := lnR_len (t := t) (m := L t) (x := lnA L t x) 12
    rw [cb_pop] at h1
    have e : lcF L (t + 1) = lcF L t + pop (L t) := rfl
    rw [lnA, e]
    omega
theorem txB_len {q hv ed : Nat} {o : Wo} (h : okW q o) : (txB q hv ed o).length ≤ 38 := by
  unfold txB
  have h1 := tS_len (hv := hv) (ed := ed) (b := tT o.2.1 o.1 ++ [47]) q
  have h2 : (tT o.2.1 o.1 ++ [47]).length = o.1 + 1 := by rw [List.length_append, tT_len]; rfl
  rw [List.length_append]
  have h3 : ([47] : List Nat).length = 1 := rfl
  have h4 := h.1
  have h5 := h.2.1
  omega
theorem lcq_23 {q : Nat} {o : Wo} (k1 : okW q o) (n1 : ncW o) {t : Nat} (ht : t ≤ o.1) : lcF o.2.2 t ≤ 23 := by
  have h1 := lc_nc n1 (fun k hk => k1.lt hk) t ht
  have hn := k1.1
  rcases h1 with h1 | ⟨M, hM, hc, _⟩
  · omega
  · omega
/-- the text of the first tones' lines -/
theorem tx_b {q hv ed t : Nat} {o : Wo} (k1 : okW q o) (n1 : ncW o) (ht : t ≤ o.1) : (lnA o.2.2 t (1, txB q hv ed o)).2.length ≤ 38 + 6 * lcF o.2.2 t ∧ lcF o.2.2 t ≤ 23 := by
  have h1 := lnA_len (L := o.2.2) (x := (1, txB q hv ed o)) t
  have h2 := txB_len (hv := hv) (ed := ed) k1
  have h1 : (lnA o.2.2 t (1, txB q hv ed o)).2.length ≤ (txB q hv ed o).length + 6 * lcF o.2.2 t := h1
  exact ⟨by omega, lcq_23 k1 n1 ht⟩
theorem lnR_no {t m : Nat} {x : Nat × List Nat} : ∀ k, (∀ i, i < k → ¬ m.testBit i = true) → lnR t m k x = x
  | 0, _ => rfl
  | k + 1, h => by rw [lnR, if_neg (h k (Nat.lt_succ_self k))]; exact lnR_no k (fun i hi => h i (by omega))
theorem lnR_low {t m m2 l : Nat} {x : Nat × List Nat} (hb : m.testBit l = true) (hl : ∀ i, i < l → ¬ m.testBit i = true) (h2 : ∀ i, m2.testBit i = true ↔ m.testBit i = true ∧ i ≠ l) : ∀ k, l < k → lnR t m k x = lnR t m2 k (lnP t l x)
  | 0, h => absurd h (Nat.not_lt_zero l)
  | k + 1, h => by
    by_cases h1 : k = l
    · subst h1
      rw [lnR, if_pos hb, lnR_no k hl, lnR, if_neg (fun q => ((h2 k).mp q).2 rfl), lnR_no k (fun i hi q => hl i hi ((h2 i).mp q).1)]
    · have ih := lnR_low (t := t) (x := x) hb hl h2 k (by omega)
      by_cases h3 : m.testBit k = true
      · rw [lnR, if_pos h3, lnR, if_pos ((h2 k).mpr ⟨h3, h1⟩), ih]
      · rw [lnR, if_neg h3, lnR, if_neg (fun q => h3 ((h2 k).mp q).1), ih]
theorem low_and : ∀ m, m < 4096 → m ≠ 0 → m &&& (m - 1) = andn m (2 ^ low m) := low_and_f
theorem lnR_step {t m : Nat} {x : Nat × List Nat} (hm : m < 4096) (h0 : m ≠ 0) : lnR t m 12 x = lnR t (m &&& (m - 1)) 12 (lnP t (low m) x) := by
  have h1 := low_t m hm h0
  refine lnR_low h1.1 (fun i hi q => ?_) (fun i => ?_) 12 h1.2
  · have := low_l m hm i (by omega) q
    omega
  · rw [low_and m hm h0, andn_bit]
    by_cases h2 : i = low m
    · rw [h2, Nat.testBit_two_pow_self]; simp
    · rw [Nat.testBit_two_pow_of_ne (fun q => h2 q.symm)]; simp [h2]
theorem lnR_q {t m q : Nat} {x : Nat × List Nat} (hm : m < 2 ^ q) : ∀ d, lnR t m (q + d) x = lnR t m q x
  | 0 => rfl
  | d + 1 => by
    show lnR t m ((q + d) + 1) x = lnR t m q x
    rw [lnR, if_neg (fun h => by have := bit_lt hm h; omega)]
    exact lnR_q hm d
theorem lnR_12 {t m q : Nat} {x : Nat × List Nat} (hm : m < 2 ^ q) (hq : q ≤ 12) : lnR t m q x = lnR t m 12 x := by
  have h := lnR_q (t := t) (x := x) hm (12 - q)
  rw [show q + (12 - q) = 12 by omega] at h
  exact h.symm
theorem cb_le {m : Nat} : ∀ (d s : Nat), cb m s ≤ cb m (s + d)
  | 0, _ => Nat.le_refl _
  | d + 1, s => by
    have h := cb_le (m := m) d s
    by_cases h1 : m.testBit (s + d) = true
    · rw [show s + (d + 1) = (s + d) + 1 from rfl, cb_y h1]; omega
    · rw [show s + (d + 1) = (s + d) + 1 from rfl, cb_n h1]; exact h
theorem cb_p {m s : Nat} (h : s ≤ 12) : cb m s ≤ pop m := by
  have h1 := cb_le (m := m) (12 - s) s
  rw [show s + (12 - s) = 12 by omega, cb_pop] at h1
  exact h1
-- the class's text; the reference's
def isTx (M : Mem) (tx : List Nat) : Prop := M.1 141 1 = zI ((tx.length : Nat) : Int) ∧ ∀ i, i < tx.length → M.1 142 i = zI ((tx.getD i 0 : Nat) : Int)
def isTy (M : Mem) (tx : List Nat) : Prop := M.1 146 22 = zI ((tx.length : Nat) : Int) ∧ ∀ i, i < tx.length → M.1 156 i = zI ((tx.getD i 0 : Nat) : Int)
theorem gd_l {tx : List Nat} {c i : Nat} (h : i < tx.length) : (tx ++ [c]).getD i 0 = tx.getD i 0 := by
  rw [List.getD_eq_getElem?_getD, List.getElem?_append_left h, ← List.getD_eq_getElem?_getD]
theorem gd_r {tx : List Nat} {c : Nat} : (tx ++ [c]).getD tx.length 0 = c := by
  rw [List.getD_eq_getElem?_getD, List.getElem?_append_right (Nat.le_refl _), Nat.sub_self]
  rfl
theorem isTx.put {M : Mem} {tx : List Nat} {c : Nat} (h : isTx M tx) : isTx (st (st M 142 tx.length (zI (c : Int))) 141 1 (zI ((tx.length + 1 : Nat) : Int))) (tx ++ [c]) := by
  have hl : (tx ++ [c]).length = tx.length + 1 := by rw [List.length_append]; rfl
  refine ⟨by rw [hl]; exact st_at, fun i hi => ?_⟩
  rw [hl] at hi
  rw [st_ob (by decide)]
  by_cases h1 : i = tx.length
  · rw [h1, gd_r]; exact st_at
  · rw [st_ne (Or.inr h1), gd_l (by omega)]; exact h.2 i (by omega)
theorem isTy.put {M : Mem} {tx : List Nat} {c : Nat} (h : isTy M tx) : isTy (st (st M 156 tx.length (zI (c : Int))) 146 22 (zI ((tx.length + 1 : Nat) : Int))) (tx ++ [c]) := by
  have hl : (tx ++ [c]).length = tx.length + 1 := by rw [List.length_append]; rfl
  refine ⟨by rw [hl]; exact st_at, fun i hi => ?_⟩
  rw [hl] at hi
  rw [st_ob (by decide)]
  by_cases h1 : i = tx.length
  · rw [h1, gd_r]; exact st_at
  · rw [st_ne (Or.inr h1), gd_l (by omega)]; exact h.2 i (by omega)
theorem len1 {tx : List Nat} {c : Nat} : (tx ++ [c]).length = tx.length + 1 := by rw [List.length_append]; rfl
def FrX9 (M1 M : Mem) : Prop := ∀ b, b ≠ 141 → b ≠ 142 → M1.1 b = M.1 b
theorem FrX9.rf {M : Mem} : FrX9 M M := fun _ _ _ => rfl
theorem FrX9.tr {M M1 M2 : Mem} (h1 : FrX9 M1 M) (h2 : FrX9 M2 M1) : FrX9 M2 M := fun b x y => (h2 b x y).trans (h1 b x y)
theorem FrX9.p {M : Mem} {j : Nat} {x y : Int32} : FrX9 (st (st M 142 j x) 141 1 y) M := fun b h1 h2 => by rw [st_ob h1, st_ob h2]
theorem kd9_no {a : Nat} (hk : kd a = (9, 0, 0)) : a ≠ 141 ∧ a ≠ 142 ∧ a + 1 ≠ 141 ∧ a + 1 ≠ 142 ∧ a + 2 ≠ 141 ∧ a + 2 ≠ 142 := by
  have := w_ap hk
  omega
theorem CW.tx {M M1 : Mem} {a q hv ed : Nat} {o : Wo} (h : CW M a q hv ed o) (hk : kd a = (9, 0, 0)) (hf : FrX9 M1 M) : CW M1 a q hv ed o := by
  have h9 := kd9_no hk
  exact h.fr (hf _ (by omega) (by omega)) (hf _ (by omega) (by omega)) (hf _ (by omega) (by omega))
def FrZ (M1 M : Mem) : Prop := (∀ b, b ≠ 146 → b ≠ 156 → M1.1 b = M.1 b) ∧ ∀ k, k ≠ 22 → M1.1 146 k = M.1 146 k
theorem FrZ.rf {M : Mem} : FrZ M M := ⟨fun _ _ _ => rfl, fun _ _ => rfl⟩
theorem FrZ.tr {M M1 M2 : Mem} (h1 : FrZ M1 M) (h2 : FrZ M2 M1) : FrZ M2 M := ⟨fun b x y => (h2.1 b x y).trans (h1.1 b x y), fun k x => (h2.2 k x).trans (h1.2 k x)⟩
theorem FrZ.p {M : Mem} {j : Nat} {x y : Int32} : FrZ (st (st M 156 j x) 146 22 y) M := ⟨fun b h1 h2 => by rw [st_ob h1, st_ob h2], fun k hk => by rw [st_ne (Or.inr hk), st_ob (by decide)]⟩
theorem RW.tz {M M1 : Mem} {q hv ed : Nat} {o : Wo} {z : Int} (h : RW M q hv ed o z) (hf : FrZ M1 M) : RW M1 q hv ed o z := by
  have e := hf.1 148 (by decide) (by decide)
  exact ⟨by unfold isR; rw [e]; exact h.1, h.2.1, h.2.2.1, h.2.2.2.1, (hf.2 3 (by decide)).trans h.2.2.2.2⟩
theorem nmT_lt {v : Nat} (h : ¬ 10 ≤ v) : nmT v = [48 + v % 10] := by unfold nmT; rw [if_neg h]; rfl
theorem nmT_ge {v : Nat} (h : 10 ≤ v) : nmT v = [48 + v / 10] ++ [48 + v % 10] := by unfold nmT; rw [if_pos h]
/-- what is told of a word's text -/
def spA (i : Int) (x : Fw) : Int := if i = -1 then (((txF x.1 x.2.1 x.2.2.1 x.2.2.2).length : Nat) : Int) else if 0 ≤ i ∧ i < (((txF x.1 x.2.1 x.2.2.1 x.2.2.2).length : Nat) : Int) then (((txF x.1 x.2.1 x.2.2.1 x.2.2.2).getD i.toNat 0 : Nat) : Int) else -1
theorem tS_l {q hv ed hv2 ed2 : Nat} {b : List Nat} (h1 : lkB q hv hv2) (h2 : lkB q ed ed2) : ∀ s, s ≤ q → tS hv ed b s = tS hv2 ed2 b s
  | 0, _ => rfl
  | s + 1, hs => by rw [tS, tS, tS_l h1 h2 s (by omega), h1 s (by omega), h2 s (by omega)]
theorem spA_l {i : Int} : ∀ a b, alF a b → spA i a = spA i b := fun a b h => by
  obtain ⟨q, hv, ed, hv2, ed2, o, rfl, rfl, h1, h2⟩ := h.i
  have e : txF q hv ed o = txF q hv2 ed2 o := by
    unfold txF txB
    rw [tS_l h1 h2 q (Nat.le_refl q)]
  unfold spA
  show (if i = -1 then (((txF q hv ed o).length : Nat) : Int) else if 0 ≤ i ∧ i < (((txF q hv ed o).length : Nat) : Int) then (((txF q hv ed o).getD i.toNat 0 : Nat) : Int) else -1) = (if i = -1 then (((txF q hv2 ed2 o).length : Nat) : Int) else if 0 ≤ i ∧ i < (((txF q hv2 ed2 o).length : Nat) : Int) then (((txF q hv2 ed2 o).getD i.toNat 0 : Nat) : Int) else -1)
  rw [e]
theorem rem_zI {x y : Int} (hx : 0 ≤ x ∧ x ≤ 2147483647) (hy : 0 < y ∧ y ≤ 2147483647) : zI x - zI x / zI y * zI y = zI (x % y) := by
  rw [div_zI hx hy, zI_mul, zI_sub, Int.emod_def x y, Int.mul_comm y]
theorem lnR_1 {t m : Nat} {x : Nat × List Nat} (h : x.1 ≤ 1) : ∀ s, (lnR t m s x).1 ≤ 1
  | 0 => h
  | s + 1 => by
    by_cases h1 : m.testBit s = true
    · rw [lnR, if_pos h1]; exact Nat.zero_le 1
    · rw [lnR, if_neg h1]; exact lnR_1 h s
theorem lnA_1 {L : Nat → Nat} {b : List Nat} : ∀ t, (lnA L t (1, b)).1 ≤ 1
  | 0 => Nat.le_refl 1
  | t + 1 => lnR_1 (lnA_1 t) 12
theorem isTx_0 {M : Mem} : isTx (st M 141 1 (zI 0)) [] := ⟨st_at, fun i hi => absurd hi (Nat.not_lt_zero i)⟩
theorem isTy_0 {M : Mem} : isTy (st M 146 22 (zI 0)) [] := ⟨st_at, fun i hi => absurd hi (Nat.not_lt_zero i)⟩
theorem FrX9.z {M : Mem} {y : Int32} : FrX9 (st M 141 1 y) M := fun b h1 h2 => st_ob h1
theorem FrZ.z {M : Mem} {y : Int32} : FrZ (st M 146 22 y) M := ⟨fun b h1 h2 => st_ob h1, fun k hk => st_ne (Or.inr hk)⟩
theorem tS_n {hv ed s : Nat} {b : List Nat} (h : ¬ ed.testBit s = true) : tS hv ed b (s + 1) = tS hv ed b s ++ [if hv.testBit s = true then 79 else 111] := by rw [tS, if_neg h, List.append_nil]
theorem tS_y {hv ed s : Nat} {b : List Nat} (h : ed.testBit s = true) : tS hv ed b (s + 1) = (tS hv ed b s ++ [45]) ++ [if hv.testBit s = true then 79 else 111] := by rw [tS, if_pos h]
theorem tx_len {q hv ed : Nat} {o : Wo} (k1 : okW q o) (n1 : ncW o) : (txF q hv ed o).length ≤ 176 := by
  have h := tx_b (hv := hv) (ed := ed) k1 n1 (Nat.le_refl o.1)
  unfold txF
  omega
section Sp
variable {i : Int} {q hv ed : Nat} {o : Wo}
theorem spA_m (h : i = -1) : spA i (q, hv, ed, o) = (((txF q hv ed o).length : Nat) : Int) := by unfold spA; rw [if_pos h]
theorem spA_y {ii : Nat} (h : ii < (txF q hv ed o).length) : spA (ii : Int) (q, hv, ed, o) = (((txF q hv ed o).getD ii 0 : Nat) : Int) := by
  unfold spA
  rw [if_neg (by omega), if_pos (by show 0 ≤ (ii : Int) ∧ (ii : Int) < (((txF q hv ed o).length : Nat) : Int); omega), Int.toNat_natCast]
theorem spA_n (h : i ≠ -1) (h1 : ¬ (0 ≤ i ∧ i < (((txF q hv ed o).length : Nat) : Int))) : spA i (q, hv, ed, o) = -1 := by unfold spA; rw [if_neg h, if_neg h1]
end Sp
theorem wdX7_put_0 : decode cX7_put 0 = .ok (.aload_n 0, 1) := dX7_put_0
theorem wdX7_put_1 : decode cX7_put 1 = .ok (.getfield 15, 3) := dX7_put_1
theorem wtb_386 : Cond.fieldLink "ToneLines$Speller" 15 "ToneLines$Speller" "size" "I" ∈ TB := tb_253
theorem wdX7_put_4 : decode cX7_put 4 = .ok (.sipush 256, 3) := dX7_put_4
theorem wdX7_put_7 : decode cX7_put 7 = .ok (.if_icmp .ge 23, 3) := dX7_put_7
theorem wdX7_put_10 : decode cX7_put 10 = .ok (.aload_n 0, 1) := dX7_put_10
theorem wdX7_put_11 : decode cX7_put 11 = .ok (.getfield 9, 3) := dX7_put_11
theorem wtb_387 : Cond.fieldLink "ToneLines$Speller" 9 "ToneLines$Speller" "signs" "[C" ∈ TB := tb_254
theorem wdX7_put_14 : decode cX7_put 14 = .ok (.aload_n 0, 1) := dX7_put_14
theorem wdX7_put_15 : decode cX7_put 15 = .ok (.getfield 15, 3) := dX7_put_15
theorem wdX7_put_18 : decode cX7_put 18 = .ok (.iload_n 1, 1) := dX7_put_18
theorem wdX7_put_19 : decode cX7_put 19 = .ok (.castore, 1) := dX7_put_19
theorem wdX7_put_20 : decode cX7_put 20 = .ok (.aload_n 0, 1) := dX7_put_20
theorem wdX7_put_21 : decode cX7_put 21 = .ok (.dup, 1) := dX7_put_21
theorem wdX7_put_22 : decode cX7_put 22 = .ok (.getfield 15, 3) := dX7_put_22
theorem wdX7_put_25 : decode cX7_put 25 = .ok (.iconst 1, 1) := dX7_put_25
theorem wdX7_put_26 : decode cX7_put 26 = .ok (.iadd, 1) := dX7_put_26
theorem wdX7_put_27 : decode cX7_put 27 = .ok (.putfield 15, 3) := dX7_put_27
theorem wdX7_put_30 : decode cX7_put 30 = .ok (.return_, 1) := dX7_put_30
set_option maxRecDepth 4000 in
theorem h_put {l : Launch} {D : va_G} {B : Nat} {cy : Nat → ClassId} {M : Mem} {tx : List Nat} (hT : isTx M tx) (hl9 : tx.length < 256) {c9 : Nat} (hc9 : c9 < 128) : Cv l D B cy yX7_put cX7_put 2 0 0 [.ref (B + 141), .int (zI (c9 : Int))] M (fun M1 => isTx M1 (tx ++ [c9]) ∧ FrX9 M1 M) := by
  refine s_any (by decide) (Nat.le_of_ble_eq_true rfl) ?_
  intro p e s m below meth c ls F hr hlocks w hl
  have F : CallFix p m c cX7_put 2 s _ TB RX7 := F
  have hx := F.1
  have hb := F.2.1
  have hl : lv_has ls 2 [(0, .ref (B + 141)), (1, .int (zI (c9 : Int)))] := hl
  refine lv_aload_n hx hb wdX7_put_0 rfl (lv_at hl 0 rfl) ?_
  refine f_7_1 F w (a := 141) rfl wtb_386 wdX7_put_1 ?_
  refine r_val (v := (zI ((tx.length : Nat) : Int))) (hT.1) ?_
  refine lv_sipush (v := zI 256) hx hb wdX7_put_4 (by decide) ?_
  refine z_icmp_ge (tgt := 30) hx hb (by omega) (by omega) wdX7_put_7 (by decide) (fun c1 => False.elim (by omega)) (fun c1 => ?_)
  refine lv_aload_n hx hb wdX7_put_10 rfl (lv_at hl 0 rfl) ?_
  refine f_7_0 F w (a := 141) rfl wtb_387 wdX7_put_11 ?_
  refine lv_aload_n hx hb wdX7_put_14 rfl (lv_at hl 0 rfl) ?_
  refine f_7_1 F w (a := 141) rfl wtb_386 wdX7_put_15 ?_
  refine r_val (v := (zI ((tx.length : Nat) : Int))) (hT.1) ?_
  refine lv_iload_n hx hb wdX7_put_18 rfl (lv_at hl 1 rfl) ?_
  refine g_cast F w (a := 142) rfl (j := tx.length) (ix_n (by omega)) (by omega) wdX7_put_19 (fun H locs w => ?_)
  rw [nar_c (z := (c9 : Int)) (by omega)] at w
  refine lv_aload_n hx hb wdX7_put_20 rfl (lv_at hl 0 rfl) ?_
  refine lv_dup hx hb wdX7_put_21 rfl ?_
  refine f_7_1 F w (a := 141) rfl wtb_386 wdX7_put_22 ?_
  refine r_val (v := (zI ((tx.length : Nat) : Int))) ((st_ne (Or.inl (by omega))).trans (hT.1)) ?_
  refine lv_iconst (v := zI 1) hx hb wdX7_put_25 rfl ?_
  refine z_iadd (z := (((tx.length + 1) : Nat) : Int)) hx hb wdX7_put_26 (by omega) ?_
  refine u_7_1 F w (a := 141) rfl wtb_386 wdX7_put_27 (fun H locs w => ?_)
  exact e_v F w hr hlocks ⟨hT.put, FrX9.p⟩ wdX7_put_30
theorem wdX7_putNumber_0 : decode cX7_putNumber 0 = .ok (.iload_n 1, 1) := dX7_putNumber_0
theorem wdX7_putNumber_1 : decode cX7_putNumber 1 = .ok (.bipush 10, 2) := dX7_putNumber_1
theorem wdX7_putNumber_3 : decode cX7_putNumber 3 = .ok (.if_icmp .lt 15, 3) := dX7_putNumber_3
theorem wdX7_putNumber_18 : decode cX7_putNumber 18 = .ok (.aload_n 0, 1) := dX7_putNumber_18
theorem wdX7_putNumber_19 : decode cX7_putNumber 19 = .ok (.bipush 48, 2) := dX7_putNumber_19
theorem wdX7_putNumber_21 : decode cX7_putNumber 21 = .ok (.iload_n 1, 1) := dX7_putNumber_21
theorem wdX7_putNumber_22 : decode cX7_putNumber 22 = .ok (.bipush 10, 2) := dX7_putNumber_22
theorem wdX7_putNumber_24 : decode cX7_putNumber 24 = .ok (.irem, 1) := dX7_putNumber_24
theorem wdX7_putNumber_25 : decode cX7_putNumber 25 = .ok (.iadd, 1) := dX7_putNumber_25
theorem wdX7_putNumber_26 : decode cX7_putNumber 26 = .ok (.i2c, 1) := dX7_putNumber_26
theorem wdX7_putNumber_27 : decode cX7_putNumber 27 = .ok (.invokevirtual 28, 3) := dX7_putNumber_27
theorem wtk_X7_put : Cond.code yX7_put cX7_put 2 none ∈ TB := tk_X7_put
theorem wgc_X7_put : GoodIn TB (cw yX7_put cX7_put 2 none) := goodIn_c2 wtk_X7_put
theorem wtb_388 : Cond.methodLink "ToneLines$Speller" 28 yX7_put ∈ TB := tb_255
theorem wtb_389 : Cond.instanceMethod yX7_put ∈ TB := tb_256
theorem wtb_390 : Cond.selects "ToneLines$Speller" yX7_put yX7_put ∈ TB := tb_257
theorem wtb_391 : Cond.initialized "ToneLines$Speller" ∈ TB := tb_258
theorem wgv_X7_28 : GoodIn TB (wsV RX7 28 RX7 yX7_put (cw yX7_put cX7_put 2 none)) := goodIn_4 wtb_388 wtb_389 wtb_390 wtb_391 wgc_X7_put
theorem whv_X7_put : yX7_put.cls = RX7 ∧ yX7_put.cls ≠ "java/lang/invoke/MethodHandle" ∧ yX7_put.cls ≠ "java/lang/invoke/VarHandle" ∧ (parseMethodDescriptor yX7_put.desc).map (fun d => d.parameters.length) = some 1 := hv_X7_put
theorem wdX7_putNumber_30 : decode cX7_putNumber 30 = .ok (.return_, 1) := dX7_putNumber_30
theorem wdX7_putNumber_6 : decode cX7_putNumber 6 = .ok (.aload_n 0, 1) := dX7_putNumber_6
theorem wdX7_putNumber_7 : decode cX7_putNumber 7 = .ok (.bipush 48, 2) := dX7_putNumber_7
theorem wdX7_putNumber_9 : decode cX7_putNumber 9 = .ok (.iload_n 1, 1) := dX7_putNumber_9
theorem wdX7_putNumber_10 : decode cX7_putNumber 10 = .ok (.bipush 10, 2) := dX7_putNumber_10
theorem wdX7_putNumber_12 : decode cX7_putNumber 12 = .ok (.idiv, 1) := dX7_putNumber_12
theorem wdX7_putNumber_13 : decode cX7_putNumber 13 = .ok (.iadd, 1) := dX7_putNumber_13
theorem wdX7_putNumber_14 : decode cX7_putNumber 14 = .ok (.i2c, 1) := dX7_putNumber_14
theorem wdX7_putNumber_15 : decode cX7_putNumber 15 = .ok (.invokevirtual 28, 3) := dX7_putNumber_15
set_option maxRecDepth 4000 in
theorem h_putNumber {l : Launch} {D : va_G} {B : Nat} {cy : Nat → ClassId} {M : Mem} {tx : List Nat} (hT : isTx M tx) (hl9 : tx.length + 2 ≤ 256) {v9 : Nat} (hv9 : v9 < 12) : Cv l D B cy yX7_putNumber cX7_putNumber 2 1 21 [.ref (B + 141), .int (zI (v9 : Int))] M (fun M1 => isTx M1 (tx ++ nmT v9) ∧ FrX9 M1 M) := by
  refine s_any (by decide) (Nat.le_of_ble_eq_true rfl) ?_
  intro p e s m below meth c ls F hr hlocks w hl
  have F : CallFix p m c cX7_putNumber 2 s _ TB RX7 := F
  have hx := F.1
  have hb := F.2.1
  have hl : lv_has ls 2 [(0, .ref (B + 141)), (1, .int (zI (v9 : Int)))] := hl
  refine lv_iload_n hx hb wdX7_putNumber_0 rfl (lv_at hl 1 rfl) ?_
  refine lv_bipush (v := zI 10) hx hb wdX7_putNumber_1 (by decide) ?_
  refine z_icmp_lt (tgt := 18) hx hb (by omega) (by omega) wdX7_putNumber_3 (by decide) (fun c1 => ?_) (fun c1 => ?_)
  · refine lv_aload_n hx hb wdX7_putNumber_18 rfl (lv_at hl 0 rfl) ?_
    refine lv_bipush (v := zI 48) hx hb wdX7_putNumber_19 (by decide) ?_
    refine lv_iload_n hx hb wdX7_putNumber_21 rfl (lv_at hl 1 rfl) ?_
    refine lv_bipush (v := zI 10) hx hb wdX7_putNumber_22 (by decide) ?_
    refine lv_irem hx hb wdX7_putNumber_24 (nz_z (by omega) (by omega)) ?_
    refine r_val (v := zI (((v9 % 10) : Nat) : Int)) (rem_zI (by omega) (by omega)) ?_
    refine z_iadd (z := (((48 + (v9 % 10)) : Nat) : Int)) hx hb wdX7_putNumber_25 (by omega) ?_
    refine lv_i2c (v := (zI (((48 + (v9 % 10)) : Nat) : Int))) hx hb wdX7_putNumber_26 (i2c_z (by omega)) ?_
    refine k_Vv F w (As := [.int (zI (((48 + (v9 % 10)) : Nat) : Int))]) (rest := []) (a := 141) (kd_lt (a := 141) (show kd 141 = (7, 0, 0) from rfl) (by decide)) (sh_7 rfl _ _) rfl (h_put (tx := tx) hT (by omega) (c9 := (48 + (v9 % 10))) (by omega)) wgv_X7_28 whv_X7_put ⟨(Nat.le_of_ble_eq_true rfl), (Nat.le_of_ble_eq_true rfl)⟩ hl.1 rfl (Nat.le_of_ble_eq_true rfl) ⟨Nat.zero_le _, Nat.zero_le _⟩ wdX7_putNumber_27 (fun Ma2 H locs hp w => ?_)
    rcases hp with ⟨hT1, hF1⟩
    have hL1 : (tx ++ [(48 + (v9 % 10))]).length = (tx).length + 1 := len1
    have hG1 : FrX9 Ma2 M := hF1
    exact e_v F w hr hlocks ⟨by rw [nmT_lt (by omega)]; exact hT1, hG1⟩ wdX7_putNumber_30
  · refine lv_aload_n hx hb wdX7_putNumber_6 rfl (lv_at hl 0 rfl) ?_
    refine lv_bipush (v := zI 48) hx hb wdX7_putNumber_7 (by decide) ?_
    refine lv_iload_n hx hb wdX7_putNumber_9 rfl (lv_at hl 1 rfl) ?_
    refine lv_bipush (v := zI 10) hx hb wdX7_putNumber_10 (by decide) ?_
    refine lv_idiv hx hb wdX7_putNumber_12 (nz_z (by omega) (by omega)) ?_
    refine r_val (v := zI (((v9 / 10) : Nat) : Int)) (div_zI (by omega) (by omega)) ?_
    refine z_iadd (z := (((48 + (v9 / 10)) : Nat) : Int)) hx hb wdX7_putNumber_13 (by omega) ?_
    refine lv_i2c (v := (zI (((48 + (v9 / 10)) : Nat) : Int))) hx hb wdX7_putNumber_14 (i2c_z (by omega)) ?_
    refine k_Vv F w (As := [.int (zI (((48 + (v9 / 10)) : Nat) : Int))]) (rest := []) (a := 141) (kd_lt (a := 141) (show kd 141 = (7, 0, 0) from rfl) (by decide)) (sh_7 rfl _ _) rfl (h_put (tx := tx) hT (by omega) (c9 := (48 + (v9 / 10))) (by omega)) wgv_X7_28 whv_X7_put ⟨(Nat.le_of_ble_eq_true rfl), (Nat.le_of_ble_eq_true rfl)⟩ hl.1 rfl (Nat.le_of_ble_eq_true rfl) ⟨Nat.zero_le _, Nat.zero_le _⟩ wdX7_putNumber_15 (fun Ma3 H locs hp w => ?_)
    rcases hp with ⟨hT1, hF1⟩
    have hL1 : (tx ++ [(48 + (v9 / 10))]).length = (tx).length + 1 := len1
    have hG1 : FrX9 Ma3 M := hF1
    refine lv_aload_n hx hb wdX7_putNumber_18 rfl (lv_at hl 0 rfl) ?_
    refine lv_bipush (v := zI 48) hx hb wdX7_putNumber_19 (by decide) ?_
    refine lv_iload_n hx hb wdX7_putNumber_21 rfl (lv_at hl 1 rfl) ?_
    refine lv_bipush (v := zI 10) hx hb wdX7_putNumber_22 (by decide) ?_
    refine lv_irem hx hb wdX7_putNumber_24 (nz_z (by omega) (by omega)) ?_
    refine r_val (v := zI (((v9 % 10) : Nat) : Int)) (rem_zI (by omega) (by omega)) ?_
    refine z_iadd (z := (((48 + (v9 % 10)) : Nat) : Int)) hx hb wdX7_putNumber_25 (by omega) ?_
    refine lv_i2c (v := (zI (((48 + (v9 % 10)) : Nat) : Int))) hx hb wdX7_putNumber_26 (i2c_z (by omega)) ?_
    refine k_Vv F w (As := [.int (zI (((48 + (v9 % 10)) : Nat) : Int))]) (rest := []) (a := 141) (kd_lt (a := 141) (show kd 141 = (7, 0, 0) from rfl) (by decide)) (sh_7 rfl _ _) rfl (h_put (tx := (tx ++ [(48 + (v9 / 10))])) hT1 (by omega) (c9 := (48 + (v9 % 10))) (by omega)) wgv_X7_28 whv_X7_put ⟨(Nat.le_of_ble_eq_true rfl), (Nat.le_of_ble_eq_true rfl)⟩ hl.1 rfl (Nat.le_of_ble_eq_true rfl) ⟨Nat.zero_le _, Nat.zero_le _⟩ wdX7_putNumber_27 (fun Ma4 H locs hp w => ?_)
    rcases hp with ⟨hT2, hF2⟩
    have hL2 : ((tx ++ [(48 + (v9 / 10))]) ++ [(48 + (v9 % 10))]).length = ((tx ++ [(48 + (v9 / 10))])).length + 1 := len1
    have hG2 : FrX9 Ma4 M := FrX9.tr hG1 hF2
    exact e_v F w hr hlocks ⟨by rw [nmT_ge (by omega), ← List.append_assoc]; exact hT2, hG2⟩ wdX7_putNumber_30
theorem wdX7_writeLines_19 : decode cX7_writeLines 19 = .ok (.iload 4, 2) := dX7_writeLines_19
theorem wdX7_writeLines_21 : decode cX7_writeLines 21 = .ok (.ifCond .eq 47, 3) := dX7_writeLines_21
theorem wdX7_writeLines_24 : decode cX7_writeLines 24 = .ok (.iload_n 2, 1) := dX7_writeLines_24
theorem wdX7_writeLines_25 : decode cX7_writeLines 25 = .ok (.ifCond .ne 9, 3) := dX7_writeLines_25
theorem wdX7_writeLines_34 : decode cX7_writeLines 34 = .ok (.iconst 0, 1) := dX7_writeLines_34
theorem wdX7_writeLines_35 : decode cX7_writeLines 35 = .ok (.istore_n 2, 1) := dX7_writeLines_35
theorem wdX7_writeLines_36 : decode cX7_writeLines 36 = .ok (.aload_n 0, 1) := dX7_writeLines_36
theorem wdX7_writeLines_37 : decode cX7_writeLines 37 = .ok (.iload_n 3, 1) := dX7_writeLines_37
theorem wdX7_writeLines_38 : decode cX7_writeLines 38 = .ok (.invokevirtual 49, 3) := dX7_writeLines_38
theorem wtk_X7_putNumber : Cond.code yX7_putNumber cX7_putNumber 2 none ∈ TB := tk_X7_putNumber
theorem wgc_X7_putNumber : GoodIn TB (cw yX7_putNumber cX7_putNumber 2 none) := goodIn_c2 wtk_X7_putNumber
theorem wtb_392 : Cond.methodLink "ToneLines$Speller" 49 yX7_putNumber ∈ TB := tb_261
theorem wtb_393 : Cond.instanceMethod yX7_putNumber ∈ TB := tb_262
theorem wtb_394 : Cond.selects "ToneLines$Speller" yX7_putNumber yX7_putNumber ∈ TB := tb_263
theorem wgv_X7_49 : GoodIn TB (wsV RX7 49 RX7 yX7_putNumber (cw yX7_putNumber cX7_putNumber 2 none)) := goodIn_4 wtb_392 wtb_393 wtb_394 wtb_391 wgc_X7_putNumber
theorem whv_X7_putNumber : yX7_putNumber.cls = RX7 ∧ yX7_putNumber.cls ≠ "java/lang/invoke/MethodHandle" ∧ yX7_putNumber.cls ≠ "java/lang/invoke/VarHandle" ∧ (parseMethodDescriptor yX7_putNumber.desc).map (fun d => d.parameters.length) = some 1 := hv_X7_putNumber
theorem wdX7_writeLines_41 : decode cX7_writeLines 41 = .ok (.aload_n 0, 1) := dX7_writeLines_41
theorem wdX7_writeLines_42 : decode cX7_writeLines 42 = .ok (.bipush 58, 2) := dX7_writeLines_42
theorem wdX7_writeLines_44 : decode cX7_writeLines 44 = .ok (.invokevirtual 28, 3) := dX7_writeLines_44
theorem wdX7_writeLines_47 : decode cX7_writeLines 47 = .ok (.aload_n 0, 1) := dX7_writeLines_47
theorem wdX7_writeLines_48 : decode cX7_writeLines 48 = .ok (.iload 4, 2) := dX7_writeLines_48
theorem wdX7_writeLines_50 : decode cX7_writeLines 50 = .ok (.invokestatic 53, 3) := dX7_writeLines_50
theorem wdX7_writeLines_53 : decode cX7_writeLines 53 = .ok (.invokevirtual 49, 3) := dX7_writeLines_53
theorem wdX7_writeLines_56 : decode cX7_writeLines 56 = .ok (.iload 4, 2) := dX7_writeLines_56
theorem wdX7_writeLines_58 : decode cX7_writeLines 58 = .ok (.iload 4, 2) := dX7_writeLines_58
theorem wdX7_writeLines_60 : decode cX7_writeLines 60 = .ok (.iconst 1, 1) := dX7_writeLines_60
theorem wdX7_writeLines_61 : decode cX7_writeLines 61 = .ok (.isub, 1) := dX7_writeLines_61
theorem wdX7_writeLines_62 : decode cX7_writeLines 62 = .ok (.iand, 1) := dX7_writeLines_62
theorem wdX7_writeLines_63 : decode cX7_writeLines 63 = .ok (.istore 4, 2) := dX7_writeLines_63
theorem wdX7_writeLines_65 : decode cX7_writeLines 65 = .ok (.goto (-46), 3) := dX7_writeLines_65
theorem wdX7_writeLines_28 : decode cX7_writeLines 28 = .ok (.aload_n 0, 1) := dX7_writeLines_28
theorem wdX7_writeLines_29 : decode cX7_writeLines 29 = .ok (.bipush 32, 2) := dX7_writeLines_29
theorem wdX7_writeLines_31 : decode cX7_writeLines 31 = .ok (.invokevirtual 28, 3) := dX7_writeLines_31
set_option maxRecDepth 4000 in
theorem lp_X7_writeLines2 {p : Program} {l : Launch} {e : Env} {s : State} {m : MethodId} {args : Array Value} {below : List Frame} {meth : Method} {c : Code} {D : va_G} {B : Nat} {cy : Nat → ClassId} {H0 : Heap} {Q : State → Prop} {M : Mem} {R : Room} {a t : Nat} {gx : Nat × List Nat} (F : CallFix p m c cX7_writeLines 5 s args TB RX7) (hR1 : 2 ≤ R.frames) (hR2 : 42 ≤ R.locals) (ht12 : t < 12) (kk : ∀ (x : Nat) (fx : Nat × List Nat) (Nm : Mem) (H : Heap) (locs : List Loc) (ls : Array Slot), (fx = gx) → (isTx Nm fx.2) → (FrX9 Nm M) → Wd D B cy s H0 Nm H locs → lv_has ls 5 [(3, .int (zI (t : Int))), (2, .int (zI ((fx.1 : Nat) : Int))), (0, .ref (B + 141)), (1, .ref (B + a))] → W p l e R s m args below meth c H locs 0 0 Q (F0 m 68 ls [])) : ∀ (f : Nat) (x : Nat) (fx : Nat × List Nat) (Nm : Mem), (x < 4096) → (fx.1 ≤ 1) → (isTx Nm fx.2) → (FrX9 Nm M) → (lnR t x 12 fx = gx) → (fx.2.length + 6 * pop x ≤ 176) → (pop x ≤ f) → ∀ (H : Heap) (locs : List Loc) (ls : Array Slot), Wd D B cy s H0 Nm H locs → lv_has ls 5 [(4, .int (zI (x : Int))), (3, .int (zI (t : Int))), (2, .int (zI ((fx.1 : Nat) : Int))), (0, .ref (B + 141)), (1, .ref (B + a))] → W p l e R s m args below meth c H locs 0 0 Q (F0 m 19 ls []) := by
  have hx := F.1
  have hb := F.2.1
  intro f
  induction f with
  | zero =>
    intro x fx Nm i0 i1 i2 i3 i4 i5 hf H locs ls w hl
    have hz9 := (pop_le x i0).2
    refine lv_iload hx hb wdX7_writeLines_19 (lv_at hl 0 rfl) ?_
    refine z_if_eq (tgt := 68) hx hb (by omega) wdX7_writeLines_21 (by decide) (fun c1 => ?_) (fun c1 => False.elim (by omega))
    exact kk x fx Nm _ _ ls (by rw [← i4, show x = 0 by omega, lnR_no 12 (fun i _ => by rw [Nat.zero_testBit]; decide)]) i2 i3 w (lv_sub hl [1, 2, 3, 4] rfl)
  | succ f ih =>
    intro x fx Nm i0 i1 i2 i3 i4 i5 hf H locs ls w hl
    have hz9 := (pop_le x i0).2
    refine lv_iload hx hb wdX7_writeLines_19 (lv_at hl 0 rfl) ?_
    refine z_if_eq (tgt := 68) hx hb (by omega) wdX7_writeLines_21 (by decide) (fun c1 => ?_) (fun c1 => ?_)
    · exact kk x fx Nm _ _ ls (by rw [← i4, show x = 0 by omega, lnR_no 12 (fun i _ => by rw [Nat.zero_testBit]; decide)]) i2 i3 w (lv_sub hl [1, 2, 3, 4] rfl)
    · refine lv_iload_n hx hb wdX7_writeLines_24 rfl (lv_at hl 2 rfl) ?_
      refine z_if_ne (tgt := 34) hx hb (by omega) wdX7_writeLines_25 (by decide) (fun c2 => ?_) (fun c2 => ?_)
      · refine lv_iconst (v := zI 0) hx hb wdX7_writeLines_34 rfl ?_
        refine lv_istore_n (lv' := [(2, .int (zI 0)), (4, .int (zI (x : Int))), (3, .int (zI (t : Int))), (0, .ref (B + 141)), (1, .ref (B + a))]) hx hb wdX7_writeLines_35 rfl hl (by decide) rfl (fun ls hl => ?_)
        refine lv_aload_n hx hb wdX7_writeLines_36 rfl (lv_at hl 3 rfl) ?_
        refine lv_iload_n hx hb wdX7_writeLines_37 rfl (lv_at hl 2 rfl) ?_
        refine k_Vv F w (As := [.int (zI (t : Int))]) (rest := []) (a := 141) (kd_lt (a := 141) (show kd 141 = (7, 0, 0) from rfl) (by decide)) (sh_7 rfl _ _) rfl (h_putNumber (tx := fx.2) i2 (by omega) (v9 := t) (by omega)) wgv_X7_49 whv_X7_putNumber ⟨(by omega), (by omega)⟩ hl.1 rfl (Nat.le_of_ble_eq_true rfl) ⟨Nat.zero_le _, Nat.zero_le _⟩ wdX7_writeLines_38 (fun Ma3 H locs hp w => ?_)
        rcases hp with ⟨hT1, hF1⟩
        have hL1 : (fx.2 ++ nmT t).length ≤ (fx.2).length + 2 := by rw [List.length_append]; have := (nm_len (v := t)).1; omega
        have hG1 : FrX9 Ma3 Nm := hF1
        refine lv_aload_n hx hb wdX7_writeLines_41 rfl (lv_at hl 3 rfl) ?_
        refine lv_bipush (v := zI 58) hx hb wdX7_writeLines_42 (by decide) ?_
        refine k_Vv F w (As := [.int (zI 58)]) (rest := []) (a := 141) (kd_lt (a := 141) (show kd 141 = (7, 0, 0) from rfl) (by decide)) (sh_7 rfl _ _) rfl (h_put (tx := (fx.2 ++ nmT t)) hT1 (by omega) (c9 := 58) (by omega)) wgv_X7_28 whv_X7_put ⟨(by omega), (by omega)⟩ hl.1 rfl (Nat.le_of_ble_eq_true rfl) ⟨Nat.zero_le _, Nat.zero_le _⟩ wdX7_writeLines_44 (fun Ma4 H locs hp w => ?_)
        rcases hp with ⟨hT2, hF2⟩
        have hL2 : ((fx.2 ++ nmT t) ++ [58]).length = ((fx.2 ++ nmT t)).length + 1 := len1
        have hG2 : FrX9 Ma4 Nm := FrX9.tr hG1 hF2
        refine lv_aload_n hx hb wdX7_writeLines_47 rfl (lv_at hl 3 rfl) ?_
        refine lv_iload hx hb wdX7_writeLines_48 (lv_at hl 1 rfl) ?_
        refine x_Ni F w (As := [.int (zI (x : Int))]) (rest := [.ref (B + 141)]) (s_X11_lowest (m9 := x) (by omega)) wgc_X11_lowest wtb_5 wtb_6 (by decide) whs_X11_lowest ⟨(by omega), (by omega)⟩ hl.1 rfl (Nat.le_of_ble_eq_true rfl) ⟨Nat.zero_le _, Nat.zero_le _⟩ wdX7_writeLines_50 (fun H locs w => ?_)
        have hw4 := lowI_rg x (by omega)
        refine r_val (v := zI ((low x : Nat) : Int)) (congrArg zI (lowI_nz (by omega))) ?_
        have hlx := (low_t x i0 (by omega)).2
        refine k_Vv F w (As := [.int (zI (((low x) : Nat) : Int))]) (rest := []) (a := 141) (kd_lt (a := 141) (show kd 141 = (7, 0, 0) from rfl) (by decide)) (sh_7 rfl _ _) rfl (h_putNumber (tx := ((fx.2 ++ nmT t) ++ [58])) hT2 (by omega) (v9 := (low x)) (by omega)) wgv_X7_49 whv_X7_putNumber ⟨(by omega), (by omega)⟩ hl.1 rfl (Nat.le_of_ble_eq_true rfl) ⟨Nat.zero_le _, Nat.zero_le _⟩ wdX7_writeLines_53 (fun Ma6 H locs hp w => ?_)
        rcases hp with ⟨hT3, hF3⟩
        have hL3 : (((fx.2 ++ nmT t) ++ [58]) ++ nmT (low x)).length ≤ (((fx.2 ++ nmT t) ++ [58])).length + 2 := by rw [List.length_append]; have := (nm_len (v := (low x))).1; omega
        have hG3 : FrX9 Ma6 Nm := FrX9.tr hG2 hF3
        refine lv_iload hx hb wdX7_writeLines_56 (lv_at hl 1 rfl) ?_
        refine lv_iload hx hb wdX7_writeLines_58 (lv_at hl 1 rfl) ?_
        refine lv_iconst (v := zI 1) hx hb wdX7_writeLines_60 rfl ?_
        refine z_isub (z := (((x - 1) : Nat) : Int)) hx hb wdX7_writeLines_61 (by omega) ?_
        refine lv_iand hx hb wdX7_writeLines_62 ?_
        refine r_val (v := (zI (((x &&& (x - 1)) : Nat) : Int))) (zb_and x (x - 1)) ?_
        have q7 := (Nat.and_le_left : x &&& (x - 1) ≤ _)
        refine lv_istore (lv' := [(4, .int (zI (((x &&& (x - 1)) : Nat) : Int))), (2, .int (zI 0)), (3, .int (zI (t : Int))), (0, .ref (B + 141)), (1, .ref (B + a))]) hx hb wdX7_writeLines_63 hl (by decide) rfl (fun ls hl => ?_)
        refine lv_goto (tgt := 19) hx hb wdX7_writeLines_65 (by decide) ?_
        have hpd := pop_dec x i0 (by omega)
        have hla : x &&& (x - 1) ≤ x := Nat.and_le_left
        have e9 : lnP t (low x) fx = (0, (((fx.2 ++ nmT t) ++ [58]) ++ nmT (low x))) := by unfold lnP; rw [if_pos (by omega), List.append_nil]
        have hl9 := lnP_len (t := t) (s := low x) (x := fx)
        exact ih (x &&& (x - 1)) (lnP t (low x) fx) Ma6 (by omega) (by rw [e9]; exact Nat.zero_le 1) (by rw [e9]; exact hT3) (FrX9.tr i3 hG3) (by rw [← i4]; exact (lnR_step (m := x) (x := fx) i0 (by omega)).symm) (by omega) (by omega) _ _ ls w (lv_sub hl [0, 2, 1, 3, 4] rfl)
      · refine lv_aload_n hx hb wdX7_writeLines_28 rfl (lv_at hl 3 rfl) ?_
        refine lv_bipush (v := zI 32) hx hb wdX7_writeLines_29 (by decide) ?_
        refine k_Vv F w (As := [.int (zI 32)]) (rest := []) (a := 141) (kd_lt (a := 141) (show kd 141 = (7, 0, 0) from rfl) (by decide)) (sh_7 rfl _ _) rfl (h_put (tx := fx.2) i2 (by omega) (c9 := 32) (by omega)) wgv_X7_28 whv_X7_put ⟨(by omega), (by omega)⟩ hl.1 rfl (Nat.le_of_ble_eq_true rfl) ⟨Nat.zero_le _, Nat.zero_le _⟩ wdX7_writeLines_31 (fun Ma8 H locs hp w => ?_)
        rcases hp with ⟨hT1, hF1⟩
        have hL1 : (fx.2 ++ [32]).length = (fx.2).length + 1 := len1
        have hG1 : FrX9 Ma8 Nm := hF1
        refine lv_iconst (v := zI 0) hx hb wdX7_writeLines_34 rfl ?_
        refine lv_istore_n (lv' := [(2, .int (zI 0)), (4, .int (zI (x : Int))), (3, .int (zI (t : Int))), (0, .ref (B + 141)), (1, .ref (B + a))]) hx hb wdX7_writeLines_35 rfl hl (by decide) rfl (fun ls hl => ?_)
        refine lv_aload_n hx hb wdX7_writeLines_36 rfl (lv_at hl 3 rfl) ?_
        refine lv_iload_n hx hb wdX7_writeLines_37 rfl (lv_at hl 2 rfl) ?_
        refine k_Vv F w (As := [.int (zI (t : Int))]) (rest := []) (a := 141) (kd_lt (a := 141) (show kd 141 = (7, 0, 0) from rfl) (by decide)) (sh_7 rfl _ _) rfl (h_putNumber (tx := (fx.2 ++ [32])) hT1 (by omega) (v9 := t) (by omega)) wgv_X7_49 whv_X7_putNumber ⟨(by omega), (by omega)⟩ hl.1 rfl (Nat.le_of_ble_eq_true rfl) ⟨Nat.zero_le _, Nat.zero_le _⟩ wdX7_writeLines_38 (fun Ma9 H locs hp w => ?_)
        rcases hp with ⟨hT2, hF2⟩
        have hL2 : ((fx.2 ++ [32]) ++ nmT t).length ≤ ((fx.2 ++ [32])).length + 2 := by rw [List.length_append]; have := (nm_len (v := t)).1; omega
        have hG2 : FrX9 Ma9 Nm := FrX9.tr hG1 hF2
        refine lv_aload_n hx hb wdX7_writeLines_41 rfl (lv_at hl 3 rfl) ?_
        refine lv_bipush (v := zI 58) hx hb wdX7_writeLines_42 (by decide) ?_
        refine k_Vv F w (As := [.int (zI 58)]) (rest := []) (a := 141) (kd_lt (a := 141) (show kd 141 = (7, 0, 0) from rfl) (by decide)) (sh_7 rfl _ _) rfl (h_put (tx := ((fx.2 ++ [32]) ++ nmT t)) hT2 (by omega) (c9 := 58) (by omega)) wgv_X7_28 whv_X7_put ⟨(by omega), (by omega)⟩ hl.1 rfl (Nat.le_of_ble_eq_true rfl) ⟨Nat.zero_le _, Nat.zero_le _⟩ wdX7_writeLines_44 (fun Ma10 H locs hp w => ?_)
        rcases hp with ⟨hT3, hF3⟩
        have hL3 : (((fx.2 ++ [32]) ++ nmT t) ++ [58]).length = (((fx.2 ++ [32]) ++ nmT t)).length + 1 := len1
        have hG3 : FrX9 Ma10 Nm := FrX9.tr hG2 hF3
        refine lv_aload_n hx hb wdX7_writeLines_47 rfl (lv_at hl 3 rfl) ?_
        refine lv_iload hx hb wdX7_writeLines_48 (lv_at hl 1 rfl) ?_
        refine x_Ni F w (As := [.int (zI (x : Int))]) (rest := [.ref (B + 141)]) (s_X11_lowest (m9 := x) (by omega)) wgc_X11_lowest wtb_5 wtb_6 (by decide) whs_X11_lowest ⟨(by omega), (by omega)⟩ hl.1 rfl (Nat.le_of_ble_eq_true rfl) ⟨Nat.zero_le _, Nat.zero_le _⟩ wdX7_writeLines_50 (fun H locs w => ?_)
        have hw10 := lowI_rg x (by omega)
        refine r_val (v := zI ((low x : Nat) : Int)) (congrArg zI (lowI_nz (by omega))) ?_
        have hlx := (low_t x i0 (by omega)).2
        refine k_Vv F w (As := [.int (zI (((low x) : Nat) : Int))]) (rest := []) (a := 141) (kd_lt (a := 141) (show kd 141 = (7, 0, 0) from rfl) (by decide)) (sh_7 rfl _ _) rfl (h_putNumber (tx := (((fx.2 ++ [32]) ++ nmT t) ++ [58])) hT3 (by omega) (v9 := (low x)) (by omega)) wgv_X7_49 whv_X7_putNumber ⟨(by omega), (by omega)⟩ hl.1 rfl (Nat.le_of_ble_eq_true rfl) ⟨Nat.zero_le _, Nat.zero_le _⟩ wdX7_writeLines_53 (fun Ma12 H locs hp w => ?_)
        rcases hp with ⟨hT4, hF4⟩
        have hL4 : ((((fx.2 ++ [32]) ++ nmT t) ++ [58]) ++ nmT (low x)).length ≤ ((((fx.2 ++ [32]) ++ nmT t) ++ [58])).length + 2 := by rw [List.length_append]; have := (nm_len (v := (low x))).1; omega
        have hG4 : FrX9 Ma12 Nm := FrX9.tr hG3 hF4
        refine lv_iload hx hb wdX7_writeLines_56 (lv_at hl 1 rfl) ?_
        refine lv_iload hx hb wdX7_writeLines_58 (lv_at hl 1 rfl) ?_
        refine lv_iconst (v := zI 1) hx hb wdX7_writeLines_60 rfl ?_
        refine z_isub (z := (((x - 1) : Nat) : Int)) hx hb wdX7_writeLines_61 (by omega) ?_
        refine lv_iand hx hb wdX7_writeLines_62 ?_
        refine r_val (v := (zI (((x &&& (x - 1)) : Nat) : Int))) (zb_and x (x - 1)) ?_
        have q13 := (Nat.and_le_left : x &&& (x - 1) ≤ _)
        refine lv_istore (lv' := [(4, .int (zI (((x &&& (x - 1)) : Nat) : Int))), (2, .int (zI 0)), (3, .int (zI (t : Int))), (0, .ref (B + 141)), (1, .ref (B + a))]) hx hb wdX7_writeLines_63 hl (by decide) rfl (fun ls hl => ?_)
        refine lv_goto (tgt := 19) hx hb wdX7_writeLines_65 (by decide) ?_
        have hpd := pop_dec x i0 (by omega)
        have hla : x &&& (x - 1) ≤ x := Nat.and_le_left
        have e9 : lnP t (low x) fx = (0, ((((fx.2 ++ [32]) ++ nmT t) ++ [58]) ++ nmT (low x))) := by unfold lnP; rw [if_neg (by omega)]
        have hl9 := lnP_len (t := t) (s := low x) (x := fx)
        exact ih (x &&& (x - 1)) (lnP t (low x) fx) Ma12 (by omega) (by rw [e9]; exact Nat.zero_le 1) (by rw [e9]; exact hT4) (FrX9.tr i3 hG4) (by rw [← i4]; exact (lnR_step (m := x) (x := fx) i0 (by omega)).symm) (by omega) (by omega) _ _ ls w (lv_sub hl [0, 2, 1, 3, 4] rfl)
theorem wdX7_writeLines_4 : decode cX7_writeLines 4 = .ok (.iload_n 3, 1) := dX7_writeLines_4
theorem wdX7_writeLines_5 : decode cX7_writeLines 5 = .ok (.aload_n 1, 1) := dX7_writeLines_5
theorem wdX7_writeLines_6 : decode cX7_writeLines 6 = .ok (.getfield 19, 3) := dX7_writeLines_6
theorem wtb_395 : Cond.fieldLink "ToneLines$Speller" 19 "ToneLines$Word" "tones" "I" ∈ TB := tb_259
theorem wdX7_writeLines_9 : decode cX7_writeLines 9 = .ok (.if_icmp .ge 65, 3) := dX7_writeLines_9
theorem wdX7_writeLines_12 : decode cX7_writeLines 12 = .ok (.aload_n 1, 1) := dX7_writeLines_12
theorem wdX7_writeLines_13 : decode cX7_writeLines 13 = .ok (.iload_n 3, 1) := dX7_writeLines_13
theorem wdX7_writeLines_14 : decode cX7_writeLines 14 = .ok (.invokevirtual 46, 3) := dX7_writeLines_14
theorem wtb_396 : Cond.methodLink "ToneLines$Speller" 46 yX9_linesFrom ∈ TB := tb_260
theorem wgv_X7_46 : GoodIn TB (wsV RX7 46 RX9 yX9_linesFrom (cw yX9_linesFrom cX9_linesFrom 2 (some .int))) := goodIn_4 wtb_396 wtb_1 wtb_2 wtb_3 wgc_X9_linesFrom
theorem wdX7_writeLines_17 : decode cX7_writeLines 17 = .ok (.istore 4, 2) := dX7_writeLines_17
theorem wdX7_writeLines_68 : decode cX7_writeLines 68 = .ok (.iinc 3 1, 3) := dX7_writeLines_68
theorem wdX7_writeLines_71 : decode cX7_writeLines 71 = .ok (.goto (-67), 3) := dX7_writeLines_71
set_option maxRecDepth 4000 in
theorem lp_X7_writeLines {p : Program} {l : Launch} {e : Env} {s : State} {m : MethodId} {args : Array Value} {below : List Frame} {meth : Method} {c : Code} {D : va_G} {B : Nat} {cy : Nat → ClassId} {H0 : Heap} {Q : State → Prop} {M : Mem} {R : Room} {a q hv ed : Nat} {o : Wo} (F : CallFix p m c cX7_writeLines 5 s args TB RX7) (hR1 : 2 ≤ R.frames) (hR2 : 42 ≤ R.locals) (hk : kd a = (9, 0, 0)) (hC : CW M a q hv ed o) (hn9 : ncW o) (kk : ∀ (t : Nat) (Nm : Mem) (H : Heap) (locs : List Loc) (ls : Array Slot), (isTx Nm (txF q hv ed o)) → (FrX9 Nm M) → Wd D B cy s H0 Nm H locs → lv_has ls 5 [] → W p l e R s m args below meth c H locs 0 0 Q (F0 m 74 ls [])) : ∀ (f : Nat) (t : Nat) (Nm : Mem), (t ≤ o.1) → (isTx Nm (lnA o.2.2 t (1, txB q hv ed o)).2) → (FrX9 Nm M) → (o.1 ≤ t + f) → ∀ (H : Heap) (locs : List Loc) (ls : Array Slot), Wd D B cy s H0 Nm H locs → lv_has ls 5 [(3, .int (zI (t : Int))), (2, .int (zI (((lnA o.2.2 t (1, txB q hv ed o)).1 : Nat) : Int))), (0, .ref (B + 141)), (1, .ref (B + a))] → W p l e R s m args below meth c H locs 0 0 Q (F0 m 4 ls []) := by
  have hx := F.1
  have hb := F.2.1
  have hW := hC.1
  have hwf := hC.wf
  have hKL := hwf.2.2.2.2
  have hn12 := hwf.1
  have hq12 := hwf.2.1
  have hhv := hwf.2.2.1
  have hed := hwf.2.2.2.1
  intro f
  induction f with
  | zero =>
    intro t Nm i0 i1 i2 hf H locs ls w hl
    refine lv_iload_n hx hb wdX7_writeLines_4 rfl (lv_at hl 0 rfl) ?_
    refine lv_aload_n hx hb wdX7_writeLines_5 rfl (lv_at hl 3 rfl) ?_
    refine f_9_0 F w (a := a) hk wtb_395 wdX7_writeLines_6 ?_
    refine r_val (v := (zI ((o.1 : Nat) : Int))) ((hC.tx hk i2).1.1) ?_
    refine z_icmp_ge (tgt := 74) hx hb (by omega) (by omega) wdX7_writeLines_9 (by decide) (fun c1 => ?_) (fun c1 => False.elim (by omega))
    exact kk t Nm _ _ ls (by have h9 := i1; rw [show t = o.1 by omega] at h9; exact h9) i2 w (lv_sub hl [] rfl)
  | succ f ih =>
    intro t Nm i0 i1 i2 hf H locs ls w hl
    refine lv_iload_n hx hb wdX7_writeLines_4 rfl (lv_at hl 0 rfl) ?_
    refine lv_aload_n hx hb wdX7_writeLines_5 rfl (lv_at hl 3 rfl) ?_
    refine f_9_0 F w (a := a) hk wtb_395 wdX7_writeLines_6 ?_
    refine r_val (v := (zI ((o.1 : Nat) : Int))) ((hC.tx hk i2).1.1) ?_
    refine z_icmp_ge (tgt := 74) hx hb (by omega) (by omega) wdX7_writeLines_9 (by decide) (fun c1 => ?_) (fun c1 => ?_)
    · exact kk t Nm _ _ ls (by have h9 := i1; rw [show t = o.1 by omega] at h9; exact h9) i2 w (lv_sub hl [] rfl)
    · refine lv_aload_n hx hb wdX7_writeLines_12 rfl (lv_at hl 3 rfl) ?_
      refine lv_iload_n hx hb wdX7_writeLines_13 rfl (lv_at hl 0 rfl) ?_
      refine k_Vi F w (As := [.int (zI (t : Int))]) (rest := []) (a := a) (kd_lt (a := a) hk (by decide)) (sh_9 hk _ _) rfl (s_X9_linesFrom hk (hC.tx hk i2).1 hC.wf (t := (t : Int)) (by omega)) wgv_X7_46 whv_X9_linesFrom ⟨(by omega), (by omega)⟩ hl.1 rfl (Nat.le_of_ble_eq_true rfl) ⟨Nat.zero_le _, Nat.zero_le _⟩ wdX7_writeLines_14 (fun r Ma2 H locs hp w => ?_)
      rcases hp with ⟨⟨k8, e8, h8, rfl⟩ | ⟨n8, rfl⟩, hMe⟩
      · obtain rfl : t = k8 := by omega
        rw [hMe] at w
        have hlt9 := hC.2.1.lt (show t < o.1 by omega)
        refine lv_istore (lv' := [(4, .int (zI (((o.2.2 t) : Nat) : Int))), (3, .int (zI (t : Int))), (2, .int (zI (((lnA o.2.2 t (1, txB q hv ed o)).1 : Nat) : Int))), (0, .ref (B + 141)), (1, .ref (B + a))]) hx hb wdX7_writeLines_17 hl (by decide) rfl (fun ls hl => ?_)
        have htb := tx_b (q := q) (hv := hv) (ed := ed) (t := t + 1) hC.2.1 hn9 (by omega)
        have htc := tx_b (q := q) (hv := hv) (ed := ed) (t := t) hC.2.1 hn9 (by omega)
        have elc : lcF o.2.2 (t + 1) = lcF o.2.2 t + pop (o.2.2 t) := rfl
        obtain ⟨fx, hfx⟩ : ∃ fx, fx = (lnA o.2.2 t (1, txB q hv ed o)) := ⟨_, rfl⟩
        rw [← hfx] at htc
        have i1x : isTx Nm fx.2 := by rw [hfx]; exact i1
        have hf1 : fx.1 ≤ 1 := by rw [hfx]; exact lnA_1 t
        replace hl : lv_has ls 5 [(4, .int (zI (((o.2.2 t) : Nat) : Int))), (3, .int (zI (t : Int))), (2, .int (zI ((fx.1 : Nat) : Int))), (0, .ref (B + 141)), (1, .ref (B + a))] := by rw [hfx]; exact hl
        refine lp_X7_writeLines2  F (by omega) (by omega) (a := a) (t := t) (gx := lnR t (o.2.2 t) 12 fx) (by omega) (fun x2 fx2 Nm2 H locs ls x0 x1 x2 w hl => ?_) (pop (o.2.2 t)) (o.2.2 t) fx Nm (by omega) hf1 i1x i2 rfl (by omega) (by omega) _ _ ls w (lv_sub hl [0, 1, 2, 3, 4] rfl)
        refine z_iinc (v := (((t + 1) : Nat) : Int)) (lv' := [(3, .int (zI (((t + 1) : Nat) : Int))), (2, .int (zI ((fx2.1 : Nat) : Int))), (0, .ref (B + 141)), (1, .ref (B + a))]) hx hb wdX7_writeLines_68 hl (k := 0) rfl (by omega) (by decide) rfl (fun ls hl => ?_)
        refine lv_goto (tgt := 4) hx hb wdX7_writeLines_71 (by decide) ?_
        have eX : fx2 = lnA o.2.2 (t + 1) (1, txB q hv ed o) := by rw [lnA, ← hfx]; exact x0
        replace hl : lv_has ls 5 [(3, .int (zI (((t + 1) : Nat) : Int))), (2, .int (zI (((lnA o.2.2 (t + 1) (1, txB q hv ed o)).1 : Nat) : Int))), (0, .ref (B + 141)), (1, .ref (B + a))] := by rw [← eX]; exact hl
        exact ih (t + 1) Nm2 (by omega) (by rw [← eX]; exact x1) x2 (by omega) _ _ ls w (lv_sub hl [0, 1, 2, 3] rfl)
      · exact False.elim (by omega)
theorem wdX7_writeLines_0 : decode cX7_writeLines 0 = .ok (.iconst 1, 1) := dX7_writeLines_0
theorem wdX7_writeLines_1 : decode cX7_writeLines 1 = .ok (.istore_n 2, 1) := dX7_writeLines_1
theorem wdX7_writeLines_2 : decode cX7_writeLines 2 = .ok (.iconst 0, 1) := dX7_writeLines_2
theorem wdX7_writeLines_3 : decode cX7_writeLines 3 = .ok (.istore_n 3, 1) := dX7_writeLines_3
theorem wdX7_writeLines_74 : decode cX7_writeLines 74 = .ok (.return_, 1) := dX7_writeLines_74
set_option maxRecDepth 4000 in
theorem h_writeLines {l : Launch} {D : va_G} {B : Nat} {cy : Nat → ClassId} {M : Mem} {a q hv ed : Nat} {o : Wo} (hk : kd a = (9, 0, 0)) (hC : CW M a q hv ed o) (hn9 : ncW o) (hT : isTx M (txB q hv ed o)) : Cv l D B cy yX7_writeLines cX7_writeLines 5 2 42 [.ref (B + 141), .ref (B + a)] M (fun M1 => isTx M1 (txF q hv ed o) ∧ FrX9 M1 M) := by
  refine s_any (by decide) (Nat.le_of_ble_eq_true rfl) ?_
  intro p e s m below meth c ls F hr hlocks w hl
  have F : CallFix p m c cX7_writeLines 5 s _ TB RX7 := F
  have hx := F.1
  have hb := F.2.1
  have hl : lv_has ls 5 [(0, .ref (B + 141)), (1, .ref (B + a))] := hl
  have hW := hC.1
  have hwf := hC.wf
  have hKL := hwf.2.2.2.2
  have hn12 := hwf.1
  have hq12 := hwf.2.1
  have hhv := hwf.2.2.1
  have hed := hwf.2.2.2.1
  refine lv_iconst (v := zI 1) hx hb wdX7_writeLines_0 rfl ?_
  refine lv_istore_n (lv' := [(2, .int (zI 1)), (0, .ref (B + 141)), (1, .ref (B + a))]) hx hb wdX7_writeLines_1 rfl hl (by decide) rfl (fun ls hl => ?_)
  refine lv_iconst (v := zI 0) hx hb wdX7_writeLines_2 rfl ?_
  refine lv_istore_n (lv' := [(3, .int (zI 0)), (2, .int (zI 1)), (0, .ref (B + 141)), (1, .ref (B + a))]) hx hb wdX7_writeLines_3 rfl hl (by decide) rfl (fun ls hl => ?_)
  refine lp_X7_writeLines  F (Nat.le_of_ble_eq_true rfl) (Nat.le_of_ble_eq_true rfl) hk hC hn9 (fun t Nm H locs ls x0 x1 w hl => ?_) o.1 0 M (by omega) hT FrX9.rf (by omega) _ _ ls w (lv_sub hl [0, 1, 2, 3] rfl)
  exact e_v F w hr hlocks ⟨x0, x1⟩ wdX7_writeLines_74
