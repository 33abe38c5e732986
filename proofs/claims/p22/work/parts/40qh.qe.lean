-- lines that never cross
def ncL (n : Nat) (L : Nat → Nat) : Prop := ∀ t u i j, t < u → u < n → (L t).testBit i = true → (L u).testBit j = true → i ≤ j
def ncW (o : Wo) : Prop := ncL o.1 o.2.2
theorem or2_bit {m j i : Nat} : (m ||| 2 ^ j).testBit i = true ↔ m.testBit i = true ∨ i = j := by
  rw [Nat.testBit_or, Bool.or_eq_true]
  by_cases h : i = j
  · subst h; rw [Nat.testBit_two_pow_self]; exact ⟨fun _ => Or.inr rfl, fun _ => Or.inr rfl⟩
  · rw [Nat.testBit_two_pow_of_ne (fun q => h q.symm)]
    exact ⟨fun q => q.elim Or.inl (fun q => by cases q), fun q => q.elim Or.inl (fun q => absurd q h)⟩
theorem nc_open {n t j : Nat} {L : Nat → Nat} (h : ncL n L) (ht : t < n) (ho : openP n L t j) : ncL n (updF L t (L t ||| 2 ^ j)) := by
  intro a b x y hab hb hx hy
  unfold updF at hx hy
  by_cases h1 : a = t
  · subst h1
    rw [if_pos rfl, or2_bit] at hx
    rw [if_neg (by omega)] at hy
    rcases hx with hx | hx
    · exact h a b x y hab hb hx hy
    · subst hx; exact ho.2.2 b (by omega) hb y hy
  · rw [if_neg h1] at hx
    by_cases h2 : b = t
    · subst h2
      rw [if_pos rfl, or2_bit] at hy
      rcases hy with hy | hy
      · exact h a b x y hab hb hx hy
      · subst hy; exact ho.2.1 a hab (by omega) x hx
    · rw [if_neg h2] at hy
      exact h a b x y hab hb hx hy
theorem nc_sub {n : Nat} {L L2 : Nat → Nat} (h : ncL n L) (hs : ∀ k i, (L2 k).testBit i = true → (L k).testBit i = true) : ncL n L2 := fun a b x y hab hb hx hy => h a b x y hab hb (hs a x hx) (hs b y hy)
theorem andn_sub {m b i : Nat} (h : (andn m b).testBit i = true) : m.testBit i = true := by
  rw [andn_bit, Bool.and_eq_true] at h
  exact h.1
theorem nc_cut {n t b : Nat} {L : Nat → Nat} (h : ncL n L) : ncL n (updF L t (andn (L t) b)) := nc_sub h (fun k i hi => by
  unfold updF at hi
  by_cases h1 : k = t
  · rw [if_pos h1] at hi; subst h1; exact andn_sub hi
  · rw [if_neg h1] at hi; exact hi)
theorem nc_rem {n t : Nat} {L : Nat → Nat} (h : ncL n L) : ncL (n - 1) (remF L t) := by
  intro a b x y hab hb hx hy
  unfold remF at hx hy
  by_cases h1 : a < t
  · rw [if_pos h1] at hx
    by_cases h2 : b < t
    · rw [if_pos h2] at hy; exact h a b x y hab (by omega) hx hy
    · rw [if_neg h2] at hy; exact h a (b + 1) x y (by omega) (by omega) hx hy
  · rw [if_neg h1] at hx
    rw [if_neg (by omega)] at hy
    exact h (a + 1) (b + 1) x y (by omega) (by omega) hx hy
theorem nc_ins {n t : Nat} {L : Nat → Nat} (h : ncL n L) (ht : t ≤ n) : ncL (n + 1) (insF L t 0) := by
  intro a b x y hab hb hx hy
  unfold insF at hx hy
  by_cases h0 : a = t
  · rw [if_neg (by omega), if_pos h0, Nat.zero_testBit] at hx; cases hx
  · by_cases h9 : b = t
    · rw [if_neg (by omega), if_pos h9, Nat.zero_testBit] at hy; cases hy
    · by_cases h1 : a < t
      · rw [if_pos h1] at hx
        by_cases h2 : b < t
        · rw [if_pos h2] at hy; exact h a b x y hab (by omega) hx hy
        · rw [if_neg h2, if_neg h9] at hy; exact h a (b - 1) x y (by omega) (by omega) hx hy
      · rw [if_neg h1, if_neg h0] at hx
        rw [if_neg (by omega), if_neg h9] at hy
        exact h (a - 1) (b - 1) x y (by omega) (by omega) hx hy
theorem nc_fu {t : Nat} {o : Wo} (h : ncW o) (ht : t + 1 < o.1) : ncW (fuO t o) := by
  intro a b x y hab hb hx hy
  have hb : b < o.1 - 1 := hb
  have key : ∀ k i, ((fuO t o).2.2 k).testBit i = true → (k < t ∧ (o.2.2 k).testBit i = true) ∨ (k = t ∧ ((o.2.2 t).testBit i = true ∨ (o.2.2 (t + 1)).testBit i = true)) ∨ (t < k ∧ (o.2.2 (k + 1)).testBit i = true) := by
    intro k i hi
    have hi : (remF (updF o.2.2 t (o.2.2 t ||| andn (o.2.2 (t + 1)) (o.2.2 t))) (t + 1) k).testBit i = true := hi
    unfold remF updF at hi
    by_cases h1 : k < t + 1
    · rw [if_pos h1] at hi
      by_cases h2 : k = t
      · rw [if_pos h2, Nat.testBit_or, Bool.or_eq_true] at hi
        exact Or.inr (Or.inl ⟨h2, hi.elim Or.inl (fun q => Or.inr (andn_sub q))⟩)
      · rw [if_neg h2] at hi
        exact Or.inl ⟨by omega, hi⟩
    · rw [if_neg h1, if_neg (by omega)] at hi
      exact Or.inr (Or.inr ⟨by omega, hi⟩)
  rcases key a x hx with ⟨a1, a2⟩ | ⟨a1, a2⟩ | ⟨a1, a2⟩ <;> rcases key b y hy with ⟨b1, b2⟩ | ⟨b1, b2⟩ | ⟨b1, b2⟩
  · exact h a b x y hab (by omega) a2 b2
  · rcases b2 with b2 | b2
    · exact h a t x y (by omega) (by omega) a2 b2
    · exact h a (t + 1) x y (by omega) (by omega) a2 b2
  · exact h a (b + 1) x y (by omega) (by omega) a2 b2
  · omega
  · omega
  · rcases a2 with a2 | a2
    · exact h t (b + 1) x y (by omega) (by omega) a2 b2
    · exact h (t + 1) (b + 1) x y (by omega) (by omega) a2 b2
  · omega
  · omega
  · exact h (a + 1) (b + 1) x y (by omega) (by omega) a2 b2
theorem nc_spr {n q ed t x : Nat} (ht : t < n) : ∀ (T : Nat) (L : Nat → Nat), ncL n L → ncL n (spr n q ed t x T L).1
  | 0, _, h => h
  | T + 1, L, h => by
    rw [spr]
    by_cases h1 : pb (stpP n q ed L t x (nj L t x)) = true
    · rw [if_pos h1]
      have h2 : stpP n q ed L t x (nj L t x) := by
        by_cases h3 : stpP n q ed L t x (nj L t x)
        · exact h3
        · rw [pb_f h3] at h1; cases h1
      exact nc_spr ht T _ (nc_open h ht h2.2.2.2.1)
    · rw [if_neg h1]; exact h
theorem nc_spF {q ed t x n9 : Nat} {o : Wo} (h : ncW o) (ht : t < o.1) : ncW (spF q ed t x n9 o).1 := by
  by_cases h0 : o.2.2 t = 0
  · rw [spF_0 h0]; exact h
  · rw [spF_1 h0]; exact nc_spr ht n9 o.2.2 h
theorem nc_lvF {t x : Nat} {o : Wo} (h : ncW o) : ncW (lvF t x o).1 := by
  by_cases h1 : andn (o.2.2 t) (2 ^ ext x (o.2.2 t)) = 0
  · rw [lv_n h1]; exact h
  · rw [lv_y h1]; exact nc_cut h
theorem nc_shF {q ed t x : Nat} {o : Wo} (h : ncW o) (ht : t < o.1) : ncW (shF q ed t x o).1 := by
  unfold shF
  by_cases h1 : (spF q ed t x 1 o).2 = 0
  · rw [if_pos h1]; exact nc_spF h ht
  · rw [if_neg h1]; exact nc_lvF (nc_spF h ht)
theorem nc_ctF {t y : Nat} {o : Wo} (h : ncW o) : ncW (ctF t y o).1 := by
  by_cases h0 : o.2.2 t = 0
  · rw [ctF_0 h0]; exact h
  · rw [ctF_1 h0]; exact nc_cut h
theorem nc_drF {t : Nat} {o : Wo} (h : ncW o) : ncW (drF t o).1 := by
  by_cases h0 : o.2.2 t = 0
  · rw [drF_1 h0]; exact nc_rem h
  · rw [drF_0 h0]; exact h
theorem nc_tuF {t n9 : Nat} {o : Wo} (h : ncW o) : ncW (tuF t n9 o).1 := by
  by_cases h1 : turnP o.2.1 t n9
  · rw [tuF_y h1]; exact h
  · rw [tuF_n h1]; exact h
theorem nc_dkG {q t x : Nat} {o : Wo} (h : ncW o) (ht : t < o.1) : ncW (dkG q t x o).1 := by
  by_cases h0 : o.2.2 t = 0
  · rw [dkG_0 h0]
    by_cases h1 : ∃ s9, dkC q o t x s9
    · obtain ⟨s9, h1⟩ := h1
      rw [dkF_y h1]
      obtain ⟨u, _, _, ho⟩ := h1
      exact nc_open h ht ho
    · rw [dkF_n (fun s9 q9 => h1 ⟨s9, q9⟩)]; exact h
  · rw [dkG_1 h0]; exact h
theorem nc_fuF : ∀ (k t : Nat) (o : Wo), ncW o → ncW (fuF k t o).1
  | 0, _, _, h => h
  | k + 1, t, o, h => by
    by_cases h1 : t + 1 < o.1 ∧ o.2.1 (t + 1) = o.2.1 t
    · rw [fu_y h1.1 h1.2]; exact nc_fuF k t (fuO t o) (nc_fu h h1.1)
    · rw [fu_n h1]; exact h
theorem nc_trV {v x y n9 q ed t : Nat} {o : Wo} (hv : 1 ≤ v ∧ v ≤ 7) (h : ncW o) (ht : t < o.1) : ncW (trV v x y n9 q ed t o).1 := by
  rcases (show v = 1 ∨ v = 2 ∨ v = 3 ∨ v = 4 ∨ v = 5 ∨ v = 6 ∨ v = 7 by omega) with h1 | h1 | h1 | h1 | h1 | h1 | h1 <;> subst h1
  · rw [trV_1]; exact nc_spF h ht
  · rw [trV_2]; exact nc_shF h ht
  · rw [trV_3]; exact nc_ctF h
  · rw [trV_4]; exact nc_dkG h ht
  · rw [trV_5]; exact nc_drF h
  · rw [trV_6]; exact nc_fuF _ _ _ h
  · rw [trV_7]; exact nc_tuF h
theorem nc_trT {P : Nat → Int} {v x y n9 q hv ed t : Nat} {o : Wo} (hv1 : 1 ≤ v ∧ v ≤ 7) (h : ncW o) (ht : t < o.1) : ncW (trT P v x y n9 q hv ed t o).1 := by
  by_cases hc : trC P q hv t o
  · rw [trT_y hc]; exact nc_trV hv1 h ht
  · rw [trT_n hc]; exact h
theorem nc_tpF {P : Nat → Int} {v x y n9 q hv ed : Nat} (hv1 : 1 ≤ v ∧ v ≤ 7) : ∀ (f : Nat) (t : Int) (o : Wo), ncW o → ncW (tpF P v x y n9 q hv ed f t o).1
  | 0, _, _, h => h
  | f + 1, t, o, h => by
    by_cases ht : 0 ≤ t ∧ t < (o.1 : Int)
    · rw [tpF, if_pos ht]
      exact nc_tpF hv1 f _ _ (nc_trT hv1 h (by omega))
    · rw [tpF, if_neg ht]; exact h
theorem nc_link {n x j : Nat} {L : Nat → Nat} (h : ncL n L) : ncL n (linkL n L x j) := by
  unfold linkL
  cases hf : lfind n L x j with
  | none => exact h
  | some k =>
    show ncL n (updF L (ixd x n k) (L (ixd x n k) ||| 2 ^ j))
    unfold lfind at hf
    by_cases hb : pb (bareP n L j) = true
    · rw [if_pos hb] at hf
      have h1 := List.find?_some hf
      have h2 : k < n := List.mem_range.mp (List.mem_of_find?_eq_some hf)
      have h3 : lcand n L x j k := by
        by_cases h4 : lcand n L x j k
        · exact h4
        · have h5 : pb (lcand n L x j k) = true := h1
          rw [pb_f h4] at h5; cases h5
      exact nc_open h (ixd_lt h2) h3.2
    · rw [if_neg hb] at hf; cases hf
theorem nc_lkP {n q x : Nat} {L : Nat → Nat} (h : ncL n L) : ∀ i, ncL n (lkP n q x L i).1
  | 0 => h
  | i + 1 => by rw [lkP_1]; exact nc_link (nc_lkP h i)
theorem nc_flR {n x s9 : Nat} : ∀ (k m : Nat) (L : Nat → Nat), ncL n L → ncL n (flR x s9 k m L)
  | 0, _, _, h => h
  | k + 1, m, L, h => nc_flR k _ _ (nc_cut h)
theorem nc_flP {x n9 : Nat} {o : Wo} (h : ncW o) : ∀ i, ncW (flP x n9 i o).1 ∧ (flP x n9 i o).1.1 = o.1
  | 0 => ⟨h, rfl⟩
  | i + 1 => by
    have h1 := nc_flP (x := x) (n9 := n9) h i
    rw [flP]
    exact ⟨nc_flR _ _ _ h1.1, h1.2⟩
theorem nc_fiP {kn : Nat} {o : Wo} (h : ncW o) : ∀ i, ncW (fiP kn i o).1
  | 0 => h
  | i + 1 => by
    have h1 := nc_fiP (kn := kn) h i
    rw [fiP]
    show ncW (fiS kn i (fiP kn i o).1).1
    by_cases hc : fiC i (fiP kn i o).1
    · rw [fiS_y hc]
      have h2 := plF_le (L := (fiP kn i o).1.2.2) (s9 := i) (fiP kn i o).1.1
      have h3 := nc_open (nc_ins (t := plF (fiP kn i o).1.2.2 i (fiP kn i o).1.1) h1 h2) (by omega) ((open_ins h2).mpr hc.2.2)
      rw [insF_at] at h3
      exact h3
    · rw [fiS_n hc]; exact h1
theorem nc_paF {P : Nat → Int} {q hv ed : Nat} {o : Wo} (hG : okG P) (h : ncW o) : ncW (paF P q hv ed o).1 := by
  have hg := hG.2.1
  by_cases h0 : P 0 = 0
  · rw [paF_0 h0]; exact nc_lkP h q
  · by_cases h8 : P 0 = 8
    · rw [paF_8 h8]; exact (nc_flP h q).1
    · by_cases h9 : P 0 = 9
      · rw [paF_9 h9]; exact nc_fiP h q
      · rw [paF_t (v := (P 0).toNat) (by omega) (by omega) (by omega)]; exact nc_tpF (by omega) _ _ _ h
theorem nc_pfF {P : Nat → Int} {q hv ed : Nat} (hG : okG P) : ∀ (f : Nat) (o : Wo), ncW o → ncW (pfF P q hv ed f o).1
  | 0, _, h => h
  | f + 1, o, h => by
    rw [pfF]
    by_cases h1 : 0 < (paF P q hv ed o).2 ∧ P 1 = 1
    · rw [if_pos h1]; exact nc_pfF hG f _ (nc_paF hG h)
    · rw [if_neg h1]; exact nc_paF hG h
theorem nc_dvF {Ps : Nat → Nat → Int} {q hv ed : Nat} {o : Wo} (h : ncW o) : ∀ n, (∀ j, j < n → okG (Ps j)) → ncW (dvF Ps q hv ed n o).1
  | 0, _ => h
  | n + 1, hG => by
    rw [dvF]
    exact nc_pfF (hG n (Nat.lt_succ_self n)) 20 _ (nc_dvF h n (fun j hj => hG j (by omega)))
theorem nc_of {g : Nat → Int32} {x : Fw} (h : NCw g) (hw : wA g x) (hx : okF x) : ncW x.2.2.2 := by
  intro t u i j htu hu hi hj
  have hn := hx.1.1
  have hi12 := bit_lt12 (hx.1.lt (show t < x.2.2.2.1 by omega)) hi
  have hj12 := bit_lt12 (hx.1.lt hu) hj
  refine h t u i j htu ⟨x.2.2.2.1, hw.1, hu, hn⟩ hi12 hj12 ?_ ?_
  · rw [hw.2.2.2.2.2 t (by omega), bt_zI _ (by omega)]; exact hi
  · rw [hw.2.2.2.2.2 u hu, bt_zI _ (by omega)]; exact hj
-- readings: all in one, or syllable by syllable
def cb (m : Nat) : Nat → Nat
  | 0 => 0
  | k + 1 => if m.testBit k = true then cb m k + 1 else cb m k
theorem cb_y {m k : Nat} (h : m.testBit k = true) : cb m (k + 1) = cb m k + 1 := by rw [cb, if_pos h]
theorem cb_n {m k : Nat} (h : ¬ m.testBit k = true) : cb m (k + 1) = cb m k := by rw [cb, if_neg h]
theorem cb_len {m : Nat} : ∀ k, cb m k = ((List.range k).filter (fun i => m.testBit i)).length
  | 0 => rfl
  | k + 1 => by
    rw [List.range_succ, List.filter_append, List.length_append, ← cb_len k]
    by_cases h : m.testBit k = true
    · rw [cb_y h]; simp [h]
    · rw [cb_n h]; simp [h]
theorem cb_pop (m : Nat) : cb m 12 = pop m := cb_len 12
-- how many lines each syllable has
-- at most 23 lines
def lcF (L : Nat → Nat) : Nat → Nat := sumP (fun t => pop (L t))
theorem pop_span : ∀ m, m < 4096 → m ≠ 0 → pop m + low m ≤ hig m + 1 := dec12 (P := fun m => m ≠ 0 → pop m + low m ≤ hig m + 1) (by decide +kernel)
theorem lc_nc {n : Nat} {L : Nat → Nat} (h : ncL n L) (hL : ∀ k, k < n → L k < 4096) : ∀ t, t ≤ n → lcF L t = 0 ∨ ∃ M, M < 12 ∧ lcF L t ≤ t + M ∧ (∃ u, u < t ∧ (L u).testBit M = true) ∧ ∀ u, u < t → ∀ i, (L u).testBit i = true → i ≤ M
  | 0, _ => Or.inl rfl
  | t + 1, ht => by
    have ih := lc_nc h hL t (by omega)
    have e : lcF L (t + 1) = lcF L t + pop (L t) := rfl
    have hLt := hL t (by omega)
    by_cases h0 : L t = 0
    · have hp : pop (L t) = 0 := by rw [h0]; rfl
      rcases ih with ih | ⟨M, hM, hc, ⟨u, hu, hb⟩, ha⟩
      · exact Or.inl (by omega)
      · refine Or.inr ⟨M, hM, by omega, ⟨u, by omega, hb⟩, fun v hv i hi => ?_⟩
        by_cases h1 : v = t
        · subst h1; rw [h0, Nat.zero_testBit] at hi; cases hi
        · exact ha v (by omega) i hi
    · have hs := pop_span _ hLt h0
      have hl := low_t _ hLt h0
      have hh := hig_t _ hLt h0
      have hlh : low (L t) ≤ hig (L t) := hig_l _ hLt _ hl.2 hl.1
      refine Or.inr ⟨hig (L t), hh.2, ?_, ⟨t, Nat.lt_succ_self t, hh.1⟩, fun v hv i hi => ?_⟩
      · rcases ih with ih | ⟨M, hM, hc, ⟨u, hu, hb⟩, ha⟩
        · omega
        · have := h u t M (low (L t)) hu (by omega) hb hl.1
          omega
      · by_cases h1 : v = t
        · subst h1; exact hig_l _ hLt i (bit_lt12 hLt hi) hi
        · have := h v t i (low (L t)) (by omega) (by omega) hi hl.1
          omega
-- longs
abbrev nL (n : Nat) : Int64 := Int64.ofNat n
