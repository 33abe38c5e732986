-- lines that never cross
def ncL (n : Nat) (L : Nat → Nat) : Prop := ∀ t u i j, t < u → u < n → (L t).testBit i = true → (L u).testBit j = true → i ≤ j
def ncW (o : Wo) : Prop := ncL o.1 o.2.2
theorem or2_bit {m j i : Nat} : (m ||| 2 ^ j).testBit i = true ↔ m.testBit i = true ∨ i = j := by
  rw [Nat.testBit_or, Bool.or_eq_true]
  by_cases h : i = j
  · subst h; rw [Nat.testBit_two_pow_self]; exact ⟨fun _ => Or.inr rfl, fun _ => Or.inr rfl⟩
  · rw [Nat.testBit_two_pow_of_ne (fun q => h q.symm)]
    exact ⟨fun q => q.elim Or.inl (fun q => by cases q), fun q => q.elim Or.inl (fun q => absurd q h)⟩
theorem nc_open {n t j : Nat} {L : Nat → Nat} (h : ncL n L) (ht : t < n) (ho : openP n L t j) : ncL n (updF L t (L t ||| 2 ^ j)) := by
  intro a b x y hab hb hx hy
  unfold updF at hx hy
  by_cases h1 : a = t
  · subst h1
    rw [if_pos rfl, or2_bit] at hx
    rw [if_neg (by omega)] at hy
    rcases hx with hx | hx
    · exact h a b x y hab hb hx hy
    · subst hx; exact ho.2.2 b (by omega) hb y hy
  · rw [if_neg h1] at hx
    by_cases h2 : b = t
    · subst h2
      rw [if_pos rfl, or2_bit] at hy
      rcases hy with hy | hy
      · exact h a b x y hab hb hx hy
      · subst hy; exact ho.2.1 a hab (by omega) x hx
    · rw [if_neg h2] at hy
      exact h a b x y hab hb hx hy
theorem nc_sub {n : Nat} {L L2 : Nat → Nat} (h : ncL n L) (hs : ∀ k i, (L2 k).testBit i = true → (L k).testBit i = true) : ncL n L2 := fun a b x y hab hb hx hy => h a b x y hab hb (hs a x hx) (hs b y hy)
theorem andn_sub {m b i : Nat} (h : (andn m b).testBit i = true) : m.testBit i = true := by
  rw [andn_bit, Bool.and_eq_true] at h
  exact h.1
theorem nc_cut {n t b : Nat} {L : Nat → Nat} (h : ncL n L) : ncL n (updF L t (andn (L t) b)) := nc_sub h (fun k i hi => by
  unfold updF at hi
  by_cases h1 : k = t
  · rw [if_pos h1] at hi; subst h1; exact andn_sub hi
  · rw [if_neg h1] at hi; exact hi)
theorem nc_rem {n t : Nat} {L : Nat → Nat} (h : ncL n L) : ncL (n - 1) (remF L t) := by
  intro a b x y hab hb hx hy
  unfold remF at hx hy
  by_cases h1 : a < t
  · rw [if_pos h1] at hx
    by_cases h2 : b < t
    · rw [if_pos h2] at hy; exact h a b x y hab (by omega) hx hy
    · rw [if_neg h2] at hy; exact h a (b + 1) x y (by omega) (by omega) hx hy
  · rw [if_neg h1] at hx
    rw [if_neg (by omega)] at hy
    exact h (a + 1) (b + 1) x y (by omega) (by omega) hx hy
theorem nc_ins {n t : Nat} {L : Nat → Nat} (h : ncL n L) (ht : t ≤ n) : ncL (n + 1) (insF L t 0) := by
  intro a b x y hab hb hx hy
  unfold insF at hx hy
  by_cases h0 : a = t
  · rw [if_neg (by omega), if_pos h0, Nat.zero_testBit] at hx; cases hx
  · by_cases h9 : b = t
    · rw [if_neg (by omega), if_pos h9, Nat.zero_testBit] at hy; cases hy
    · by_cases h1 : a < t
      · rw [if_pos h1] at hx
        by_cases h2 : b < t
        · rw [if_pos h2] at hy; exact h a b x y hab (by omega) hx hy
        · rw [if_neg h2, if_neg h9] at hy; exact h a (b - 1) x y (by omega) (by omega) hx hy
      · rw [if_neg h1, if_neg h0] at hx
        rw [if_neg (by omega), if_neg h9] at hy
        exact h (a - 1) (b - 1) x y (by omega) (by omega) hx hy
theorem nc_fu {t : Nat} {o : Wo} (h : ncW o) (ht : t + 1 < o.1) : ncW (fuO t o) := by
  intro a b x y hab hb hx hy
  have hb : b < o.1 - 1 := hb
  have key : ∀ k i, ((fuO t o).2.2 k).testBit i = true → (k < t ∧ (o.2.2 k).testBit i = true) ∨ (k = t ∧ ((o.2.2 t).testBit i = true ∨ (o.2.2 (t + 1)).testBit i = true)) ∨ (t < k ∧ (o.2.2 (k + 1)).testBit i = true) := by
    intro k i hi
    have hi : (remF (updF o.2.2 t (o.2.2 t ||| andn (o.2.2 (t + 1)) (o.2.2 t))) (t + 1) k).testBit i = true := hi
    unfold remF updF at hi
    by_cases h1 : k < t + 1
    · rw [if_pos h1] at hi
      by_cases h2 : k = t
      · rw [if_pos h2, Nat.testBit_or, Bool.or_eq_true] at hi
        exact Or.inr (Or.inl ⟨h2, hi.elim Or.inl (fun q => Or.inr (andn_sub q))⟩)
      · rw [if_neg h2] at hi
        exact Or.inl ⟨by omega, hi⟩
    · rw [if_neg h1, if_neg (by omega)] at hi
      exact Or.inr (Or.inr ⟨by omega, hi⟩)
  rcases key a x hx with ⟨a1, a2⟩ | ⟨a1, a2⟩ | ⟨a1, a2⟩ <;> rcases key b y hy with ⟨b1, b2⟩ | ⟨b1, b2⟩ | ⟨b1, b2⟩
  · exact h a b x y hab (by omega) a2 b2
  · rcases b2 with b2 | b2
    · exact h a t x y (by omega) (by omega) a2 b2
    · exact h a (t + 1) x y (by omega) (by omega) a2 b2
  · exact h a (b + 1) x y (by omega) (by omega) a2 b2
  · omega
  · omega
  · rcases a2 with a2 | a2
    · exact h t (b + 1) x y (by omega) (by omega) a2 b2
    · exact h (t + 1) (b + 1) x y (by omega) (by omega) a2 b2
  · omega
  · omega
  · exact h (a + 1) (b + 1) x y (by omega) (by omega) a2 b2
theorem nc_spr {n q ed t x : Nat} (ht : t < n) : ∀ (T : Nat) (L : Nat → Nat), ncL n L → ncL n (spr n q ed t x T L).1
  | 0, _, h => h
  | T + 1, L, h => by
    rw [spr]
    by_cases h1 : pb (stpP n q ed L t x (nj L t x)) = true
    · rw [if_pos h1]
      have h2 : stpP n q ed L t x (nj L t x) := by
        by_cases h3 : stpP n q ed L t x (nj L t x)
        · exact h3
        · rw [pb_f h3] at h1; cases h1
      exact nc_spr ht T _ (nc_open h ht h2.2.2.2.1)
    · rw [if_neg h1]; exact h
theorem nc_spF {q ed t x n9 : Nat} {o : Wo} (h : ncW o) (ht : t < o.1) : ncW (spF q ed t x n9 o).1 := by
  by_cases h0 : o.2.2 t = 0
  · rw [spF_0 h0]; exact h
  · rw [spF_1 h0]; exact nc_spr ht n9 o.2.2 h
theorem nc_lvF {t x : Nat} {o : Wo} (h : ncW o) : ncW (lvF t x o).1 := by
  by_cases h1 : andn (o.2.2 t) (2 ^ ext x (o.2.2 t)) = 0
  · rw [lv_n h1]; exact h
  · rw [lv_y h1]; exact nc_cut h
theorem nc_shF {q ed t x : Nat} {o : Wo} (h : ncW o) (ht : t < o.1) : ncW (shF q ed t x o).1 := by
  unfold shF
  by_cases h1 : (spF q ed t x 1 o).2 = 0
  · rw [if_pos h1]; exact nc_spF h ht
  · rw [if_neg h1]; exact nc_lvF (nc_spF h ht)
theorem nc_ctF {t y : Nat} {o : Wo} (h : ncW o) : ncW (ctF t y o).1 := by
  by_cases h0 : o.2.2 t = 0
  · rw [ctF_0 h0]; exact h
  · rw [ctF_1 h0]; exact nc_cut h
theorem nc_drF {t : Nat} {o : Wo} (h : ncW o) : ncW (drF t o).1 := by
  by_cases h0 : o.2.2 t = 0
  · rw [drF_1 h0]; exact nc_rem h
  · rw [drF_0 h0]; exact h
theorem nc_tuF {t n9 : Nat} {o : Wo} (h : ncW o) : ncW (tuF t n9 o).1 := by
  by_cases h1 : turnP o.2.1 t n9
  · rw [tuF_y h1]; exact h
  · rw [tuF_n h1]; exact h
theorem nc_dkG {q t x : Nat} {o : Wo} (h : ncW o) (ht : t < o.1) : ncW (dkG q t x o).1 := by
  by_cases h0 : o.2.2 t = 0
  · rw [dkG_0 h0]
    by_cases h1 : ∃ s9, dkC q o t x s9
    · obtain ⟨s9, h1⟩ := h1
      rw [dkF_y h1]
      obtain ⟨u, _, _, ho⟩ := h1
      exact nc_open h ht ho
    · rw [dkF_n (fun s9 q9 => h1 ⟨s9, q9⟩)]; exact h
  · rw [dkG_1 h0]; exact h
theorem nc_fuF : ∀ (k t : Nat) (o : Wo), ncW o → ncW (fuF k t o).1
  | 0, _, _, h => h
  | k + 1, t, o, h => by
    by_cases h1 : t + 1 < o.1 ∧ o.2.1 (t + 1) = o.2.1 t
    · rw [fu_y h1.1 h1.2]; exact nc_fuF k t (fuO t o) (nc_fu h h1.1)
    · rw [fu_n h1]; exact h
theorem nc_trV {v x y n9 q ed t : Nat} {o : Wo} (hv : 1 ≤ v ∧ v ≤ 7) (h : ncW o) (ht : t < o.1) : ncW (trV v x y n9 q ed t o).1 := by
  rcases (show v = 1 ∨ v = 2 ∨ v = 3 ∨ v = 4 ∨ v = 5 ∨ v = 6 ∨ v = 7 by omega) with h1 | h1 | h1 | h1 | h1 | h1 | h1 <;> subst h1
  · rw [trV_1]; exact nc_spF h ht
  · rw [trV_2]; exact nc_shF h ht
  · rw [trV_3]; exact nc_ctF h
  · rw [trV_4]; exact nc_dkG h ht
  · rw [trV_5]; exact nc_drF h
  · rw [trV_6]; exact nc_fuF _ _ _ h
  · rw [trV_7]; exact nc_tuF h
theorem nc_trT {P : Nat → Int} {v x y n9 q hv ed t : Nat} {o : Wo} (hv1 : 1 ≤ v ∧ v ≤ 7) (h : ncW o) (ht : t < o.1) : ncW (trT P v x y n9 q hv ed t o).1 := by
  by_cases hc : trC P q hv t o
  · rw [trT_y hc]; exact nc_trV hv1 h ht
  · rw [trT_n hc]; exact h
theorem nc_tpF {P : Nat → Int} {v x y n9 q hv ed : Nat} (hv1 : 1 ≤ v ∧ v ≤ 7) : ∀ (f : Nat) (t : Int) (o : Wo), ncW o → ncW (tpF P v x y n9 q hv ed f t o).1
  | 0, _, _, h => h
  | f + 1, t, o, h => by
    by_cases ht : 0 ≤ t ∧ t < (o.1 : Int)
    · rw [tpF, if_pos ht]
      exact nc_tpF hv1 f _ _ (nc_trT hv1 h (by omega))
    · rw [tpF, if_neg ht]; exact h
theorem nc_link {n x j : Nat} {L : Nat → Nat} (h : ncL n L) : ncL n (linkL n L x j) := by
  unfold linkL
  cases hf : lfind n L x j with
  | none => exact h
  | some k =>
    show ncL n (updF L (ixd x n k) (L (ixd x n k) ||| 2 ^ j))
    unfold lfind at hf
    by_cases hb : pb (bareP n L j) = true
    · rw [if_pos hb] at hf
      have h1 := List.find?_some hf
      have h2 : k < n := List.mem_range.mp (List.mem_of_find?_eq_some hf)
      have h3 : lcand n L x j k := by
        by_cases h4 : lcand n L x j k
        · exact h4
        · have h5 : pb (lcand n L x j k) = true := h1
          rw [pb_f h4] at h5; cases h5
      exact nc_open h (ixd_lt h2) h3.2
    · rw [if_neg hb] at hf; cases hf
theorem nc_lkP {n q x : Nat} {L : Nat → Nat} (h : ncL n L) : ∀ i, ncL n (lkP n q x L i).1
  | 0 => h
  | i + 1 => by rw [lkP_1]; exact nc_link (nc_lkP h i)
theorem nc_flR {n x s9 : Nat} : ∀ (k m : Nat) (L : Nat → Nat), ncL n L → ncL n (flR x s9 k m L)
  | 0, _, _, h => h
  | k + 1, m, L, h => nc_flR k _ _ (nc_cut h)
theorem nc_flP {x n9 : Nat} {o : Wo} (h : ncW o) : ∀ i, ncW (flP x n9 i o).1 ∧ (flP x n9 i o).1.1 = o.1
  | 0 => ⟨h, rfl⟩
  | i + 1 => by
    have h1 := nc_flP (x := x) (n9 := n9) h i
    rw [flP]
    exact ⟨nc_flR _ _ _ h1.1, h1.2⟩
theorem nc_fiP {kn : Nat} {o : Wo} (h : ncW o) : ∀ i, ncW (fiP kn i o).1
  | 0 => h
  | i + 1 => by
    have h1 := nc_fiP (kn := kn) h i
    rw [fiP]
    show ncW (fiS kn i (fiP kn i o).1).1
    by_cases hc : fiC i (fiP kn i o).1
    · rw [fiS_y hc]
      have h2 := plF_le (L := (fiP kn i o).1.2.2) (s9 := i) (fiP kn i o).1.1
      have h3 := nc_open (nc_ins (t := plF (fiP kn i o).1.2.2 i (fiP kn i o).1.1) h1 h2) (by omega) ((open_ins h2).mpr hc.2.2)
      rw [insF_at] at h3
      exact h3
    · rw [fiS_n hc]; exact h1
theorem nc_paF {P : Nat → Int} {q hv ed : Nat} {o : Wo} (hG : okG P) (h : ncW o) : ncW (paF P q hv ed o).1 := by
  have hg := hG.2.1
  by_cases h0 : P 0 = 0
  · rw [paF_0 h0]; exact nc_lkP h q
  · by_cases h8 : P 0 = 8
    · rw [paF_8 h8]; exact (nc_flP h q).1
    · by_cases h9 : P 0 = 9
      · rw [paF_9 h9]; exact nc_fiP h q
      · rw [paF_t (v := (P 0).toNat) (by omega) (by omega) (by omega)]; exact nc_tpF (by omega) _ _ _ h
theorem nc_pfF {P : Nat → Int} {q hv ed : Nat} (hG : okG P) : ∀ (f : Nat) (o : Wo), ncW o → ncW (pfF P q hv ed f o).1
  | 0, _, h => h
  | f + 1, o, h => by
    rw [pfF]
    by_cases h1 : 0 < (paF P q hv ed o).2 ∧ P 1 = 1
    · rw [if_pos h1]; exact nc_pfF hG f _ (nc_paF hG h)
    · rw [if_neg h1]; exact nc_paF hG h
theorem nc_dvF {Ps : Nat → Nat → Int} {q hv ed : Nat} {o : Wo} (h : ncW o) : ∀ n, (∀ j, j < n → okG (Ps j)) → ncW (dvF Ps q hv ed n o).1
  | 0, _ => h
  | n + 1, hG => by
    rw [dvF]
    exact nc_pfF (hG n (Nat.lt_succ_self n)) 20 _ (nc_dvF h n (fun j hj => hG j (by omega)))
theorem nc_of {g : Nat → Int32} {x : Fw} (h : NCw g) (hw : wA g x) (hx : okF x) : ncW x.2.2.2 := by
  intro t u i j htu hu hi hj
  have hn := hx.1.1
  have hi12 := bit_lt12 (hx.1.lt (show t < x.2.2.2.1 by omega)) hi
  have hj12 := bit_lt12 (hx.1.lt hu) hj
  refine h t u i j htu ⟨x.2.2.2.1, hw.1, hu, hn⟩ hi12 hj12 ?_ ?_
  · rw [hw.2.2.2.2.2 t (by omega), bt_zI _ (by omega)]; exact hi
  · rw [hw.2.2.2.2.2 u hu, bt_zI _ (by omega)]; exact hj
-- readings: all in one, or syllable by syllable
def kvr : List Nat → Nat
  | [] => 0
  | d :: l => kvr l * 4 + d
def sqR (K L : Nat → Nat) : Nat → List Nat
  | 0 => []
  | t + 1 => List.replicate (pop (L t)) (K t + 1) ++ sqR K L t
def lsR (K L : Nat → Nat) (s : Nat) : Nat → List Nat
  | 0 => []
  | t + 1 => if (L t).testBit s = true then (K t + 1) :: lsR K L s t else lsR K L s t
def flr (f : Nat → List Nat) : Nat → List Nat
  | 0 => []
  | s + 1 => f s ++ flr f s
def cb (m : Nat) : Nat → Nat
  | 0 => 0
  | k + 1 => if m.testBit k = true then cb m k + 1 else cb m k
theorem cb_y {m k : Nat} (h : m.testBit k = true) : cb m (k + 1) = cb m k + 1 := by rw [cb, if_pos h]
theorem cb_n {m k : Nat} (h : ¬ m.testBit k = true) : cb m (k + 1) = cb m k := by rw [cb, if_neg h]
theorem cb_ex {m : Nat} : ∀ {k : Nat}, cb m k ≠ 0 → ∃ j, j < k ∧ m.testBit j = true
  | 0, h => absurd rfl h
  | k + 1, h => by
    by_cases h1 : m.testBit k = true
    · exact ⟨k, Nat.lt_succ_self k, h1⟩
    · rw [cb_n h1] at h
      obtain ⟨j, hj, hb⟩ := cb_ex h
      exact ⟨j, by omega, hb⟩
theorem cb_len {m : Nat} : ∀ k, cb m k = ((List.range k).filter (fun i => m.testBit i)).length
  | 0 => rfl
  | k + 1 => by
    rw [List.range_succ, List.filter_append, List.length_append, ← cb_len k]
    by_cases h : m.testBit k = true
    · rw [cb_y h]; simp [h]
    · rw [cb_n h]; simp [h]
theorem cb_pop (m : Nat) : cb m 12 = pop m := cb_len 12
theorem flr_add {f : Nat → List Nat} {m d : Nat} (hf : ∀ s j, j < s → m.testBit j = true → f s = []) : ∀ k, flr (fun s => if m.testBit s = true then d :: f s else f s) k = List.replicate (cb m k) d ++ flr f k
  | 0 => rfl
  | k + 1 => by
    have ih := flr_add (d := d) hf k
    show (if m.testBit k = true then d :: f k else f k) ++ flr (fun s => if m.testBit s = true then d :: f s else f s) k = List.replicate (cb m (k + 1)) d ++ (f k ++ flr f k)
    rw [ih]
    by_cases hc : cb m k = 0
    · by_cases h : m.testBit k = true
      · rw [if_pos h, cb_y h, hc]; rfl
      · rw [if_neg h, cb_n h, hc]; rfl
    · obtain ⟨j, hj, hb⟩ := cb_ex hc
      have e := hf k j hj hb
      rw [e]
      by_cases h : m.testBit k = true
      · rw [if_pos h, cb_y h]; rfl
      · rw [if_neg h, cb_n h]; rfl
theorem lsR_nil {K L : Nat → Nat} {s : Nat} : ∀ {t : Nat}, (∀ u, u < t → ¬ (L u).testBit s = true) → lsR K L s t = []
  | 0, _ => rfl
  | t + 1, h => by
    rw [lsR, if_neg (h t (Nat.lt_succ_self t))]
    exact lsR_nil (fun u hu => h u (by omega))
theorem sq_fl {n : Nat} {K L : Nat → Nat} (h : ncL n L) : ∀ t, t ≤ n → sqR K L t = flr (fun s => lsR K L s t) 12
  | 0, _ => rfl
  | t + 1, ht => by
    have ih := sq_fl (K := K) h t (by omega)
    have h1 := flr_add (f := fun s => lsR K L s t) (m := L t) (d := K t + 1) (fun s j hj hb => lsR_nil (fun u hu hs => by
      have := h u t s j hu ht hs hb
      omega)) 12
    rw [sqR, ih, ← cb_pop, ← h1]
    rfl
theorem kvr_inj : ∀ (l1 l2 : List Nat), (∀ d, d ∈ l1 → 1 ≤ d ∧ d ≤ 3) → (∀ d, d ∈ l2 → 1 ≤ d ∧ d ≤ 3) → kvr l1 = kvr l2 → l1 = l2
  | [], [], _, _, _ => rfl
  | [], d :: l, _, h2, e => by
    have h := h2 d (List.mem_cons_self ..)
    have e : 0 = kvr l * 4 + d := e
    omega
  | d :: l, [], h1, _, e => by
    have h := h1 d (List.mem_cons_self ..)
    have e : kvr l * 4 + d = 0 := e
    omega
  | a :: l1, b :: l2, h1, h2, e => by
    have ha := h1 a (List.mem_cons_self ..)
    have hb := h2 b (List.mem_cons_self ..)
    have e : kvr l1 * 4 + a = kvr l2 * 4 + b := e
    have e1 : a = b := by omega
    have e2 := kvr_inj l1 l2 (fun d hd => h1 d (List.mem_cons_of_mem _ hd)) (fun d hd => h2 d (List.mem_cons_of_mem _ hd)) (by omega)
    rw [e1, e2]
theorem kvr_lt : ∀ (l : List Nat), (∀ d, d ∈ l → 1 ≤ d ∧ d ≤ 3) → kvr l < 4 ^ l.length
  | [], _ => by show 0 < 1; decide
  | d :: l, h => by
    have h1 := kvr_lt l (fun d hd => h d (List.mem_cons_of_mem _ hd))
    have h2 := h d (List.mem_cons_self ..)
    show kvr l * 4 + d < 4 ^ (l.length + 1)
    rw [Nat.pow_succ]
    omega
theorem sq_d {K L : Nat → Nat} : ∀ {n : Nat}, (∀ j, j < n → K j ≤ 2) → ∀ d, d ∈ sqR K L n → 1 ≤ d ∧ d ≤ 3
  | 0, _, d, hd => by cases hd
  | n + 1, h, d, hd => by
    have hd : d ∈ List.replicate (pop (L n)) (K n + 1) ++ sqR K L n := hd
    rcases List.mem_append.mp hd with h1 | h1
    · have h2 := h n (Nat.lt_succ_self n)
      rw [List.eq_of_mem_replicate h1]; omega
    · exact sq_d (fun j hj => h j (by omega)) d h1
theorem ls_d {K L : Nat → Nat} {s : Nat} : ∀ {n : Nat}, (∀ j, j < n → K j ≤ 2) → ∀ d, d ∈ lsR K L s n → 1 ≤ d ∧ d ≤ 3
  | 0, _, d, hd => by cases hd
  | n + 1, h, d, hd => by
    by_cases hb : (L n).testBit s = true
    · rw [lsR, if_pos hb] at hd
      rcases List.mem_cons.mp hd with h1 | h1
      · have h2 := h n (Nat.lt_succ_self n)
        rw [h1]; omega
      · exact ls_d (fun j hj => h j (by omega)) d h1
    · rw [lsR, if_neg hb] at hd
      exact ls_d (fun j hj => h j (by omega)) d hd
def lsV (K L : Nat → Nat) (s : Nat) : Nat → Nat → List Nat
  | 0, _ => []
  | d + 1, k => if (L k).testBit s = true then (K k + 1) :: lsV K L s d (k + 1) else lsV K L s d (k + 1)
theorem rd_kv {K L : Nat → Nat} {s : Nat} : ∀ d k, rdV9 K L s d k = kvr (lsV K L s d k)
  | 0, _ => rfl
  | d + 1, k => by
    by_cases h : (L k).testBit s = true
    · rw [rd_y h, lsV, if_pos h, rd_kv d (k + 1)]; rfl
    · rw [rd_n h, lsV, if_neg h, rd_kv d (k + 1)]
theorem ls_rev {K L : Nat → Nat} {s : Nat} : ∀ d k, (lsR K L s (k + d)).reverse = (lsR K L s k).reverse ++ lsV K L s d k
  | 0, k => by rw [lsV, List.append_nil]; rfl
  | d + 1, k => by
    rw [show k + (d + 1) = (k + 1) + d by omega, ls_rev d (k + 1)]
    by_cases h : (L k).testBit s = true
    · rw [lsR, if_pos h, lsV, if_pos h, List.reverse_cons, List.append_assoc]; rfl
    · rw [lsR, if_neg h, lsV, if_neg h]
theorem ls_v {K L : Nat → Nat} {s n : Nat} : lsV K L s n 0 = (lsR K L s n).reverse := by
  have h := ls_rev (K := K) (L := L) (s := s) n 0
  rw [Nat.zero_add] at h
  rw [h]
  rfl
theorem rd_iff {o1 o2 : Wo} {s : Nat} (h1 : ∀ j, j < o1.1 → o1.2.1 j ≤ 2) (h2 : ∀ j, j < o2.1 → o2.2.1 j ≤ 2) : rdW9 o1 s = rdW9 o2 s ↔ lsR o1.2.1 o1.2.2 s o1.1 = lsR o2.2.1 o2.2.2 s o2.1 := by
  unfold rdW9
  rw [rd_kv, rd_kv, ls_v, ls_v]
  constructor
  · intro h
    have h3 := kvr_inj _ _ (fun d hd => ls_d h1 d (List.mem_reverse.mp hd)) (fun d hd => ls_d h2 d (List.mem_reverse.mp hd)) h
    exact List.reverse_inj.mp h3
  · intro h
    rw [h]
-- how many lines each syllable has
def dg (f : Nat → Nat) : Nat → Nat
  | 0 => 0
  | s + 1 => dg f s + 16 ^ s * f s
theorem dg_lt {f : Nat → Nat} : ∀ {k : Nat}, (∀ s, s < k → f s < 16) → dg f k < 16 ^ k
  | 0, _ => by show 0 < 1; decide
  | k + 1, h => by
    have h1 := dg_lt (k := k) (fun s hs => h s (by omega))
    have h2 := h k (Nat.lt_succ_self k)
    show dg f k + 16 ^ k * f k < 16 ^ (k + 1)
    rw [Nat.pow_succ]
    have h3 : 16 ^ k * f k ≤ 16 ^ k * 15 := Nat.mul_le_mul_left _ (by omega)
    omega
theorem dg_inj {f g : Nat → Nat} : ∀ {k : Nat}, (∀ s, s < k → f s < 16) → (∀ s, s < k → g s < 16) → dg f k = dg g k → ∀ s, s < k → f s = g s
  | 0, _, _, _, s, hs => absurd hs (Nat.not_lt_zero s)
  | k + 1, hf, hg, e, s, hs => by
    have h1 := dg_lt (k := k) (fun s hs => hf s (by omega))
    have h2 := dg_lt (k := k) (fun s hs => hg s (by omega))
    have e : dg f k + 16 ^ k * f k = dg g k + 16 ^ k * g k := e
    have hp : 0 < 16 ^ k := Nat.pow_pos (by decide)
    have e1 : f k = g k := by
      have h3 := congrArg (fun x => x / 16 ^ k) e
      simp only [Nat.add_mul_div_left _ _ hp, Nat.div_eq_of_lt h1, Nat.div_eq_of_lt h2, Nat.zero_add] at h3
      exact h3
    have e2 : dg f k = dg g k := by rw [e1] at e; omega
    by_cases h : s = k
    · rw [h]; exact e1
    · exact dg_inj (fun s hs => hf s (by omega)) (fun s hs => hg s (by omega)) e2 s (by omega)
theorem dg_add {f g : Nat → Nat} : ∀ k, dg (fun s => f s + g s) k = dg f k + dg g k
  | 0 => rfl
  | k + 1 => by
    show dg (fun s => f s + g s) k + 16 ^ k * (f k + g k) = dg f k + 16 ^ k * f k + (dg g k + 16 ^ k * g k)
    rw [dg_add k, Nat.mul_add]
    omega
theorem dg_ext {f g : Nat → Nat} : ∀ {k : Nat}, (∀ s, s < k → f s = g s) → dg f k = dg g k
  | 0, _ => rfl
  | k + 1, h => by
    show dg f k + 16 ^ k * f k = dg g k + 16 ^ k * g k
    rw [dg_ext (fun s hs => h s (by omega)), h k (Nat.lt_succ_self k)]
/-- the lines of a tone, told by their syllables -/
def bsF (m : Nat) : Nat := dg (fun s => tb m s) 12
def lrF (L : Nat → Nat) : Nat → Nat
  | 0 => 0
  | t + 1 => lrF L t + bsF (L t)
theorem ls_len {K L : Nat → Nat} {s t : Nat} : (lsR K L s (t + 1)).length = (lsR K L s t).length + tb (L t) s := by
  by_cases h : (L t).testBit s = true
  · rw [lsR, if_pos h, tbo.mpr h]; rfl
  · rw [lsR, if_neg h, tbz.mpr (nb h)]; rfl
theorem lr_dg {K L : Nat → Nat} : ∀ t, lrF L t = dg (fun s => (lsR K L s t).length) 12
  | 0 => by
    have h : dg (fun s => (lsR K L s 0).length) 12 = dg (fun _ => 0) 12 := dg_ext (fun _ _ => rfl)
    rw [h]
    rfl
  | t + 1 => by
    have h : dg (fun s => (lsR K L s (t + 1)).length) 12 = dg (fun s => (lsR K L s t).length + tb (L t) s) 12 := dg_ext (fun _ _ => ls_len)
    rw [h, dg_add, ← lr_dg t]
    rfl
theorem ls_le {K L : Nat → Nat} {s : Nat} : ∀ t, (lsR K L s t).length ≤ t
  | 0 => Nat.le_refl 0
  | t + 1 => by
    have h := ls_le (K := K) (L := L) (s := s) t
    have h1 := tb01 (L t) s
    rw [ls_len]
    omega
theorem flr_inj {f g : Nat → List Nat} : ∀ {k : Nat}, (∀ s, s < k → (f s).length = (g s).length) → flr f k = flr g k → ∀ s, s < k → f s = g s
  | 0, _, _, s, hs => absurd hs (Nat.not_lt_zero s)
  | k + 1, h, e, s, hs => by
    have e : f k ++ flr f k = g k ++ flr g k := e
    have h1 := List.append_inj e (h k (Nat.lt_succ_self k))
    by_cases h2 : s = k
    · rw [h2]; exact h1.1
    · exact flr_inj (fun s hs => h s (by omega)) h1.2 s (by omega)
theorem flr_ext {f g : Nat → List Nat} : ∀ {k : Nat}, (∀ s, s < k → f s = g s) → flr f k = flr g k
  | 0, _ => rfl
  | k + 1, h => by
    show f k ++ flr f k = g k ++ flr g k
    rw [flr_ext (fun s hs => h s (by omega)), h k (Nat.lt_succ_self k)]
/-- read alike -/
def rdE (q : Nat) (o1 o2 : Wo) : Prop := ∀ s, s < q → rdW9 o1 s = rdW9 o2 s
theorem rdE_iff {q : Nat} {o1 o2 : Wo} (k1 : okW q o1) (k2 : okW q o2) (n1 : ncW o1) (n2 : ncW o2) : (kvr (sqR o1.2.1 o1.2.2 o1.1) = kvr (sqR o2.2.1 o2.2.2 o2.1) ∧ lrF o1.2.2 o1.1 = lrF o2.2.2 o2.1) ↔ rdE q o1 o2 := by
  have d1 : ∀ j, j < o1.1 → o1.2.1 j ≤ 2 := fun j hj => (k1.2.2 j hj).1
  have d2 : ∀ j, j < o2.1 → o2.2.1 j ≤ 2 := fun j hj => (k2.2.2 j hj).1
  have f1 := sq_fl (K := o1.2.1) n1 o1.1 (Nat.le_refl _)
  have f2 := sq_fl (K := o2.2.1) n2 o2.1 (Nat.le_refl _)
  constructor
  · rintro ⟨h1, h2⟩ s hs
    have e1 := kvr_inj _ _ (sq_d d1) (sq_d d2) h1
    rw [f1, f2] at e1
    rw [lr_dg (K := o1.2.1), lr_dg (K := o2.2.1)] at h2
    have e2 := dg_inj (fun s _ => Nat.lt_of_le_of_lt (ls_le o1.1) (by have := k1.1; omega)) (fun s _ => Nat.lt_of_le_of_lt (ls_le o2.1) (by have := k2.1; omega)) h2
    have e3 := flr_inj e2 e1 s (by have := k1.2.1; omega)
    exact (rd_iff d1 d2).mpr e3
  · intro h
    have e3 : ∀ s, s < 12 → lsR o1.2.1 o1.2.2 s o1.1 = lsR o2.2.1 o2.2.2 s o2.1 := fun s _ => by
      by_cases hs : s < q
      · exact (rd_iff d1 d2).mp (h s hs)
      · rw [lsR_nil (fun u hu hb => hs (bit_lt (k1.2.2 u hu).2 hb)), lsR_nil (fun u hu hb => hs (bit_lt (k2.2.2 u hu).2 hb))]
    refine ⟨?_, ?_⟩
    · rw [f1, f2, flr_ext e3]
    · rw [lr_dg (K := o1.2.1), lr_dg (K := o2.2.1)]
      exact dg_ext (fun s hs => by rw [e3 s hs])
-- at most 23 lines
def lcF (L : Nat → Nat) : Nat → Nat := sumP (fun t => pop (L t))
theorem pop_span : ∀ m, m < 4096 → m ≠ 0 → pop m + low m ≤ hig m + 1 := dec12 (P := fun m => m ≠ 0 → pop m + low m ≤ hig m + 1) (by decide +kernel)
theorem lc_nc {n : Nat} {L : Nat → Nat} (h : ncL n L) (hL : ∀ k, k < n → L k < 4096) : ∀ t, t ≤ n → lcF L t = 0 ∨ ∃ M, M < 12 ∧ lcF L t ≤ t + M ∧ (∃ u, u < t ∧ (L u).testBit M = true) ∧ ∀ u, u < t → ∀ i, (L u).testBit i = true → i ≤ M
  | 0, _ => Or.inl rfl
  | t + 1, ht => by
    have ih := lc_nc h hL t (by omega)
    have e : lcF L (t + 1) = lcF L t + pop (L t) := rfl
    have hLt := hL t (by omega)
    by_cases h0 : L t = 0
    · have hp : pop (L t) = 0 := by rw [h0]; rfl
      rcases ih with ih | ⟨M, hM, hc, ⟨u, hu, hb⟩, ha⟩
      · exact Or.inl (by omega)
      · refine Or.inr ⟨M, hM, by omega, ⟨u, by omega, hb⟩, fun v hv i hi => ?_⟩
        by_cases h1 : v = t
        · subst h1; rw [h0, Nat.zero_testBit] at hi; cases hi
        · exact ha v (by omega) i hi
    · have hs := pop_span _ hLt h0
      have hl := low_t _ hLt h0
      have hh := hig_t _ hLt h0
      have hlh : low (L t) ≤ hig (L t) := hig_l _ hLt _ hl.2 hl.1
      refine Or.inr ⟨hig (L t), hh.2, ?_, ⟨t, Nat.lt_succ_self t, hh.1⟩, fun v hv i hi => ?_⟩
      · rcases ih with ih | ⟨M, hM, hc, ⟨u, hu, hb⟩, ha⟩
        · omega
        · have := h u t M (low (L t)) hu (by omega) hb hl.1
          omega
      · by_cases h1 : v = t
        · subst h1; exact hig_l _ hLt i (bit_lt12 hLt hi) hi
        · have := h v t i (low (L t)) (by omega) (by omega) hi hl.1
          omega
theorem sq_len {K L : Nat → Nat} : ∀ t, (sqR K L t).length = lcF L t
  | 0 => rfl
  | t + 1 => by
    show (List.replicate (pop (L t)) (K t + 1) ++ sqR K L t).length = lcF L t + pop (L t)
    rw [List.length_append, List.length_replicate, sq_len t]
    omega
theorem kv_b {q : Nat} {o : Wo} (k1 : okW q o) (n1 : ncW o) : kvr (sqR o.2.1 o.2.2 o.1) < 70368744177664 ∧ lrF o.2.2 o.1 < 281474976710656 := by
  have h1 := lc_nc n1 (fun k hk => k1.lt hk) o.1 (Nat.le_refl _)
  have h2 := kvr_lt (sqR o.2.1 o.2.2 o.1) (sq_d (fun j hj => (k1.2.2 j hj).1))
  rw [sq_len] at h2
  have hn := k1.1
  have h3 : lcF o.2.2 o.1 ≤ 23 := by
    rcases h1 with h1 | ⟨M, hM, hc, _⟩
    · omega
    · omega
  have h4 : 4 ^ lcF o.2.2 o.1 ≤ 4 ^ 23 := Nat.pow_le_pow_right (by decide) h3
  refine ⟨Nat.lt_of_lt_of_le h2 (Nat.le_trans h4 (by decide)), ?_⟩
  rw [lr_dg (K := o.2.1)]
  exact Nat.lt_of_lt_of_le (dg_lt (fun s _ => Nat.lt_of_le_of_lt (ls_le o.1) (by omega))) (by decide)
-- longs
abbrev nL (n : Nat) : Int64 := Int64.ofNat n
theorem nL_add (a b : Nat) : nL a + nL b = nL (a + b) := (Int64.ofNat_add a b).symm
theorem nL_mul (a b : Nat) : nL a * nL b = nL (a * b) := (Int64.ofNat_mul a b).symm
theorem nL_k : ∀ k, k < 3 → (zI ((k : Nat) : Int)).toInt64 = nL k := by decide +kernel
theorem kv_step {a k : Nat} (hk : k ≤ 2) : nL a * 4 + (zI ((k : Nat) : Int)).toInt64 + 1 = nL (a * 4 + (k + 1)) := by
  rw [nL_k k (by omega), show (4 : Int64) = nL 4 from rfl, show (1 : Int64) = nL 1 from rfl, nL_mul, nL_add, nL_add, Nat.add_assoc]
theorem shl_st : ∀ j, j < 12 → (1 : Int64) <<< ((zI ((4 * j : Nat) : Int)).toInt64 &&& 63) = nL (16 ^ j) := by decide +kernel
theorem bs_dec : ∀ m, m < 4096 → m ≠ 0 → 16 ^ low m + bsF (m &&& (m - 1)) = bsF m := dec12 (P := fun m => m ≠ 0 → 16 ^ low m + bsF (m &&& (m - 1)) = bsF m) (by decide +kernel)
theorem nL_inj {a b : Nat} (ha : a < 9223372036854775808) (hb : b < 9223372036854775808) (h : nL a = nL b) : a = b := by
  have h1 := congrArg (fun x : Int64 => x.toUInt64.toNat) h
  have e : ∀ n : Nat, n < 9223372036854775808 → (nL n).toUInt64.toNat = n := fun n hn => by
    show (BitVec.ofNat 64 n).toNat = n
    rw [BitVec.toNat_ofNat, Nat.mod_eq_of_lt (by omega)]
  simp only [e a ha, e b hb] at h1
  exact h1
/-- the kinds at the lines of the first tones, and of one more in part -/
def kvT (K L : Nat → Nat) (t i : Nat) : Nat := kvr (List.replicate i (K t + 1) ++ sqR K L t)
theorem kvT_s {K L : Nat → Nat} {t i : Nat} : kvT K L t i * 4 + (K t + 1) = kvT K L t (i + 1) := rfl
theorem kvT_e {K L : Nat → Nat} {t i : Nat} (h : i = pop (L t)) : kvT K L t i = kvr (sqR K L (t + 1)) := by rw [h]; rfl
theorem pop_00 {m : Nat} (h : m = 0) : pop m = 0 := by rw [h]; rfl
theorem bs_00 {m : Nat} (h : m = 0) : bsF m = 0 := by rw [h]; rfl
theorem lcmp_0 {x y : Int64} (h : lg_cmp x y = zI 0) : x = y := (lg_cmp_eq x y).mp h
theorem lcmp_n {x y : Int64} (h : lg_cmp x y ≠ zI 0) : x ≠ y := fun q => h ((lg_cmp_eq x y).mpr q)
/-- what is kept as due: the readings of a word -/
def isDu (M : Mem) (q : Nat) (o : Wo) : Prop := ∀ s, s < 12 → M.1 157 s = zI (((if s < q then rdW9 o s else 0) : Nat) : Int)
theorem du_y {q s : Nat} {o : Wo} (h : s < q) : (if s < q then rdW9 o s else 0) = rdW9 o s := if_pos h
theorem du_n {q s : Nat} {o : Wo} (h : ¬ s < q) : (if s < q then rdW9 o s else 0) = 0 := if_neg h
theorem rdE_y {q : Nat} {o1 o2 : Wo} (k1 : okW q o1) (k2 : okW q o2) (n1 : ncW o1) (n2 : ncW o2) (h1 : nL (kvr (sqR o1.2.1 o1.2.2 o1.1)) = nL (kvr (sqR o2.2.1 o2.2.2 o2.1))) (h2 : nL (lrF o1.2.2 o1.1) = nL (lrF o2.2.2 o2.1)) : rdE q o1 o2 := by
  have b1 := kv_b k1 n1
  have b2 := kv_b k2 n2
  exact (rdE_iff k1 k2 n1 n2).mp ⟨nL_inj (by omega) (by omega) h1, nL_inj (by omega) (by omega) h2⟩
theorem rdE_n1 {q : Nat} {o1 o2 : Wo} (k1 : okW q o1) (k2 : okW q o2) (n1 : ncW o1) (n2 : ncW o2) (h1 : nL (kvr (sqR o1.2.1 o1.2.2 o1.1)) ≠ nL (kvr (sqR o2.2.1 o2.2.2 o2.1))) : ¬ rdE q o1 o2 := fun h => h1 (congrArg nL ((rdE_iff k1 k2 n1 n2).mpr h).1)
theorem rdE_n2 {q : Nat} {o1 o2 : Wo} (k1 : okW q o1) (k2 : okW q o2) (n1 : ncW o1) (n2 : ncW o2) (h1 : nL (lrF o1.2.2 o1.1) ≠ nL (lrF o2.2.2 o2.1)) : ¬ rdE q o1 o2 := fun h => h1 (congrArg nL ((rdE_iff k1 k2 n1 n2).mpr h).2)
theorem RW.of157 {M : Mem} {q hv ed k : Nat} {o : Wo} {z : Int} {x : Int32} (h : RW M q hv ed o z) : RW (st M 157 k x) q hv ed o z := by
  have e : (st M 157 k x).1 148 = M.1 148 := st_ob (by decide)
  refine ⟨by unfold isR; rw [e]; exact h.1, h.2.1, h.2.2.1, h.2.2.2.1, ?_⟩
  rw [st_ob (by decide)]; exact h.2.2.2.2
