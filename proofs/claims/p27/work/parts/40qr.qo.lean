-- orders: the next one, the one with a number
def swF (g : Nat → Nat) (a b : Nat) : Nat → Nat := fun k => if k = a then g b else if k = b then g a else g k
def plD (g : Nat → Nat) : Nat → Nat
  | 0 => 0
  | k + 1 => if g (k + 1) < g k then plD g k else k + 1
def otD (g : Nat → Nat) (p : Nat) : Nat → Nat
  | 0 => 0
  | j + 1 => if p + 1 < j + 1 ∧ g (j + 1) < g p then otD g p j else j + 1
def rvF : Nat → (Nat → Nat) → Nat → Nat → (Nat → Nat)
  | 0, g, _, _ => g
  | d + 1, g, a, b => if a < b then rvF d (swF g a b) (a + 1) (b - 1) else g
def nxF (n : Nat) (g : Nat → Nat) : Nat × (Nat → Nat) := if plD g (n - 1) = 0 then (0, g) else (plD g (n - 1), rvF n (swF g (plD g (n - 1) - 1) (otD g (plD g (n - 1) - 1) (n - 1))) (plD g (n - 1)) (n - 1))
theorem plD_le {g : Nat → Nat} : ∀ k, plD g k ≤ k
  | 0 => Nat.le_refl 0
  | k + 1 => by
    have h := plD_le (g := g) k
    rw [plD]
    by_cases h1 : g (k + 1) < g k
    · rw [if_pos h1]; omega
    · rw [if_neg h1]; exact Nat.le_refl _
theorem plD_s {g : Nat → Nat} {k : Nat} (h : 1 ≤ k) (h1 : g k < g (k - 1)) : plD g k = plD g (k - 1) := by
  obtain ⟨j, rfl⟩ : ∃ j, k = j + 1 := ⟨k - 1, by omega⟩
  have h2 : g (j + 1) < g j := h1
  rw [plD, if_pos h2]
  rfl
theorem plD_e {g : Nat → Nat} {k : Nat} (h : 1 ≤ k) (h1 : ¬ g k < g (k - 1)) : plD g k = k := by
  obtain ⟨j, rfl⟩ : ∃ j, k = j + 1 := ⟨k - 1, by omega⟩
  have h2 : ¬ g (j + 1) < g j := h1
  rw [plD, if_neg h2]
theorem otD_s {g : Nat → Nat} {p j : Nat} (h : 1 ≤ j) (h1 : p + 1 < j ∧ g j < g p) : otD g p j = otD g p (j - 1) := by
  obtain ⟨i, rfl⟩ : ∃ i, j = i + 1 := ⟨j - 1, by omega⟩
  rw [otD, if_pos h1]
  rfl
theorem otD_e {g : Nat → Nat} {p j : Nat} (h : 1 ≤ j) (h1 : ¬ (p + 1 < j ∧ g j < g p)) : otD g p j = j := by
  obtain ⟨i, rfl⟩ : ∃ i, j = i + 1 := ⟨j - 1, by omega⟩
  rw [otD, if_neg h1]
theorem rv_e {g : Nat → Nat} {a b d : Nat} (h : ¬ a < b) : rvF d g a b = g := by
  cases d with
  | zero => rfl
  | succ d => rw [rvF, if_neg h]
theorem rv_s {g : Nat → Nat} {a b d : Nat} (h : a < b) (hd : 0 < d) : rvF d g a b = rvF (d - 1) (swF g a b) (a + 1) (b - 1) := by
  obtain ⟨i, rfl⟩ : ∃ i, d = i + 1 := ⟨d - 1, by omega⟩
  rw [rvF, if_pos h]
  rfl
theorem nx_z {g : Nat → Nat} {n : Nat} (h : plD g (n - 1) = 0) : nxF n g = (0, g) := by unfold nxF; rw [if_pos h]
theorem nx_y {g : Nat → Nat} {n p : Nat} (h : plD g (n - 1) = p + 1) : nxF n g = (p + 1, rvF n (swF g p (otD g p (n - 1))) (p + 1) (n - 1)) := by
  unfold nxF
  rw [if_neg (by omega), h]
  rfl
theorem swF_lt {g : Nat → Nat} {n a b c : Nat} (h : ∀ k, k < n → g k < c) (ha : a < n) (hb : b < n) : ∀ k, k < n → swF g a b k < c := fun k hk => by
  unfold swF
  by_cases h1 : k = a
  · rw [if_pos h1]; exact h b hb
  · rw [if_neg h1]
    by_cases h2 : k = b
    · rw [if_pos h2]; exact h a ha
    · rw [if_neg h2]; exact h k hk
/-- the rules that are left, one picked by one -/
def nb9 (m : Nat) : Nat → Nat
  | 0 => low m
  | k + 1 => low (andn m (2 ^ (nb9 m k + 1) - 1))
def ec : Nat → Nat → Nat → Nat
  | 0, _, _ => 0
  | k + 1, m, c => nb9 m (c % (k + 1)) + 8 * ec k (andn m (2 ^ nb9 m (c % (k + 1)))) (c / (k + 1))
def ecF (n c : Nat) : Nat := ec n (2 ^ n - 1) c
def dg8 (v i : Nat) : Nat := v / 8 ^ i % 8
def ftl : Nat → Nat
  | 0 => 1
  | n + 1 => (n + 1) * ftl n
def iv9 : Nat → Nat → Nat
  | 0, _ => 0
  | n + 1, r => r / ftl n + (n + 1) * iv9 n (r % ftl n)
def pi9 : Nat → Nat → Nat
  | 0, _ => 0
  | n + 1, c => c % (n + 1) * ftl n + pi9 n (c / (n + 1))
/-- the order with a rank, the first place at which it is another than the last -/
def odG (n t : Nat) : Nat → Nat := dg8 (ecF n (iv9 n t))
def odK (n : Nat) : Nat → Nat
  | 0 => 1
  | t + 1 => (nxF n (odG n t)).1
def frc (x : Nat) (f : Nat → Bool) : Bool := match x with
  | 0 => f 0
  | k + 1 => f (k + 1)
theorem frc_eq (x : Nat) (f : Nat → Bool) : frc x f = f x := by cases x <;> rfl
def alb (p : Nat → Bool) : Nat → Bool
  | 0 => true
  | k + 1 => p k && alb p k
theorem alb_of {p : Nat → Bool} : ∀ {k : Nat}, alb p k = true → ∀ i, i < k → p i = true
  | 0, _, i, hi => absurd hi (Nat.not_lt_zero i)
  | k + 1, h, i, hi => by
    rw [alb, Bool.and_eq_true] at h
    by_cases e : i = k
    · rw [e]; exact h.1
    · exact alb_of h.2 i (by omega)
def ckA9 (n t : Nat) : Bool := frc (ecF n (iv9 n t)) fun v => frc (ecF n (iv9 n (t + 1))) fun v2 => alb (fun i => Nat.blt (dg8 v i) n) n && (if t + 1 < ftl n then Nat.blt 0 (nxF n (dg8 v)).1 && Nat.ble (nxF n (dg8 v)).1 n && alb (fun i => Nat.beq ((nxF n (dg8 v)).2 i) (dg8 v2 i)) n && alb (fun i => Nat.beq (dg8 v2 i) (dg8 v i)) ((nxF n (dg8 v)).1 - 1) else Nat.beq (nxF n (dg8 v)).1 0)
def ckB9 (n t : Nat) : Bool := Nat.blt (pi9 n t) (ftl n) && Nat.blt (iv9 n t) (ftl n) && Nat.beq (iv9 n (pi9 n t)) t && Nat.beq (pi9 n (iv9 n t)) t
theorem ck_0 : alb (fun n => alb (ckB9 n) (ftl n)) 7 = true := by decide +kernel
theorem ck_1 : alb (fun n => alb (ckA9 n) (ftl n)) 6 = true := by decide +kernel
theorem ck_2 : alb (ckA9 6) 720 = true := by decide +kernel
theorem ck_3 : alb (fun n => alb (fun i => Nat.beq (odG n 0 i) i) n) 7 = true := by decide +kernel
theorem fct6 : ftl 6 = 720 := by decide
theorem fct_b {n : Nat} (h : n ≤ 6) : 1 ≤ ftl n ∧ ftl n ≤ 720 := (by decide : ∀ n, n < 7 → 1 ≤ ftl n ∧ ftl n ≤ 720) n (by omega)
theorem ckA_of {n t : Nat} (hn : n ≤ 6) (ht : t < ftl n) : ckA9 n t = true := by
  by_cases h : n = 6
  · subst h; exact alb_of ck_2 t (by rw [fct6] at ht; exact ht)
  · exact alb_of (alb_of (p := fun n => alb (ckA9 n) (ftl n)) ck_1 n (by omega)) t ht
theorem ckB_of {n t : Nat} (hn : n ≤ 6) (ht : t < ftl n) : pi9 n t < ftl n ∧ iv9 n t < ftl n ∧ iv9 n (pi9 n t) = t ∧ pi9 n (iv9 n t) = t := by
  have h := alb_of (alb_of (p := fun n => alb (ckB9 n) (ftl n)) ck_0 n (by omega)) t ht
  unfold ckB9 at h
  simp only [Bool.and_eq_true, Nat.blt_eq, Nat.beq_eq] at h
  exact ⟨h.1.1.1, h.1.1.2, h.1.2, h.2⟩
theorem od_0 {n i : Nat} (hn : n ≤ 6) (hi : i < n) : odG n 0 i = i := Nat.eq_of_beq_eq_true (alb_of (alb_of (p := fun n => alb (fun i => Nat.beq (odG n 0 i) i) n) ck_3 n (by omega)) i hi)
theorem od_ck {n t : Nat} (hn : n ≤ 6) (ht : t < ftl n) : (alb (fun i => Nat.blt (odG n t i) n) n && (if t + 1 < ftl n then Nat.blt 0 (nxF n (odG n t)).1 && Nat.ble (nxF n (odG n t)).1 n && alb (fun i => Nat.beq ((nxF n (odG n t)).2 i) (odG n (t + 1) i)) n && alb (fun i => Nat.beq (odG n (t + 1) i) (odG n t i)) ((nxF n (odG n t)).1 - 1) else Nat.beq (nxF n (odG n t)).1 0)) = true := by
  have h := ckA_of hn ht
  unfold ckA9 at h
  rw [frc_eq, frc_eq] at h
  exact h
theorem od_lt {n t : Nat} (hn : n ≤ 6) (ht : t < ftl n) : ∀ i, i < n → odG n t i < n := fun i hi => by
  have h := od_ck hn ht
  rw [Bool.and_eq_true] at h
  exact Nat.blt_eq.mp (alb_of h.1 i hi)
theorem od_nx {n t : Nat} (hn : n ≤ 6) (ht : t + 1 < ftl n) : 0 < odK n (t + 1) ∧ odK n (t + 1) ≤ n ∧ (∀ i, i < n → (nxF n (odG n t)).2 i = odG n (t + 1) i) ∧ ∀ i, i + 1 < odK n (t + 1) → odG n (t + 1) i = odG n t i := by
  have h := od_ck hn (show t < ftl n by omega)
  rw [Bool.and_eq_true, if_pos ht, Bool.and_eq_true, Bool.and_eq_true, Bool.and_eq_true] at h
  exact ⟨Nat.blt_eq.mp h.2.1.1.1, Nat.ble_eq.mp h.2.1.1.2, fun i hi => Nat.eq_of_beq_eq_true (alb_of h.2.1.2 i hi), fun i hi => Nat.eq_of_beq_eq_true (alb_of h.2.2 i (by have hi : i + 1 < (nxF n (odG n t)).1 := hi; omega))⟩
theorem od_end {n t : Nat} (hn : n ≤ 6) (ht : t + 1 = ftl n) : odK n (t + 1) = 0 := by
  have h := od_ck hn (show t < ftl n by omega)
  rw [Bool.and_eq_true, if_neg (by omega)] at h
  exact Nat.eq_of_beq_eq_true h.2
theorem odK_le {n t : Nat} (hn : n ≤ 6) (ht : t < ftl n) : 0 < odK n t ∧ (odK n t ≤ n ∨ t = 0) := by
  cases t with
  | zero => exact ⟨Nat.zero_lt_one, Or.inr rfl⟩
  | succ t => exact ⟨(od_nx hn ht).1, Or.inl (od_nx hn ht).2.1⟩
theorem odK_z {n t : Nat} (hn : n ≤ 6) (ht : t = ftl n) : odK n t = 0 := by
  have hb := fct_b hn
  obtain ⟨s, rfl⟩ : ∃ s, t = s + 1 := ⟨t - 1, by omega⟩
  exact od_end hn ht
theorem odK_c {n t : Nat} (hn : n ≤ 6) (ht : t ≤ ftl n) : (odK n t ≤ n ∨ odK n t = 1) ∧ (t = ftl n → odK n t = 0) ∧ (t < ftl n → 0 < odK n t) := by
  by_cases h : t < ftl n
  · refine ⟨?_, fun e => absurd h (by omega), fun _ => (odK_le hn h).1⟩
    rcases (odK_le hn h).2 with h1 | h1
    · exact Or.inl h1
    · refine Or.inr ?_
      rw [h1]
      rfl
  · have e : t = ftl n := by omega
    have z := odK_z hn e
    exact ⟨Or.inl (by omega), fun _ => z, fun h9 => absurd h9 h⟩
-- picks
theorem nb_t : ∀ m, m < 64 → ∀ j, j < 6 → j < pop m → nb9 m j < 6 ∧ m.testBit (nb9 m j) = true ∧ andn m (2 ^ nb9 m j) < 64 ∧ pop (andn m (2 ^ nb9 m j)) + 1 = pop m := by decide +kernel
theorem nb_s : ∀ m, m < 64 → ∀ j, j < 6 → j + 1 < pop m → andn m (2 ^ (nb9 m j + 1) - 1) ≠ 0 ∧ andn m (2 ^ (nb9 m j + 1) - 1) < 64 := by decide +kernel
theorem nb_1 {m : Nat} (h : m < 64) : pop m ≤ 6 ∧ (pop m = 0 → m = 0) := (by decide +kernel : ∀ m, m < 64 → pop m ≤ 6 ∧ (pop m = 0 → m = 0)) m h
theorem nb_f : ∀ n, n < 7 → pop (2 ^ n - 1) = n ∧ 2 ^ n - 1 < 64 := by decide +kernel
theorem dg8_0 {d e : Nat} (h : d < 8) : dg8 (d + 8 * e) 0 = d := by
  unfold dg8
  rw [Nat.pow_zero, Nat.div_one]
  omega
theorem dg8_s {d e i : Nat} (h : d < 8) : dg8 (d + 8 * e) (i + 1) = dg8 e i := by
  unfold dg8
  rw [show 8 ^ (i + 1) = 8 * 8 ^ i by rw [Nat.pow_succ, Nat.mul_comm], ← Nat.div_div_eq_div_mul, show (d + 8 * e) / 8 = e by omega]
/-- rules worked in an order that is told as the reference does -/
noncomputable def rsW (Ps : Nat → Nat → Int) (q hv ed : Nat) : Nat → Nat → Nat → Wo → Wo
  | 0, _, _, o => o
  | k + 1, m, c, o => rsW Ps q hv ed k (andn m (2 ^ nb9 m (c % (k + 1)))) (c / (k + 1)) (pfF (Ps (nb9 m (c % (k + 1)))) q hv ed 20 o).1
theorem rsw_s {Ps : Nat → Nat → Int} {q hv ed s m c d : Nat} {o o2 : Wo} {x : Nat × Nat} (hs : 1 ≤ s) (hd : nb9 m (c % s) = d) (e : pfF (Ps d) q hv ed 20 o = (o2, x)) : rsW Ps q hv ed s m c o = rsW Ps q hv ed (s - 1) (andn m (2 ^ d)) (c / s) o2 := by
  obtain ⟨k, rfl⟩ : ∃ k, s = k + 1 := ⟨s - 1, by omega⟩
  rw [rsW, hd, e]
  rfl
theorem sw_front {Ps : Nat → Nat → Int} {q hv ed : Nat} {f : Nat → Nat} {o : Wo} : ∀ k, swW Ps q hv ed f (k + 1) o = swW Ps q hv ed (fun i => f (i + 1)) k (pfF (Ps (f 0)) q hv ed 20 o).1
  | 0 => rfl
  | k + 1 => by
    rw [swW, sw_front k]
    rfl
theorem sw_cg {Ps : Nat → Nat → Int} {q hv ed : Nat} {f g : Nat → Nat} {o : Wo} : ∀ k, (∀ i, i < k → f i = g i) → swW Ps q hv ed f k o = swW Ps q hv ed g k o
  | 0, _ => rfl
  | k + 1, h => by rw [swW, swW, sw_cg k (fun i hi => h i (by omega)), h k (Nat.lt_succ_self k)]
theorem rs_sw {Ps : Nat → Nat → Int} {q hv ed : Nat} : ∀ k m c (o : Wo), m < 64 → pop m = k → rsW Ps q hv ed k m c o = swW Ps q hv ed (dg8 (ec k m c)) k o
  | 0, _, _, _, _, _ => rfl
  | k + 1, m, c, o, hm, hp => by
    have hc := Nat.mod_lt c (show 0 < k + 1 by omega)
    have h6 := (nb_1 hm).1
    have h := nb_t m hm (c % (k + 1)) (by omega) (by omega)
    rw [rsW, rs_sw k _ _ _ h.2.2.1 (by omega), sw_front, ec, dg8_0 (by omega)]
    exact sw_cg k (fun i _ => (dg8_s (by omega)).symm)
/-- the words of all orders: by rank, by number -/
noncomputable def odW (Ps : Nat → Nat → Int) (m : Nat) (x : Fw) (t : Nat) : Wo := swW Ps x.1 x.2.1 x.2.2.1 (odG m t) m x.2.2.2
noncomputable def odR (Ps : Nat → Nat → Int) (m : Nat) (x : Fw) (c : Nat) : Wo := rsW Ps x.1 x.2.1 x.2.2.1 m (2 ^ m - 1) c x.2.2.2
theorem od_rw {Ps : Nat → Nat → Int} {m c : Nat} {x : Fw} (hm : m ≤ 6) (hc : c < ftl m) : odR Ps m x c = odW Ps m x (pi9 m c) := by
  have h := nb_f m (by omega)
  unfold odR odW
  rw [rs_sw m _ _ _ h.2 h.1]
  unfold odG
  rw [(ckB_of hm hc).2.2.1]
  rfl
-- unlike readings
def rdk9 (q : Nat) (o : Wo) : List Nat := (List.range q).map (rdW9 o)
theorem rdK_iff {q : Nat} {a b : Wo} : rdE q a b ↔ rdk9 q a = rdk9 q b := by
  unfold rdE rdk9
  rw [List.map_inj_left]
  constructor
  · intro h s hs; exact h s (List.mem_range.mp hs)
  · intro h s hs; exact h s (List.mem_range.mpr hs)
noncomputable def rpF (q : Nat) (w : Nat → Wo) : Nat → List Nat
  | 0 => []
  | t + 1 => if yn (∃ i, i ∈ rpF q w t ∧ rdE q (w i) (w t)) = 1 then rpF q w t else rpF q w t ++ [t]
theorem rp_y {q t : Nat} {w : Nat → Wo} (h : ∃ i, i ∈ rpF q w t ∧ rdE q (w i) (w t)) : rpF q w (t + 1) = rpF q w t := by rw [rpF, if_pos (yn_1 h)]
theorem rp_n {q t : Nat} {w : Nat → Wo} (h : ¬ ∃ i, i ∈ rpF q w t ∧ rdE q (w i) (w t)) : rpF q w (t + 1) = rpF q w t ++ [t] := by rw [rpF, if_neg (by rw [yn_0 h]; decide)]
theorem rp_lt {q : Nat} {w : Nat → Wo} : ∀ {t : Nat}, (∀ i, i ∈ rpF q w t → i < t) ∧ (rpF q w t).length ≤ t
  | 0 => ⟨fun i hi => (by cases hi), Nat.le_refl 0⟩
  | t + 1 => by
    have h := rp_lt (q := q) (w := w) (t := t)
    by_cases h1 : ∃ i, i ∈ rpF q w t ∧ rdE q (w i) (w t)
    · rw [rp_y h1]; exact ⟨fun i hi => Nat.lt_succ_of_lt (h.1 i hi), Nat.le_succ_of_le h.2⟩
    · rw [rp_n h1]
      refine ⟨fun i hi => ?_, ?_⟩
      · rcases List.mem_append.mp hi with h2 | h2
        · exact Nat.lt_succ_of_lt (h.1 i h2)
        · rw [List.mem_singleton.mp h2]; exact Nat.lt_succ_self t
      · rw [List.length_append]; exact Nat.succ_le_succ h.2
theorem rp_nd {q : Nat} {w : Nat → Wo} : ∀ t, ((rpF q w t).map (fun i => rdk9 q (w i))).Nodup
  | 0 => List.nodup_nil
  | t + 1 => by
    have h := rp_nd (q := q) (w := w) t
    by_cases h1 : ∃ i, i ∈ rpF q w t ∧ rdE q (w i) (w t)
    · rw [rp_y h1]; exact h
    · rw [rp_n h1, List.map_append, List.nodup_append]
      refine ⟨h, List.nodup_cons.mpr ⟨fun h9 => (by cases h9), List.nodup_nil⟩, fun a ha b hb e => ?_⟩
      obtain ⟨i, hi, rfl⟩ := List.mem_map.mp ha
      have hb : b = rdk9 q (w t) := List.mem_singleton.mp hb
      exact h1 ⟨i, hi, rdK_iff.mpr (e.trans hb)⟩
theorem rp_cov {q : Nat} {w : Nat → Wo} : ∀ {t s : Nat}, s < t → ∃ i, i ∈ rpF q w t ∧ rdE q (w i) (w s)
  | 0, s, hs => absurd hs (Nat.not_lt_zero s)
  | t + 1, s, hs => by
    by_cases h1 : ∃ i, i ∈ rpF q w t ∧ rdE q (w i) (w t)
    · rw [rp_y h1]
      by_cases e : s = t
      · rw [e]; exact h1
      · exact rp_cov (by omega)
    · rw [rp_n h1]
      by_cases e : s = t
      · rw [e]; exact ⟨t, List.mem_append.mpr (Or.inr (List.mem_singleton.mpr rfl)), fun _ _ => rfl⟩
      · obtain ⟨i, hi, h⟩ := rp_cov (q := q) (w := w) (show s < t by omega)
        exact ⟨i, List.mem_append.mpr (Or.inl hi), h⟩
theorem rp_le {q T T2 : Nat} {w w2 : Nat → Wo} (h : ∀ t, t < T → ∃ s, s < T2 ∧ w t = w2 s) : (rpF q w T).length ≤ (rpF q w2 T2).length := by
  have h1 := List.Nodup.length_le_of_subset (rp_nd (q := q) (w := w) T) (l₂ := (rpF q w2 T2).map (fun i => rdk9 q (w2 i))) (fun a ha => by
    obtain ⟨i, hi, rfl⟩ := List.mem_map.mp ha
    obtain ⟨s, hs, e⟩ := h i (rp_lt.1 i hi)
    obtain ⟨j, hj, hr⟩ := rp_cov (q := q) (w := w2) hs
    exact List.mem_map.mpr ⟨j, hj, by rw [e]; exact rdK_iff.mp hr⟩)
  rw [List.length_map, List.length_map] at h1
  exact h1
theorem rp_cg {q : Nat} {w w2 : Nat → Wo} : ∀ {t : Nat}, (∀ s, s < t → w s = w2 s) → rpF q w t = rpF q w2 t
  | 0, _ => rfl
  | t + 1, h => by
    have e := rp_cg (q := q) (w := w) (w2 := w2) (t := t) (fun s hs => h s (by omega))
    have et := h t (Nat.lt_succ_self t)
    by_cases h1 : ∃ i, i ∈ rpF q w t ∧ rdE q (w i) (w t)
    · obtain ⟨i, hi, hr⟩ := h1
      rw [rp_y ⟨i, hi, hr⟩, rp_y ⟨i, by rw [← e]; exact hi, by rw [← h i (Nat.lt_succ_of_lt (rp_lt.1 i hi)), ← et]; exact hr⟩]
      exact e
    · rw [rp_n h1, rp_n (fun h2 => h1 (by
        obtain ⟨i, hi, hr⟩ := h2
        rw [← e] at hi
        exact ⟨i, hi, by rw [h i (Nat.lt_succ_of_lt (rp_lt.1 i hi)), et]; exact hr⟩)), e]
noncomputable def smF (q : Nat) (w : Nat → Wo) (d : Wo) : Nat → Nat
  | 0 => 0
  | t + 1 => smF q w d t + yn (rdE q (w t) d)
theorem sm_y {q t : Nat} {w : Nat → Wo} {d : Wo} (h : rdE q (w t) d) : smF q w d (t + 1) = smF q w d t + 1 := by rw [smF, yn_1 h]
theorem sm_n {q t : Nat} {w : Nat → Wo} {d : Wo} (h : ¬ rdE q (w t) d) : smF q w d (t + 1) = smF q w d t := by rw [smF, yn_0 h]; rfl
theorem sm_le {q : Nat} {w : Nat → Wo} {d : Wo} : ∀ t, smF q w d t ≤ t
  | 0 => Nat.le_refl 0
  | t + 1 => by
    have h := sm_le (q := q) (w := w) (d := d) t
    have h1 : yn (rdE q (w t) d) ≤ 1 := yn_le
    show smF q w d t + yn (rdE q (w t) d) ≤ t + 1
    omega
theorem sm_cg {q : Nat} {w w2 : Nat → Wo} {d : Wo} : ∀ {t : Nat}, (∀ s, s < t → w s = w2 s) → smF q w d t = smF q w2 d t
  | 0, _ => rfl
  | t + 1, h => by rw [smF, smF, sm_cg (fun s hs => h s (by omega)), h t (Nat.lt_succ_self t)]
noncomputable def smP (q : Nat) (w : Nat → Wo) (d : Wo) (t : Nat) : Bool := Nat.beq (yn (rdE q (w t) d)) 1
theorem sm_cnt {q : Nat} {w : Nat → Wo} {d : Wo} : ∀ t, smF q w d t = (List.range t).countP (smP q w d)
  | 0 => rfl
  | t + 1 => by
    rw [List.range_succ, List.countP_append, ← sm_cnt t]
    by_cases h : rdE q (w t) d
    · have e : smP q w d t = true := by unfold smP; rw [yn_1 h]; rfl
      rw [sm_y h, List.countP_singleton, if_pos e]
    · have e : smP q w d t = false := by unfold smP; rw [yn_0 h]; rfl
      rw [sm_n h, List.countP_singleton, if_neg (by rw [e]; decide)]
      rfl
theorem pi_perm {n : Nat} (hn : n ≤ 6) : ((List.range (ftl n)).map (pi9 n)).Perm (List.range (ftl n)) := by
  refine (List.perm_ext_iff_of_nodup ?_ List.nodup_range).mpr (fun a => ⟨fun h => ?_, fun h => ?_⟩)
  · refine List.pairwise_map.mpr (List.Pairwise.imp_of_mem (fun {a b} ha hb hne he => hne ?_) List.nodup_range)
    rw [← (ckB_of hn (List.mem_range.mp ha)).2.2.1, ← (ckB_of hn (List.mem_range.mp hb)).2.2.1, he]
  · obtain ⟨c, hc, rfl⟩ := List.mem_map.mp h
    exact List.mem_range.mpr (ckB_of hn (List.mem_range.mp hc)).1
  · have h1 := ckB_of hn (List.mem_range.mp h)
    exact List.mem_map.mpr ⟨iv9 n a, List.mem_range.mpr h1.2.1, h1.2.2.2⟩
theorem sm_pi {q n : Nat} {w w2 : Nat → Wo} {d : Wo} (hn : n ≤ 6) (h : ∀ c, c < ftl n → w2 c = w (pi9 n c)) : smF q w2 d (ftl n) = smF q w d (ftl n) := by
  rw [sm_cg (w2 := fun c => w (pi9 n c)) h, sm_cnt, sm_cnt, ← (pi_perm hn).countP_eq (smP q w d), List.countP_map]
  rfl
theorem rp_pi {q n : Nat} {w w2 : Nat → Wo} (hn : n ≤ 6) (h : ∀ c, c < ftl n → w2 c = w (pi9 n c)) : (rpF q w2 (ftl n)).length = (rpF q w (ftl n)).length := by
  refine Nat.le_antisymm (rp_le (fun c hc => ⟨pi9 n c, (ckB_of hn hc).1, h c hc⟩)) (rp_le (fun t ht => ⟨iv9 n t, (ckB_of hn ht).2.1, ?_⟩))
  rw [h _ (ckB_of hn ht).2.1, (ckB_of hn ht).2.2.2]
/-- the answers -/
noncomputable def odU (Ps : Nat → Nat → Int) (m : Nat) (x : Fw) : Nat := (rpF x.1 (odW Ps m x) (ftl m)).length
noncomputable def odS (Ps : Nat → Nat → Int) (m : Nat) (x : Fw) : Nat := smF x.1 (odW Ps m x) (sg9 Ps x m) (ftl m)
noncomputable def odA (Ps : Nat → Nat → Int) (m : Nat) (w : Int) (x : Fw) : Int := if 0 ≤ w ∧ w ≤ 1 then (if 6 < m then -2 else if w = 0 then ((odU Ps m x : Nat) : Int) else ((odS Ps m x : Nat) : Int)) else -1
theorem odA_n {Ps : Nat → Nat → Int} {m : Nat} {w : Int} {x : Fw} (h : ¬ (0 ≤ w ∧ w ≤ 1)) : odA Ps m w x = -1 := by unfold odA; rw [if_neg h]
theorem odA_b {Ps : Nat → Nat → Int} {m : Nat} {w : Int} {x : Fw} (h : 0 ≤ w ∧ w ≤ 1) (hm : 6 < m) : odA Ps m w x = -2 := by unfold odA; rw [if_pos h, if_pos hm]
theorem odA_0 {Ps : Nat → Nat → Int} {m : Nat} {w : Int} {x : Fw} (h : w = 0) (hm : m ≤ 6) : odA Ps m w x = ((odU Ps m x : Nat) : Int) := by unfold odA; rw [if_pos (by omega), if_neg (by omega), if_pos h]
theorem odA_1 {Ps : Nat → Nat → Int} {m : Nat} {w : Int} {x : Fw} (h : w = 1) (hm : m ≤ 6) : odA Ps m w x = ((odS Ps m x : Nat) : Int) := by unfold odA; rw [if_pos (by omega), if_neg (by omega), if_neg (by omega)]
theorem sw_l {Ps : Nat → Nat → Int} {m q hv ed hv2 ed2 : Nat} {f : Nat → Nat} {o : Wo} (hG : ∀ j, j < m → okG (Ps j)) (hk : okW q o) (h1 : lkB q hv hv2) (h2 : lkB q ed ed2) : ∀ k, (∀ i, i < k → f i < m) → swW Ps q hv ed f k o = swW Ps q hv2 ed2 f k o ∧ okW q (swW Ps q hv ed f k o)
  | 0, _ => ⟨rfl, hk⟩
  | k + 1, h => by
    have ih := sw_l hG hk h1 h2 k (fun i hi => h i (by omega))
    have e := pfF_l (hG (f k) (h k (Nat.lt_succ_self k))) h1 h2 20 _ ih.2
    refine ⟨?_, e.2⟩
    rw [swW, swW, ← ih.1, e.1]
theorem nc_sw {Ps : Nat → Nat → Int} {m q hv ed : Nat} {f : Nat → Nat} {o : Wo} (hG : ∀ j, j < m → okG (Ps j)) (hn : ncW o) : ∀ k, (∀ i, i < k → f i < m) → ncW (swW Ps q hv ed f k o)
  | 0, _ => hn
  | k + 1, h => nc_pfF (hG (f k) (h k (Nat.lt_succ_self k))) 20 _ (nc_sw hG hn k (fun i hi => h i (by omega)))
theorem al_ord {Ps : Nat → Nat → Int} {m q hv ed hv2 ed2 : Nat} {o : Wo} {w : Int} (hG : ∀ j, j < m → okG (Ps j)) (hk : okW q o) (h1 : lkB q hv hv2) (h2 : lkB q ed ed2) : odA Ps m w (q, hv, ed, o) = odA Ps m w (q, hv2, ed2, o) := by
  by_cases h : 0 ≤ w ∧ w ≤ 1
  · by_cases hm : 6 < m
    · rw [odA_b h hm, odA_b h hm]
    · have e : ∀ t, t < ftl m → odW Ps m (q, hv, ed, o) t = odW Ps m (q, hv2, ed2, o) t := fun t ht => (sw_l hG hk h1 h2 m (od_lt (by omega) ht)).1
      have eU : odU Ps m (q, hv, ed, o) = odU Ps m (q, hv2, ed2, o) := congrArg List.length (rp_cg (q := q) e)
      have eS : odS Ps m (q, hv, ed, o) = odS Ps m (q, hv2, ed2, o) := by
        unfold odS
        rw [(sg9_l (n := m) hG hk h1 h2 (Nat.le_refl m)).1]
        exact sm_cg e
      unfold odA
      rw [if_pos h, if_pos h, eU, eS]
  · rw [odA_n h, odA_n h]
-- what lies in memory
def isO (M : Mem) (n : Nat) (g : Nat → Nat) : Prop := ∀ k, k < n → M.1 110 k = zI ((g k : Nat) : Int)
theorem isO.fr {M M1 : Mem} {n : Nat} {g : Nat → Nat} (h : isO M n g) (e : M1.1 110 = M.1 110) : isO M1 n g := fun k hk => by rw [e]; exact h k hk
theorem isO.cg {M : Mem} {n : Nat} {g g2 : Nat → Nat} (h : isO M n g) (e : ∀ k, k < n → g k = g2 k) : isO M n g2 := fun k hk => by rw [← e k hk]; exact h k hk
theorem isO.sw {M : Mem} {n a b : Nat} {g : Nat → Nat} (h : isO M n g) : isO (st (st M 110 a (zI ((g b : Nat) : Int))) 110 b (zI ((g a : Nat) : Int))) n (swF g a b) := fun k hk => by
  unfold swF
  by_cases h2 : k = b
  · subst h2
    rw [st_at]
    by_cases h1 : k = a
    · rw [if_pos h1, h1]
    · rw [if_neg h1, if_pos rfl]
  · rw [st_ne (Or.inr h2)]
    by_cases h1 : k = a
    · subst h1; rw [st_at, if_pos rfl]
    · rw [st_ne (Or.inr h1), if_neg h1, if_neg h2]; exact h k hk
def KVl (o : Wo) : Int64 := nL (kvr (sqR o.2.1 o.2.2 o.1))
def LRl (o : Wo) : Int64 := nL (lrF o.2.2 o.1)
def isE (M : Mem) (w : Nat → Wo) (l : List Nat) : Prop := M.1 109 1 = zI ((l.length : Nat) : Int) ∧ ∀ j, j < l.length → M.2 112 j = KVl (w (l.getD j 0)) ∧ M.2 113 j = LRl (w (l.getD j 0))
theorem isE.fr {M M1 : Mem} {w : Nat → Wo} {l : List Nat} (h : isE M w l) (e : M1.1 109 1 = M.1 109 1) (e2 : M1.2 = M.2) : isE M1 w l := ⟨e.trans h.1, fun j hj => by rw [e2]; exact h.2 j hj⟩
theorem gdo_l {l : List Nat} {t j : Nat} (h : j < l.length) : (l ++ [t]).getD j 0 = l.getD j 0 := by rw [List.getD_eq_getElem?_getD, List.getD_eq_getElem?_getD, List.getElem?_append_left h]
theorem gdo_r {l : List Nat} {t : Nat} : (l ++ [t]).getD l.length 0 = t := by
  rw [List.getD_eq_getElem?_getD, List.getElem?_append_right (Nat.le_refl _), Nat.sub_self]
  rfl
theorem gd_m {l : List Nat} {j : Nat} (h : j < l.length) : l.getD j 0 ∈ l := by
  rw [List.getD_eq_getElem?_getD, List.getElem?_eq_getElem h]
  exact List.getElem_mem h
theorem m_gd {l : List Nat} {i : Nat} (h : i ∈ l) : ∃ j, j < l.length ∧ l.getD j 0 = i := by
  obtain ⟨j, hj, e⟩ := List.mem_iff_getElem.mp h
  refine ⟨j, hj, ?_⟩
  rw [List.getD_eq_getElem?_getD, List.getElem?_eq_getElem hj]
  exact e
theorem rp_n9 {q t : Nat} {w : Nat → Wo} (h : ∀ j, j < (rpF q w t).length → ¬ rdE q (w ((rpF q w t).getD j 0)) (w t)) : rpF q w (t + 1) = rpF q w t ++ [t] := rp_n (fun h1 => by
  obtain ⟨i, hi, hr⟩ := h1
  obtain ⟨j, hj, e⟩ := m_gd hi
  exact h j hj (by rw [e]; exact hr))
theorem sL_at {M : Mem} {a k : Nat} {x : Int64} : (sL M a k x).2 a k = x := by
  show (if a = a then vp_updL (M.2 a) k x else M.2 a) k = x
  rw [if_pos rfl]
  simp [vp_updL]
theorem sL_ne {M : Mem} {a k b j : Nat} {x : Int64} (h : b ≠ a ∨ j ≠ k) : (sL M a k x).2 b j = M.2 b j := by
  show (if b = a then vp_updL (M.2 a) k x else M.2 b) j = M.2 b j
  by_cases h1 : b = a
  · subst h1
    rw [if_pos rfl]
    rcases h with h | h
    · exact absurd rfl h
    · simp [vp_updL, h]
  · rw [if_neg h1]
theorem isE.add {M : Mem} {w : Nat → Wo} {l : List Nat} {t : Nat} (h : isE M w l) : isE (st (sL (sL M 112 l.length (KVl (w t))) 113 l.length (LRl (w t))) 109 1 (zI ((l.length + 1 : Nat) : Int))) w (l ++ [t]) := by
  refine ⟨?_, fun j hj => ?_⟩
  · rw [List.length_append]; exact st_at
  · rw [List.length_append] at hj
    have hj : j < l.length + 1 := hj
    show (sL (sL M 112 l.length (KVl (w t))) 113 l.length (LRl (w t))).2 112 j = _ ∧ (sL (sL M 112 l.length (KVl (w t))) 113 l.length (LRl (w t))).2 113 j = _
    by_cases e : j = l.length
    · subst e
      rw [gdo_r, sL_ne (Or.inl (by decide)), sL_at, sL_at]
      exact ⟨rfl, rfl⟩
    · rw [gdo_l (by omega), sL_ne (Or.inl (by decide)), sL_ne (Or.inr e), sL_ne (Or.inr e), sL_ne (Or.inl (by decide))]
      exact h.2 j (by omega)
/-- what the class keeps of orders: out of date, or so -/
def JO9 (M : Mem) (Ps : Nat → Nat → Int) (m : Nat) (x : Fw) : Prop := M.1 109 0 = zI 0 ∨ (M.1 109 0 = zI 1 ∧ M.1 109 1 = zI ((odU Ps m x : Nat) : Int) ∧ M.1 109 2 = zI ((odS Ps m x : Nat) : Int))
theorem JO9.fr {M M1 : Mem} {Ps : Nat → Nat → Int} {m : Nat} {x : Fw} (h : JO9 M Ps m x) (e : M1.1 109 = M.1 109) : JO9 M1 Ps m x := by
  unfold JO9
  rw [e]
  exact h
theorem nx_1 {g : Nat → Nat} {n : Nat} (h : plD g (n - 1) = 0) : (-1 : Int) = (((nxF n g).1 : Nat) : Int) - 1 := by
  rw [nx_z h]
  show (-1 : Int) = ((0 : Nat) : Int) - 1
  decide
theorem nx_2 {g : Nat → Nat} {n p : Nat} (h : plD g (n - 1) = p + 1) : (p : Int) = (((nxF n g).1 : Nat) : Int) - 1 := by
  rw [nx_y h]
  show (p : Int) = ((p + 1 : Nat) : Int) - 1
  omega
theorem nxm_z {M : Mem} {g : Nat → Nat} {n : Nat} (h : plD g (n - 1) = 0) (hO : isO M n g) : isO M n (nxF n g).2 := by rw [nx_z h]; exact hO
theorem nxm_y {M : Mem} {g : Nat → Nat} {n p j : Nat} (h : plD g (n - 1) = p + 1) (hj : j = otD g p (n - 1)) (hO : isO M n (rvF n (swF g p j) (p + 1) (n - 1))) : isO M n (nxF n g).2 := by
  rw [nx_y h, ← hj]
  exact hO
def FrN (M1 M : Mem) : Prop := (∀ b, b ≠ 109 → M1.1 b = M.1 b) ∧ ∀ k, k ≠ 1 → M1.1 109 k = M.1 109 k
theorem FrN.rf {M : Mem} : FrN M M := ⟨fun _ _ => rfl, fun _ _ => rfl⟩
theorem FrN.s {M : Mem} {a b i j : Nat} {x y : Int64} {v : Int32} : FrN (st (sL (sL M a i x) b j y) 109 1 v) M := ⟨fun b h => st_ob h, fun k hk => st_ne (Or.inr hk)⟩
def FrL9 (M1 M : Mem) : Prop := (∀ b, b ≠ 23 → (b < 114 ∨ 135 ≤ b) → M1.1 b = M.1 b) ∧ M1.2 = M.2
theorem FrL9.rf {M : Mem} : FrL9 M M := ⟨fun _ _ _ => rfl, rfl⟩
theorem FrL9.cp {M M1 M2 M3 : Mem} {a : Nat} (h : FrL9 M1 M) (h2 : Fr3 M2 M1 a) (h3 : Fr4 M3 M2 a) (ha : 114 ≤ a ∧ a + 2 < 135) : FrL9 M3 M := ⟨fun b hb hb2 => (h3.1 b (by omega) (by omega) (by omega) hb).trans ((h2.1 b (by omega) (by omega) (by omega)).trans (h.1 b hb hb2)), h3.2.trans (h2.2.trans h.2)⟩
theorem CS.lv {M M1 : Mem} {Ps : Nat → Nat → Int} {m rd k : Nat} {x : Fw} {Hs : Nat → Fw} (h : CS M Ps m x rd Hs k) (hF : FrL9 M1 M) : CS M1 Ps m x rd Hs k := h.fr (hF.1 22 (by decide) (by decide)) (fun b a1 a2 => hF.1 b (by omega) (by omega))
theorem swo_s {Ps : Nat → Nat → Int} {q hv ed j : Nat} {f : Nat → Nat} {o o2 : Wo} {c : Nat × Nat} (e : pfF (Ps (f j)) q hv ed 20 (swW Ps q hv ed f j o) = (o2, c)) : swW Ps q hv ed f (j + 1) o = o2 := by rw [swW, e]
theorem h_kR {l : Launch} {D : va_G} {B : Nat} {cy : Nat → ClassId} {M : Mem} {a q hv ed : Nat} {o : Wo} (hk : kd a = (9, 0, 0)) (hC : CW M a q hv ed o) : Cl l D B cy yX9_kindsRead cX9_kindsRead 5 0 0 [.ref (B + a)] M (fun r M1 => r = KVl o ∧ M1 = M) := h_kindsRead hk hC
theorem h_lR {l : Launch} {D : va_G} {B : Nat} {cy : Nat → ClassId} {M : Mem} {a q hv ed : Nat} {o : Wo} (hk : kd a = (9, 0, 0)) (hC : CW M a q hv ed o) : Cl l D B cy yX9_linesRead cX9_linesRead 5 2 40 [.ref (B + a)] M (fun r M1 => r = LRl o ∧ M1 = M) := h_linesRead hk hC
theorem rdl_y {q : Nat} {o1 o2 : Wo} (k1 : okW q o1 ∧ ncW o1) (k2 : okW q o2 ∧ ncW o2) (h1 : KVl o1 = KVl o2) (h2 : LRl o1 = LRl o2) : rdE q o1 o2 := rdE_y k1.1 k2.1 k1.2 k2.2 h1 h2
theorem rdl_1 {q : Nat} {o1 o2 : Wo} (k1 : okW q o1 ∧ ncW o1) (k2 : okW q o2 ∧ ncW o2) (h1 : KVl o1 ≠ KVl o2) : ¬ rdE q o1 o2 := rdE_n1 k1.1 k2.1 k1.2 k2.2 h1
theorem rdl_2 {q : Nat} {o1 o2 : Wo} (k1 : okW q o1 ∧ ncW o1) (k2 : okW q o2 ∧ ncW o2) (h1 : LRl o1 ≠ LRl o2) : ¬ rdE q o1 o2 := rdE_n2 k1.1 k2.1 k1.2 k2.2 h1
theorem kW_od {Ps : Nat → Nat → Int} {m q hv ed : Nat} {o : Wo} (hm : m ≤ 6) (hG : ∀ j, j < m → okG (Ps j)) (hk : okW q o) (hn : ncW o) : ∀ t, t < ftl m → okW q (odW Ps m (q, hv, ed, o) t) ∧ ncW (odW Ps m (q, hv, ed, o) t) := fun t ht => ⟨(sw_l hG hk lkB.rf lkB.rf m (od_lt hm ht)).2, nc_sw hG hn m (od_lt hm ht)⟩
-- the reference's rows of readings
def duV (q : Nat) (o : Wo) (s : Nat) : Nat := if s < q then rdW9 o s else 0
theorem duV_y {q s : Nat} {o : Wo} (h : s < q) : duV q o s = rdW9 o s := if_pos h
theorem duV_n {q s : Nat} {o : Wo} (h : ¬ s < q) : duV q o s = 0 := if_neg h
theorem duV_b {q s : Nat} {o : Wo} (h : okW q o) : duV q o s < 16777216 := by
  unfold duV
  by_cases h1 : s < q
  · rw [if_pos h1]; exact rdW_b h
  · rw [if_neg h1]; decide
theorem duV_iff {q : Nat} {a b : Wo} (hq : q ≤ 12) : (∀ s, s < 12 → duV q a s = duV q b s) ↔ rdE q a b := by
  constructor
  · intro h s hs
    have h1 := h s (by omega)
    rw [duV_y hs, duV_y hs] at h1
    exact h1
  · intro h s hs
    by_cases h1 : s < q
    · rw [duV_y h1, duV_y h1]; exact h s h1
    · rw [duV_n h1, duV_n h1]
def isY (M : Mem) (q : Nat) (w : Nat → Wo) (l : List Nat) : Prop := M.1 146 25 = zI ((l.length : Nat) : Int) ∧ ∀ j, j < l.length → ∀ s, s < 12 → M.1 158 (12 * j + s) = zI ((duV q (w (l.getD j 0)) s : Nat) : Int)
theorem isY.fr {M M1 : Mem} {q : Nat} {w : Nat → Wo} {l : List Nat} (h : isY M q w l) (e : M1.1 146 25 = M.1 146 25) (e2 : M1.1 158 = M.1 158) : isY M1 q w l := ⟨e.trans h.1, fun j hj s hs => by rw [e2]; exact h.2 j hj s hs⟩
theorem isY.add {M : Mem} {q t : Nat} {w : Nat → Wo} {l : List Nat} (h : ∀ j, j < l.length → ∀ s, s < 12 → M.1 158 (12 * j + s) = zI ((duV q (w (l.getD j 0)) s : Nat) : Int)) (h2 : ∀ s, s < 12 → M.1 158 (12 * l.length + s) = zI ((duV q (w t) s : Nat) : Int)) : isY (st M 146 25 (zI ((l.length + 1 : Nat) : Int))) q w (l ++ [t]) := by
  refine ⟨?_, fun j hj s hs => ?_⟩
  · rw [List.length_append]; exact st_at
  · rw [List.length_append] at hj
    have hj : j < l.length + 1 := hj
    rw [st_ob (by decide)]
    by_cases e : j = l.length
    · subst e; rw [gdo_r]; exact h2 s hs
    · rw [gdo_l (by omega)]; exact h j (by omega) s hs
def FrV (M1 M : Mem) : Prop := (∀ b, b ≠ 146 → b ≠ 158 → M1.1 b = M.1 b) ∧ ∀ k, k ≠ 25 → M1.1 146 k = M.1 146 k
theorem RW.of158 {M : Mem} {q hv ed k : Nat} {o : Wo} {z : Int} {x : Int32} (h : RW M q hv ed o z) : RW (st M 158 k x) q hv ed o z := by
  have e : (st M 158 k x).1 148 = M.1 148 := st_ob (by decide)
  refine ⟨by unfold isR; rw [e]; exact h.1, h.2.1, h.2.2.1, h.2.2.2.1, ?_⟩
  rw [st_ob (by decide)]; exact h.2.2.2.2
theorem andn_t {m b i : Nat} (h : (andn m b).testBit i = true) : m.testBit i = true := by
  unfold andn at h
  rw [Nat.testBit_xor, Nat.testBit_and] at h
  cases hm : m.testBit i with
  | true => rfl
  | false => rw [hm] at h; simp at h
theorem fct_i {j : Nat} (h : 1 ≤ j) : ((ftl (j - 1) : Nat) : Int) * (j : Int) = ((ftl j : Nat) : Int) := by
  obtain ⟨i, rfl⟩ : ∃ i, j = i + 1 := ⟨j - 1, by omega⟩
  rw [← Int.natCast_mul]
  exact congrArg _ (Nat.mul_comm _ _)
theorem tb_full {n j : Nat} (h : (2 ^ n - 1).testBit j = true) : j < n := by
  rw [Nat.testBit_two_pow_sub_one] at h
  exact of_decide_eq_true h
theorem wdX3_exchange_0 : decode cX3_exchange 0 = .ok (.aload_n 0, 1) := dX3_exchange_0
theorem wdX3_exchange_1 : decode cX3_exchange 1 = .ok (.getfield 22, 3) := dX3_exchange_1
theorem wtb_465 : Cond.fieldLink "ToneLines$Orders" 22 "ToneLines$Orders" "order" "[I" ∈ TB := tb_210
theorem wdX3_exchange_4 : decode cX3_exchange 4 = .ok (.iload_n 1, 1) := dX3_exchange_4
theorem wdX3_exchange_5 : decode cX3_exchange 5 = .ok (.iaload, 1) := dX3_exchange_5
theorem wdX3_exchange_6 : decode cX3_exchange 6 = .ok (.istore_n 3, 1) := dX3_exchange_6
theorem wdX3_exchange_7 : decode cX3_exchange 7 = .ok (.aload_n 0, 1) := dX3_exchange_7
theorem wdX3_exchange_8 : decode cX3_exchange 8 = .ok (.getfield 22, 3) := dX3_exchange_8
theorem wdX3_exchange_11 : decode cX3_exchange 11 = .ok (.iload_n 1, 1) := dX3_exchange_11
theorem wdX3_exchange_12 : decode cX3_exchange 12 = .ok (.aload_n 0, 1) := dX3_exchange_12
theorem wdX3_exchange_13 : decode cX3_exchange 13 = .ok (.getfield 22, 3) := dX3_exchange_13
theorem wdX3_exchange_16 : decode cX3_exchange 16 = .ok (.iload_n 2, 1) := dX3_exchange_16
theorem wdX3_exchange_17 : decode cX3_exchange 17 = .ok (.iaload, 1) := dX3_exchange_17
theorem wdX3_exchange_18 : decode cX3_exchange 18 = .ok (.iastore, 1) := dX3_exchange_18
theorem wdX3_exchange_19 : decode cX3_exchange 19 = .ok (.aload_n 0, 1) := dX3_exchange_19
theorem wdX3_exchange_20 : decode cX3_exchange 20 = .ok (.getfield 22, 3) := dX3_exchange_20
theorem wdX3_exchange_23 : decode cX3_exchange 23 = .ok (.iload_n 2, 1) := dX3_exchange_23
theorem wdX3_exchange_24 : decode cX3_exchange 24 = .ok (.iload_n 3, 1) := dX3_exchange_24
theorem wdX3_exchange_25 : decode cX3_exchange 25 = .ok (.iastore, 1) := dX3_exchange_25
theorem wdX3_exchange_26 : decode cX3_exchange 26 = .ok (.return_, 1) := dX3_exchange_26
set_option maxRecDepth 4000 in
theorem h_oexch {l : Launch} {D : va_G} {B : Nat} {cy : Nat → ClassId} {M : Mem} {n a b : Nat} {g8 : Nat → Nat} (hO : isO M n g8) (hn : n ≤ 6) (ha9 : a < n) (hb9 : b < n) (hg8 : ∀ k, k < n → g8 k < 8) : Cv l D B cy yX3_exchange cX3_exchange 4 0 0 [.ref (B + 109), .int (zI (a : Int)), .int (zI (b : Int))] M (fun M1 => isO M1 n (swF g8 a b) ∧ Fr1 M1 M 110) := by
  refine s_any (by decide) (Nat.le_of_ble_eq_true rfl) ?_
  intro p e s m below meth c ls F hr hlocks w hl
  have F : CallFix p m c cX3_exchange 4 s _ TB RX3 := F
  have hx := F.1
  have hb := F.2.1
  have hl : lv_has ls 4 [(0, .ref (B + 109)), (1, .int (zI (a : Int))), (2, .int (zI (b : Int)))] := hl
  have hga := hg8 a ha9
  have hgb := hg8 b hb9
  refine lv_aload_n hx hb wdX3_exchange_0 rfl (lv_at hl 0 rfl) ?_
  refine f_3_3 F w (a := 109) rfl wtb_465 wdX3_exchange_1 ?_
  refine lv_iload_n hx hb wdX3_exchange_4 rfl (lv_at hl 1 rfl) ?_
  refine g_iald F w (a := 110) rfl (j := a) (ix_n (by omega)) (by omega) wdX3_exchange_5 ?_
  refine r_val (v := (zI (((g8 a) : Nat) : Int))) (hO a (by omega)) ?_
  refine lv_istore_n (lv' := [(3, .int (zI (((g8 a) : Nat) : Int))), (0, .ref (B + 109)), (1, .int (zI (a : Int))), (2, .int (zI (b : Int)))]) hx hb wdX3_exchange_6 rfl hl (by decide) rfl (fun ls hl => ?_)
  refine lv_aload_n hx hb wdX3_exchange_7 rfl (lv_at hl 1 rfl) ?_
  refine f_3_3 F w (a := 109) rfl wtb_465 wdX3_exchange_8 ?_
  refine lv_iload_n hx hb wdX3_exchange_11 rfl (lv_at hl 2 rfl) ?_
  refine lv_aload_n hx hb wdX3_exchange_12 rfl (lv_at hl 1 rfl) ?_
  refine f_3_3 F w (a := 109) rfl wtb_465 wdX3_exchange_13 ?_
  refine lv_iload_n hx hb wdX3_exchange_16 rfl (lv_at hl 3 rfl) ?_
  refine g_iald F w (a := 110) rfl (j := b) (ix_n (by omega)) (by omega) wdX3_exchange_17 ?_
  refine r_val (v := (zI (((g8 b) : Nat) : Int))) (hO b (by omega)) ?_
  refine g_iast F w (a := 110) rfl (j := a) (ix_n (by omega)) (by omega) wdX3_exchange_18 (fun H locs w => ?_)
  refine lv_aload_n hx hb wdX3_exchange_19 rfl (lv_at hl 1 rfl) ?_
  refine f_3_3 F w (a := 109) rfl wtb_465 wdX3_exchange_20 ?_
  refine lv_iload_n hx hb wdX3_exchange_23 rfl (lv_at hl 3 rfl) ?_
  refine lv_iload_n hx hb wdX3_exchange_24 rfl (lv_at hl 0 rfl) ?_
  refine g_iast F w (a := 110) rfl (j := b) (ix_n (by omega)) (by omega) wdX3_exchange_25 (fun H locs w => ?_)
  exact e_v F w hr hlocks ⟨hO.sw, Fr1.t2 Fr1.s Fr1.s⟩ wdX3_exchange_26
theorem wdX3_nextOrder_0 : decode cX3_nextOrder 0 = .ok (.iload_n 1, 1) := dX3_nextOrder_0
theorem wdX3_nextOrder_1 : decode cX3_nextOrder 1 = .ok (.iconst 2, 1) := dX3_nextOrder_1
theorem wdX3_nextOrder_2 : decode cX3_nextOrder 2 = .ok (.isub, 1) := dX3_nextOrder_2
theorem wdX3_nextOrder_3 : decode cX3_nextOrder 3 = .ok (.istore_n 2, 1) := dX3_nextOrder_3
theorem wdX3_nextOrder_4 : decode cX3_nextOrder 4 = .ok (.iload_n 2, 1) := dX3_nextOrder_4
theorem wdX3_nextOrder_5 : decode cX3_nextOrder 5 = .ok (.ifCond .lt 26, 3) := dX3_nextOrder_5
theorem wdX3_nextOrder_31 : decode cX3_nextOrder 31 = .ok (.iload_n 2, 1) := dX3_nextOrder_31
theorem wdX3_nextOrder_32 : decode cX3_nextOrder 32 = .ok (.ifCond .ge 5, 3) := dX3_nextOrder_32
theorem wdX3_nextOrder_35 : decode cX3_nextOrder 35 = .ok (.iconst (-1), 1) := dX3_nextOrder_35
theorem wdX3_nextOrder_36 : decode cX3_nextOrder 36 = .ok (.ireturn, 1) := dX3_nextOrder_36
set_option maxRecDepth 4000 in
theorem h_next0 {l : Launch} {D : va_G} {B : Nat} {cy : Nat → ClassId} {M : Mem}  : Ci l D B cy yX3_nextOrder cX3_nextOrder 6 (some .int) 0 0 [.ref (B + 109), .int (zI 0)] M (fun r M1 => r = zI (-1) ∧ M1 = M) := by
  refine s_any (by decide) (Nat.le_of_ble_eq_true rfl) ?_
  intro p e s m below meth c ls F hr hlocks w hl
  have F : CallFix p m c cX3_nextOrder 6 s _ TB RX3 := F
  have hx := F.1
  have hb := F.2.1
  have hl : lv_has ls 6 [(0, .ref (B + 109)), (1, .int (zI 0))] := hl
  refine lv_iload_n hx hb wdX3_nextOrder_0 rfl (lv_at hl 1 rfl) ?_
  refine lv_iconst (v := zI 2) hx hb wdX3_nextOrder_1 rfl ?_
  refine z_isub (z := (-2)) hx hb wdX3_nextOrder_2 (by decide) ?_
  refine lv_istore_n (lv' := [(2, .int (zI (-2))), (0, .ref (B + 109)), (1, .int (zI 0))]) hx hb wdX3_nextOrder_3 rfl hl (by decide) rfl (fun ls hl => ?_)
  refine lv_iload_n hx hb wdX3_nextOrder_4 rfl (lv_at hl 0 rfl) ?_
  refine z_if_lt (tgt := 31) hx hb (by omega) wdX3_nextOrder_5 (by decide) (fun c1 => ?_) (fun c1 => False.elim (by omega))
  refine lv_iload_n hx hb wdX3_nextOrder_31 rfl (lv_at hl 0 rfl) ?_
  refine z_if_ge (tgt := 37) hx hb (by omega) wdX3_nextOrder_32 (by decide) (fun c2 => False.elim (by omega)) (fun c2 => ?_)
  refine lv_iconst (v := zI (-1)) hx hb wdX3_nextOrder_35 rfl ?_
  exact e_i F w hr hlocks ⟨rfl, rfl⟩ wdX3_nextOrder_36
theorem wdX3_nextOrder_8 : decode cX3_nextOrder 8 = .ok (.aload_n 0, 1) := dX3_nextOrder_8
theorem wdX3_nextOrder_9 : decode cX3_nextOrder 9 = .ok (.getfield 22, 3) := dX3_nextOrder_9
theorem wdX3_nextOrder_12 : decode cX3_nextOrder 12 = .ok (.iload_n 2, 1) := dX3_nextOrder_12
theorem wdX3_nextOrder_13 : decode cX3_nextOrder 13 = .ok (.iaload, 1) := dX3_nextOrder_13
theorem wdX3_nextOrder_14 : decode cX3_nextOrder 14 = .ok (.aload_n 0, 1) := dX3_nextOrder_14
theorem wdX3_nextOrder_15 : decode cX3_nextOrder 15 = .ok (.getfield 22, 3) := dX3_nextOrder_15
theorem wdX3_nextOrder_18 : decode cX3_nextOrder 18 = .ok (.iload_n 2, 1) := dX3_nextOrder_18
theorem wdX3_nextOrder_19 : decode cX3_nextOrder 19 = .ok (.iconst 1, 1) := dX3_nextOrder_19
theorem wdX3_nextOrder_20 : decode cX3_nextOrder 20 = .ok (.iadd, 1) := dX3_nextOrder_20
theorem wdX3_nextOrder_21 : decode cX3_nextOrder 21 = .ok (.iaload, 1) := dX3_nextOrder_21
theorem wdX3_nextOrder_22 : decode cX3_nextOrder 22 = .ok (.if_icmp .le 9, 3) := dX3_nextOrder_22
theorem wdX3_nextOrder_25 : decode cX3_nextOrder 25 = .ok (.iinc 2 (-1), 3) := dX3_nextOrder_25
theorem wdX3_nextOrder_28 : decode cX3_nextOrder 28 = .ok (.goto (-24), 3) := dX3_nextOrder_28
set_option maxRecDepth 4000 in
theorem lp_X3_next1 {p : Program} {l : Launch} {e : Env} {s : State} {m : MethodId} {args : Array Value} {below : List Frame} {meth : Method} {c : Code} {D : va_G} {B : Nat} {cy : Nat → ClassId} {H0 : Heap} {Q : State → Prop} {M : Mem} {R : Room} {n : Nat} {g8 : Nat → Nat} (F : CallFix p m c cX3_nextOrder 6 s args TB RX3) (hR1 : 0 ≤ R.frames) (hR2 : 0 ≤ R.locals) (hO : isO M n g8) (hn : n ≤ 6) (hn1 : 1 ≤ n) (hg8 : ∀ k, k < n → g8 k < 8) (kk : ∀ (k : Nat) (H : Heap) (locs : List Loc) (ls : Array Slot), (k = plD g8 (n - 1)) → Wd D B cy s H0 M H locs → lv_has ls 6 [(2, .int (zI ((k : Int) - 1))), (0, .ref (B + 109)), (1, .int (zI (n : Int)))] → W p l e R s m args below meth c H locs 0 0 Q (F0 m 31 ls [])) : ∀ (f : Nat) (k : Nat), (k + 1 ≤ n) → (plD g8 (n - 1) = plD g8 k) → (k ≤ f) → ∀ (H : Heap) (locs : List Loc) (ls : Array Slot), Wd D B cy s H0 M H locs → lv_has ls 6 [(2, .int (zI ((k : Int) - 1))), (0, .ref (B + 109)), (1, .int (zI (n : Int)))] → W p l e R s m args below meth c H locs 0 0 Q (F0 m 4 ls []) := by
  have hx := F.1
  have hb := F.2.1
  intro f
  induction f with
  | zero =>
    intro k i0 i1 hf H locs ls w hl
    refine lv_iload_n hx hb wdX3_nextOrder_4 rfl (lv_at hl 0 rfl) ?_
    refine z_if_lt (tgt := 31) hx hb (by omega) wdX3_nextOrder_5 (by decide) (fun c1 => ?_) (fun c1 => False.elim (by omega))
    exact kk k _ _ ls (by have e9 : k = 0 := (by omega); subst e9; exact i1.symm) w (lv_sub hl [0, 1, 2] rfl)
  | succ f ih =>
    intro k i0 i1 hf H locs ls w hl
    refine lv_iload_n hx hb wdX3_nextOrder_4 rfl (lv_at hl 0 rfl) ?_
    refine z_if_lt (tgt := 31) hx hb (by omega) wdX3_nextOrder_5 (by decide) (fun c1 => ?_) (fun c1 => ?_)
    · exact kk k _ _ ls (by have e9 : k = 0 := (by omega); subst e9; exact i1.symm) w (lv_sub hl [0, 1, 2] rfl)
    · refine lv_aload_n hx hb wdX3_nextOrder_8 rfl (lv_at hl 1 rfl) ?_
      refine f_3_3 F w (a := 109) rfl wtb_465 wdX3_nextOrder_9 ?_
      refine lv_iload_n hx hb wdX3_nextOrder_12 rfl (lv_at hl 0 rfl) ?_
      refine g_iald F w (a := 110) rfl (j := (Int.toNat ((k : Int) - 1))) (ix_z (by omega) (by omega)) (by omega) wdX3_nextOrder_13 ?_
      have hg1 := hg8 (k - 1) (by omega)
      refine r_val (v := (zI (((g8 (k - 1)) : Nat) : Int))) ((by rw [show Int.toNat ((k : Int) - 1) = k - 1 by omega]; exact hO (k - 1) (by omega))) ?_
      refine lv_aload_n hx hb wdX3_nextOrder_14 rfl (lv_at hl 1 rfl) ?_
      refine f_3_3 F w (a := 109) rfl wtb_465 wdX3_nextOrder_15 ?_
      refine lv_iload_n hx hb wdX3_nextOrder_18 rfl (lv_at hl 0 rfl) ?_
      refine lv_iconst (v := zI 1) hx hb wdX3_nextOrder_19 rfl ?_
      refine z_iadd (z := (((k : Int) - 1) + 1)) hx hb wdX3_nextOrder_20 (by omega) ?_
      refine g_iald F w (a := 110) rfl (j := (Int.toNat (((k : Int) - 1) + 1))) (ix_z (by omega) (by omega)) (by omega) wdX3_nextOrder_21 ?_
      have hg2 := hg8 k (by omega)
      refine r_val (v := (zI (((g8 k) : Nat) : Int))) ((by rw [show Int.toNat (((k : Int) - 1) + 1) = k by omega]; exact hO k (by omega))) ?_
      refine z_icmp_le (tgt := 31) hx hb (by omega) (by omega) wdX3_nextOrder_22 (by decide) (fun c4 => ?_) (fun c4 => ?_)
      · exact kk k _ _ ls (by have e9 := plD_e (g := g8) (k := k) (by omega) (by omega); omega) w (lv_sub hl [0, 1, 2] rfl)
      · refine z_iinc (v := (((k : Int) - 1) - 1)) (lv' := [(2, .int (zI (((k : Int) - 1) - 1))), (0, .ref (B + 109)), (1, .int (zI (n : Int)))]) hx hb wdX3_nextOrder_25 hl (k := 0) rfl (by omega) (by decide) rfl (fun ls hl => ?_)
        refine lv_goto (tgt := 4) hx hb wdX3_nextOrder_28 (by decide) ?_
        replace hl : lv_has ls 6 [(2, .int (zI ((((k - 1) : Nat) : Int) - 1))), (0, .ref (B + 109)), (1, .int (zI (n : Int)))] := by rw [show (((k - 1 : Nat) : Int) - 1) = ((k : Int) - 1) - 1 by omega]; exact hl
        exact ih (k - 1) (by omega) (i1.trans (plD_s (by omega) (by omega))) (by omega) _ _ ls w (lv_sub hl [0, 1, 2] rfl)
theorem wdX3_nextOrder_41 : decode cX3_nextOrder 41 = .ok (.iload_n 3, 1) := dX3_nextOrder_41
theorem wdX3_nextOrder_42 : decode cX3_nextOrder 42 = .ok (.iload_n 2, 1) := dX3_nextOrder_42
theorem wdX3_nextOrder_43 : decode cX3_nextOrder 43 = .ok (.iconst 1, 1) := dX3_nextOrder_43
theorem wdX3_nextOrder_44 : decode cX3_nextOrder 44 = .ok (.iadd, 1) := dX3_nextOrder_44
theorem wdX3_nextOrder_45 : decode cX3_nextOrder 45 = .ok (.if_icmp .le 24, 3) := dX3_nextOrder_45
theorem wdX3_nextOrder_48 : decode cX3_nextOrder 48 = .ok (.aload_n 0, 1) := dX3_nextOrder_48
theorem wdX3_nextOrder_49 : decode cX3_nextOrder 49 = .ok (.getfield 22, 3) := dX3_nextOrder_49
theorem wdX3_nextOrder_52 : decode cX3_nextOrder 52 = .ok (.iload_n 3, 1) := dX3_nextOrder_52
theorem wdX3_nextOrder_53 : decode cX3_nextOrder 53 = .ok (.iaload, 1) := dX3_nextOrder_53
theorem wdX3_nextOrder_54 : decode cX3_nextOrder 54 = .ok (.aload_n 0, 1) := dX3_nextOrder_54
theorem wdX3_nextOrder_55 : decode cX3_nextOrder 55 = .ok (.getfield 22, 3) := dX3_nextOrder_55
theorem wdX3_nextOrder_58 : decode cX3_nextOrder 58 = .ok (.iload_n 2, 1) := dX3_nextOrder_58
theorem wdX3_nextOrder_59 : decode cX3_nextOrder 59 = .ok (.iaload, 1) := dX3_nextOrder_59
theorem wdX3_nextOrder_60 : decode cX3_nextOrder 60 = .ok (.if_icmp .ge 9, 3) := dX3_nextOrder_60
theorem wdX3_nextOrder_63 : decode cX3_nextOrder 63 = .ok (.iinc 3 (-1), 3) := dX3_nextOrder_63
theorem wdX3_nextOrder_66 : decode cX3_nextOrder 66 = .ok (.goto (-25), 3) := dX3_nextOrder_66
set_option maxRecDepth 4000 in
theorem lp_X3_next2 {p : Program} {l : Launch} {e : Env} {s : State} {m : MethodId} {args : Array Value} {below : List Frame} {meth : Method} {c : Code} {D : va_G} {B : Nat} {cy : Nat → ClassId} {H0 : Heap} {Q : State → Prop} {M : Mem} {R : Room} {n : Nat} {g8 : Nat → Nat} {p9 : Nat} (F : CallFix p m c cX3_nextOrder 6 s args TB RX3) (hR1 : 0 ≤ R.frames) (hR2 : 0 ≤ R.locals) (hO : isO M n g8) (hn : n ≤ 6) (hn1 : 1 ≤ n) (hg8 : ∀ k, k < n → g8 k < 8) (kk : ∀ (j : Nat) (H : Heap) (locs : List Loc) (ls : Array Slot), (j = otD g8 p9 (n - 1)) → (j < n) → (p9 + 1 ≤ j) → Wd D B cy s H0 M H locs → lv_has ls 6 [(3, .int (zI (j : Int))), (2, .int (zI (p9 : Int))), (0, .ref (B + 109)), (1, .int (zI (n : Int)))] → W p l e R s m args below meth c H locs 0 0 Q (F0 m 69 ls [])) : ∀ (f : Nat) (j : Nat), (j < n) → (p9 + 1 ≤ j) → (otD g8 p9 (n - 1) = otD g8 p9 j) → (j ≤ f) → ∀ (H : Heap) (locs : List Loc) (ls : Array Slot), Wd D B cy s H0 M H locs → lv_has ls 6 [(3, .int (zI (j : Int))), (2, .int (zI (p9 : Int))), (0, .ref (B + 109)), (1, .int (zI (n : Int)))] → W p l e R s m args below meth c H locs 0 0 Q (F0 m 41 ls []) := by
  have hx := F.1
  have hb := F.2.1
  intro f
  induction f with
  | zero =>
    intro j i0 i1 i2 hf H locs ls w hl
    refine lv_iload_n hx hb wdX3_nextOrder_41 rfl (lv_at hl 0 rfl) ?_
    refine lv_iload_n hx hb wdX3_nextOrder_42 rfl (lv_at hl 1 rfl) ?_
    refine lv_iconst (v := zI 1) hx hb wdX3_nextOrder_43 rfl ?_
    refine z_iadd (z := (((p9 + 1) : Nat) : Int)) hx hb wdX3_nextOrder_44 (by omega) ?_
    refine z_icmp_le (tgt := 69) hx hb (by omega) (by omega) wdX3_nextOrder_45 (by decide) (fun c1 => ?_) (fun c1 => False.elim (by omega))
    exact kk j _ _ ls (by have e9 := otD_e (g := g8) (p := p9) (j := j) (by omega) (by omega); omega) i0 i1 w (lv_sub hl [0, 1, 2, 3] rfl)
  | succ f ih =>
    intro j i0 i1 i2 hf H locs ls w hl
    refine lv_iload_n hx hb wdX3_nextOrder_41 rfl (lv_at hl 0 rfl) ?_
    refine lv_iload_n hx hb wdX3_nextOrder_42 rfl (lv_at hl 1 rfl) ?_
    refine lv_iconst (v := zI 1) hx hb wdX3_nextOrder_43 rfl ?_
    refine z_iadd (z := (((p9 + 1) : Nat) : Int)) hx hb wdX3_nextOrder_44 (by omega) ?_
    refine z_icmp_le (tgt := 69) hx hb (by omega) (by omega) wdX3_nextOrder_45 (by decide) (fun c1 => ?_) (fun c1 => ?_)
    · exact kk j _ _ ls (by have e9 := otD_e (g := g8) (p := p9) (j := j) (by omega) (by omega); omega) i0 i1 w (lv_sub hl [0, 1, 2, 3] rfl)
    · refine lv_aload_n hx hb wdX3_nextOrder_48 rfl (lv_at hl 2 rfl) ?_
      refine f_3_3 F w (a := 109) rfl wtb_465 wdX3_nextOrder_49 ?_
      refine lv_iload_n hx hb wdX3_nextOrder_52 rfl (lv_at hl 0 rfl) ?_
      refine g_iald F w (a := 110) rfl (j := j) (ix_n (by omega)) (by omega) wdX3_nextOrder_53 ?_
      have hg1 := hg8 j (by omega)
      refine r_val (v := (zI (((g8 j) : Nat) : Int))) (hO j (by omega)) ?_
      refine lv_aload_n hx hb wdX3_nextOrder_54 rfl (lv_at hl 2 rfl) ?_
      refine f_3_3 F w (a := 109) rfl wtb_465 wdX3_nextOrder_55 ?_
      refine lv_iload_n hx hb wdX3_nextOrder_58 rfl (lv_at hl 1 rfl) ?_
      refine g_iald F w (a := 110) rfl (j := p9) (ix_n (by omega)) (by omega) wdX3_nextOrder_59 ?_
      have hg2 := hg8 p9 (by omega)
      refine r_val (v := (zI (((g8 p9) : Nat) : Int))) (hO p9 (by omega)) ?_
      refine z_icmp_ge (tgt := 69) hx hb (by omega) (by omega) wdX3_nextOrder_60 (by decide) (fun c4 => ?_) (fun c4 => ?_)
      · exact kk j _ _ ls (by have e9 := otD_e (g := g8) (p := p9) (j := j) (by omega) (by omega); omega) i0 i1 w (lv_sub hl [0, 1, 2, 3] rfl)
      · refine z_iinc (v := ((j : Int) - 1)) (lv' := [(3, .int (zI ((j : Int) - 1))), (2, .int (zI (p9 : Int))), (0, .ref (B + 109)), (1, .int (zI (n : Int)))]) hx hb wdX3_nextOrder_63 hl (k := 0) rfl (by omega) (by decide) rfl (fun ls hl => ?_)
        refine lv_goto (tgt := 41) hx hb wdX3_nextOrder_66 (by decide) ?_
        replace hl : lv_has ls 6 [(3, .int (zI (((j - 1) : Nat) : Int))), (2, .int (zI (p9 : Int))), (0, .ref (B + 109)), (1, .int (zI (n : Int)))] := by rw [show ((j - 1 : Nat) : Int) = (j : Int) - 1 by omega]; exact hl
        exact ih (j - 1) (by omega) (by omega) (i2.trans (otD_s (by omega) ⟨by omega, by omega⟩)) (by omega) _ _ ls w (lv_sub hl [0, 1, 2, 3] rfl)
theorem wdX3_nextOrder_85 : decode cX3_nextOrder 85 = .ok (.iload 4, 2) := dX3_nextOrder_85
theorem wdX3_nextOrder_87 : decode cX3_nextOrder 87 = .ok (.iload 5, 2) := dX3_nextOrder_87
theorem wdX3_nextOrder_89 : decode cX3_nextOrder 89 = .ok (.if_icmp .ge 20, 3) := dX3_nextOrder_89
theorem wdX3_nextOrder_92 : decode cX3_nextOrder 92 = .ok (.aload_n 0, 1) := dX3_nextOrder_92
theorem wdX3_nextOrder_93 : decode cX3_nextOrder 93 = .ok (.iload 4, 2) := dX3_nextOrder_93
theorem wdX3_nextOrder_95 : decode cX3_nextOrder 95 = .ok (.iload 5, 2) := dX3_nextOrder_95
theorem wdX3_nextOrder_97 : decode cX3_nextOrder 97 = .ok (.invokevirtual 86, 3) := dX3_nextOrder_97
theorem wtk_X3_exchange : Cond.code yX3_exchange cX3_exchange 4 none ∈ TB := tk_X3_exchange
theorem wgc_X3_exchange : GoodIn TB (cw yX3_exchange cX3_exchange 4 none) := goodIn_c2 wtk_X3_exchange
theorem wtb_466 : Cond.methodLink "ToneLines$Orders" 86 yX3_exchange ∈ TB := tb_211
theorem wtb_467 : Cond.instanceMethod yX3_exchange ∈ TB := tb_212
theorem wtb_468 : Cond.selects "ToneLines$Orders" yX3_exchange yX3_exchange ∈ TB := tb_213
theorem wtb_469 : Cond.initialized "ToneLines$Orders" ∈ TB := tb_214
theorem wgv_X3_86 : GoodIn TB (wsV RX3 86 RX3 yX3_exchange (cw yX3_exchange cX3_exchange 4 none)) := goodIn_4 wtb_466 wtb_467 wtb_468 wtb_469 wgc_X3_exchange
theorem whv_X3_exchange : yX3_exchange.cls = RX3 ∧ yX3_exchange.cls ≠ "java/lang/invoke/MethodHandle" ∧ yX3_exchange.cls ≠ "java/lang/invoke/VarHandle" ∧ (parseMethodDescriptor yX3_exchange.desc).map (fun d => d.parameters.length) = some 2 := hv_X3_exchange
theorem wdX3_nextOrder_100 : decode cX3_nextOrder 100 = .ok (.iinc 4 1, 3) := dX3_nextOrder_100
theorem wdX3_nextOrder_103 : decode cX3_nextOrder 103 = .ok (.iinc 5 (-1), 3) := dX3_nextOrder_103
theorem wdX3_nextOrder_106 : decode cX3_nextOrder 106 = .ok (.goto (-21), 3) := dX3_nextOrder_106
set_option maxRecDepth 4000 in
theorem lp_X3_next3 {p : Program} {l : Launch} {e : Env} {s : State} {m : MethodId} {args : Array Value} {below : List Frame} {meth : Method} {c : Code} {D : va_G} {B : Nat} {cy : Nat → ClassId} {H0 : Heap} {Q : State → Prop} {M : Mem} {R : Room} {n p9 : Nat} {g0 : Nat → Nat} (F : CallFix p m c cX3_nextOrder 6 s args TB RX3) (hR1 : 1 ≤ R.frames) (hR2 : 23 ≤ R.locals) (hn : n ≤ 6) (kk : ∀ (a : Nat) (b : Nat) (d : Nat) (gx : Nat → Nat) (Nm : Mem) (H : Heap) (locs : List Loc) (ls : Array Slot), (isO Nm n (rvF n g0 (p9 + 1) (n - 1))) → (Fr1 Nm M 110) → Wd D B cy s H0 Nm H locs → lv_has ls 6 [(2, .int (zI (p9 : Int)))] → W p l e R s m args below meth c H locs 0 0 Q (F0 m 109 ls [])) : ∀ (f : Nat) (a : Nat) (b : Nat) (d : Nat) (gx : Nat → Nat) (Nm : Mem), (b < n ∧ a ≤ n) → (isO Nm n gx) → (∀ k, k < n → gx k < 8) → (rvF n g0 (p9 + 1) (n - 1) = rvF d gx a b) → (n ≤ a + d) → (Fr1 Nm M 110) → (b ≤ a + f) → ∀ (H : Heap) (locs : List Loc) (ls : Array Slot), Wd D B cy s H0 Nm H locs → lv_has ls 6 [(5, .int (zI (b : Int))), (4, .int (zI (a : Int))), (0, .ref (B + 109)), (2, .int (zI (p9 : Int)))] → W p l e R s m args below meth c H locs 0 0 Q (F0 m 85 ls []) := by
  have hx := F.1
  have hb := F.2.1
  intro f
  induction f with
  | zero =>
    intro a b d gx Nm i0 i1 i2 i3 i4 i5 hf H locs ls w hl
    refine lv_iload hx hb wdX3_nextOrder_85 (lv_at hl 1 rfl) ?_
    refine lv_iload hx hb wdX3_nextOrder_87 (lv_at hl 0 rfl) ?_
    refine z_icmp_ge (tgt := 109) hx hb (by omega) (by omega) wdX3_nextOrder_89 (by decide) (fun c1 => ?_) (fun c1 => False.elim (by omega))
    exact kk a b d gx Nm _ _ ls (by rw [i3, rv_e (g := gx) (a := a) (b := b) (d := d) (by omega)]; exact i1) i5 w (lv_sub hl [3] rfl)
  | succ f ih =>
    intro a b d gx Nm i0 i1 i2 i3 i4 i5 hf H locs ls w hl
    refine lv_iload hx hb wdX3_nextOrder_85 (lv_at hl 1 rfl) ?_
    refine lv_iload hx hb wdX3_nextOrder_87 (lv_at hl 0 rfl) ?_
    refine z_icmp_ge (tgt := 109) hx hb (by omega) (by omega) wdX3_nextOrder_89 (by decide) (fun c1 => ?_) (fun c1 => ?_)
    · exact kk a b d gx Nm _ _ ls (by rw [i3, rv_e (g := gx) (a := a) (b := b) (d := d) (by omega)]; exact i1) i5 w (lv_sub hl [3] rfl)
    · refine lv_aload_n hx hb wdX3_nextOrder_92 rfl (lv_at hl 2 rfl) ?_
      refine lv_iload hx hb wdX3_nextOrder_93 (lv_at hl 1 rfl) ?_
      refine lv_iload hx hb wdX3_nextOrder_95 (lv_at hl 0 rfl) ?_
      refine k_Vv F w (As := [.int (zI (a : Int)), .int (zI (b : Int))]) (rest := []) (a := 109) (kd_lt (a := 109) (show kd 109 = (3, 0, 0) from rfl) (by decide)) (sh_3 rfl _ _) rfl (h_oexch (a := a) (b := b) i1 hn (by omega) (by omega) i2) wgv_X3_86 whv_X3_exchange ⟨(by omega), (by omega)⟩ hl.1 rfl (Nat.le_of_ble_eq_true rfl) ⟨Nat.zero_le _, Nat.zero_le _⟩ wdX3_nextOrder_97 (fun Ma2 H locs hp w => ?_)
      rcases hp with ⟨hO1, hF1⟩
      refine z_iinc (v := (((a + 1) : Nat) : Int)) (lv' := [(4, .int (zI (((a + 1) : Nat) : Int))), (5, .int (zI (b : Int))), (0, .ref (B + 109)), (2, .int (zI (p9 : Int)))]) hx hb wdX3_nextOrder_100 hl (k := 1) rfl (by omega) (by decide) rfl (fun ls hl => ?_)
      refine z_iinc (v := ((b : Int) - 1)) (lv' := [(5, .int (zI ((b : Int) - 1))), (4, .int (zI (((a + 1) : Nat) : Int))), (0, .ref (B + 109)), (2, .int (zI (p9 : Int)))]) hx hb wdX3_nextOrder_103 hl (k := 1) rfl (by omega) (by decide) rfl (fun ls hl => ?_)
      refine lv_goto (tgt := 85) hx hb wdX3_nextOrder_106 (by decide) ?_
      replace hl : lv_has ls 6 [(5, .int (zI (((b - 1) : Nat) : Int))), (4, .int (zI (((a + 1) : Nat) : Int))), (0, .ref (B + 109)), (2, .int (zI (p9 : Int)))] := by rw [show ((b - 1 : Nat) : Int) = (b : Int) - 1 by omega]; exact hl
      exact ih (a + 1) (b - 1) (d - 1) (swF gx a b) Ma2 (by omega) hO1 (swF_lt i2 (by omega) (by omega)) (i3.trans (rv_s (by omega) (by omega))) (by omega) (Fr1.t2 i5 hF1) (by omega) _ _ ls w (lv_sub hl [0, 1, 2, 3] rfl)
theorem wdX3_nextOrder_37 : decode cX3_nextOrder 37 = .ok (.iload_n 1, 1) := dX3_nextOrder_37
theorem wdX3_nextOrder_38 : decode cX3_nextOrder 38 = .ok (.iconst 1, 1) := dX3_nextOrder_38
theorem wdX3_nextOrder_39 : decode cX3_nextOrder 39 = .ok (.isub, 1) := dX3_nextOrder_39
theorem wdX3_nextOrder_40 : decode cX3_nextOrder 40 = .ok (.istore_n 3, 1) := dX3_nextOrder_40
theorem wdX3_nextOrder_69 : decode cX3_nextOrder 69 = .ok (.aload_n 0, 1) := dX3_nextOrder_69
theorem wdX3_nextOrder_70 : decode cX3_nextOrder 70 = .ok (.iload_n 2, 1) := dX3_nextOrder_70
theorem wdX3_nextOrder_71 : decode cX3_nextOrder 71 = .ok (.iload_n 3, 1) := dX3_nextOrder_71
theorem wdX3_nextOrder_72 : decode cX3_nextOrder 72 = .ok (.invokevirtual 86, 3) := dX3_nextOrder_72
theorem wdX3_nextOrder_75 : decode cX3_nextOrder 75 = .ok (.iload_n 2, 1) := dX3_nextOrder_75
theorem wdX3_nextOrder_76 : decode cX3_nextOrder 76 = .ok (.iconst 1, 1) := dX3_nextOrder_76
theorem wdX3_nextOrder_77 : decode cX3_nextOrder 77 = .ok (.iadd, 1) := dX3_nextOrder_77
theorem wdX3_nextOrder_78 : decode cX3_nextOrder 78 = .ok (.istore 4, 2) := dX3_nextOrder_78
theorem wdX3_nextOrder_80 : decode cX3_nextOrder 80 = .ok (.iload_n 1, 1) := dX3_nextOrder_80
theorem wdX3_nextOrder_81 : decode cX3_nextOrder 81 = .ok (.iconst 1, 1) := dX3_nextOrder_81
theorem wdX3_nextOrder_82 : decode cX3_nextOrder 82 = .ok (.isub, 1) := dX3_nextOrder_82
theorem wdX3_nextOrder_83 : decode cX3_nextOrder 83 = .ok (.istore 5, 2) := dX3_nextOrder_83
theorem wdX3_nextOrder_109 : decode cX3_nextOrder 109 = .ok (.iload_n 2, 1) := dX3_nextOrder_109
theorem wdX3_nextOrder_110 : decode cX3_nextOrder 110 = .ok (.ireturn, 1) := dX3_nextOrder_110
set_option maxRecDepth 4000 in
theorem h_next1 {l : Launch} {D : va_G} {B : Nat} {cy : Nat → ClassId} {M : Mem} {n : Nat} {g8 : Nat → Nat} (hO : isO M n g8) (hn : n ≤ 6) (hn1 : 1 ≤ n) (hg8 : ∀ k, k < n → g8 k < 8) : Ci l D B cy yX3_nextOrder cX3_nextOrder 6 (some .int) 1 23 [.ref (B + 109), .int (zI (n : Int))] M (fun r M1 => r = zI ((((nxF n g8).1 : Nat) : Int) - 1) ∧ isO M1 n (nxF n g8).2 ∧ Fr1 M1 M 110) := by
  refine s_any (by decide) (Nat.le_of_ble_eq_true rfl) ?_
  intro p e s m below meth c ls F hr hlocks w hl
  have F : CallFix p m c cX3_nextOrder 6 s _ TB RX3 := F
  have hx := F.1
  have hb := F.2.1
  have hl : lv_has ls 6 [(0, .ref (B + 109)), (1, .int (zI (n : Int)))] := hl
  refine lv_iload_n hx hb wdX3_nextOrder_0 rfl (lv_at hl 1 rfl) ?_
  refine lv_iconst (v := zI 2) hx hb wdX3_nextOrder_1 rfl ?_
  refine z_isub (z := ((n : Int) - 2)) hx hb wdX3_nextOrder_2 (by omega) ?_
  refine lv_istore_n (lv' := [(2, .int (zI ((n : Int) - 2))), (0, .ref (B + 109)), (1, .int (zI (n : Int)))]) hx hb wdX3_nextOrder_3 rfl hl (by decide) rfl (fun ls hl => ?_)
  replace hl : lv_has ls 6 [(2, .int (zI ((((n - 1) : Nat) : Int) - 1))), (0, .ref (B + 109)), (1, .int (zI (n : Int)))] := by rw [show (((n - 1 : Nat) : Int) - 1) = (n : Int) - 2 by omega]; exact hl
  refine lp_X3_next1  F (Nat.le_of_ble_eq_true rfl) (Nat.le_of_ble_eq_true rfl) hO hn hn1 hg8 (fun k H locs ls x0 w hl => ?_) (n - 1) (n - 1) (by omega) rfl (by omega) _ _ ls w (lv_sub hl [0, 1, 2] rfl)
  rw [x0] at hl
  have hpl := plD_le (g := g8) (n - 1)
  refine lv_iload_n hx hb wdX3_nextOrder_31 rfl (lv_at hl 0 rfl) ?_
  refine z_if_ge (tgt := 37) hx hb (by omega) wdX3_nextOrder_32 (by decide) (fun c1 => ?_) (fun c1 => ?_)
  · obtain ⟨p9, hp9⟩ : ∃ p9 : Nat, plD g8 (n - 1) = p9 + 1 := ⟨plD g8 (n - 1) - 1, by omega⟩
    have hpl := plD_le (g := g8) (n - 1)
    replace hl : lv_has ls 6 [(2, .int (zI (p9 : Int))), (0, .ref (B + 109)), (1, .int (zI (n : Int)))] := by rw [hp9, show ((p9 + 1 : Nat) : Int) - 1 = (p9 : Int) by omega] at hl; exact hl
    refine lv_iload_n hx hb wdX3_nextOrder_37 rfl (lv_at hl 2 rfl) ?_
    refine lv_iconst (v := zI 1) hx hb wdX3_nextOrder_38 rfl ?_
    refine z_isub (z := ((n : Int) - 1)) hx hb wdX3_nextOrder_39 (by omega) ?_
    refine r_val (v := (zI (((n - 1) : Nat) : Int))) (congrArg zI (by omega)) ?_
    refine lv_istore_n (lv' := [(3, .int (zI (((n - 1) : Nat) : Int))), (2, .int (zI (p9 : Int))), (0, .ref (B + 109)), (1, .int (zI (n : Int)))]) hx hb wdX3_nextOrder_40 rfl hl (by decide) rfl (fun ls hl => ?_)
    refine lp_X3_next2  F (Nat.le_of_ble_eq_true rfl) (Nat.le_of_ble_eq_true rfl) hO hn hn1 hg8 (fun j H locs ls x0 x1 x2 w hl => ?_) (n - 1) (n - 1) (by omega) (by omega) rfl (by omega) _ _ ls w (lv_sub hl [0, 1, 2, 3] rfl)
    refine lv_aload_n hx hb wdX3_nextOrder_69 rfl (lv_at hl 2 rfl) ?_
    refine lv_iload_n hx hb wdX3_nextOrder_70 rfl (lv_at hl 1 rfl) ?_
    refine lv_iload_n hx hb wdX3_nextOrder_71 rfl (lv_at hl 0 rfl) ?_
    refine k_Vv F w (As := [.int (zI (p9 : Int)), .int (zI (j : Int))]) (rest := []) (a := 109) (kd_lt (a := 109) (show kd 109 = (3, 0, 0) from rfl) (by decide)) (sh_3 rfl _ _) rfl (h_oexch (a := p9) (b := j) hO hn (by omega) (by omega) hg8) wgv_X3_86 whv_X3_exchange ⟨(Nat.le_of_ble_eq_true rfl), (Nat.le_of_ble_eq_true rfl)⟩ hl.1 rfl (Nat.le_of_ble_eq_true rfl) ⟨Nat.zero_le _, Nat.zero_le _⟩ wdX3_nextOrder_72 (fun Ma2 H locs hp w => ?_)
    rcases hp with ⟨hO1, hF1⟩
    have hj9 := x0
    refine lv_iload_n hx hb wdX3_nextOrder_75 rfl (lv_at hl 1 rfl) ?_
    refine lv_iconst (v := zI 1) hx hb wdX3_nextOrder_76 rfl ?_
    refine z_iadd (z := (((p9 + 1) : Nat) : Int)) hx hb wdX3_nextOrder_77 (by omega) ?_
    refine lv_istore (lv' := [(4, .int (zI (((p9 + 1) : Nat) : Int))), (3, .int (zI (j : Int))), (2, .int (zI (p9 : Int))), (0, .ref (B + 109)), (1, .int (zI (n : Int)))]) hx hb wdX3_nextOrder_78 hl (by decide) rfl (fun ls hl => ?_)
    refine lv_iload_n hx hb wdX3_nextOrder_80 rfl (lv_at hl 4 rfl) ?_
    refine lv_iconst (v := zI 1) hx hb wdX3_nextOrder_81 rfl ?_
    refine z_isub (z := ((n : Int) - 1)) hx hb wdX3_nextOrder_82 (by omega) ?_
    refine r_val (v := (zI (((n - 1) : Nat) : Int))) (congrArg zI (by omega)) ?_
    refine lv_istore (lv' := [(5, .int (zI (((n - 1) : Nat) : Int))), (4, .int (zI (((p9 + 1) : Nat) : Int))), (3, .int (zI (j : Int))), (2, .int (zI (p9 : Int))), (0, .ref (B + 109)), (1, .int (zI (n : Int)))]) hx hb wdX3_nextOrder_83 hl (by decide) rfl (fun ls hl => ?_)
    refine lp_X3_next3  F (Nat.le_of_ble_eq_true rfl) (Nat.le_of_ble_eq_true rfl) hn (fun a b d gx Nm H locs ls x0 x1 w hl => ?_) n (p9 + 1) (n - 1) n (swF g8 p9 j) Ma2 (by omega) hO1 (swF_lt hg8 (by omega) (by omega)) rfl (by omega) hF1 (by omega) _ _ ls w (lv_sub hl [0, 1, 4, 3] rfl)
    refine lv_iload_n hx hb wdX3_nextOrder_109 rfl (lv_at hl 0 rfl) ?_
    exact e_i F w hr hlocks ⟨congrArg zI (nx_2 hp9), nxm_y hp9 hj9 x0, x1⟩ wdX3_nextOrder_110
  · refine lv_iconst (v := zI (-1)) hx hb wdX3_nextOrder_35 rfl ?_
    exact e_i F w hr hlocks ⟨congrArg zI (nx_1 (by omega)), nxm_z (by omega) hO, ⟨fun _ _ => rfl, rfl⟩⟩ wdX3_nextOrder_36
theorem h_next {l : Launch} {D : va_G} {B : Nat} {cy : Nat → ClassId} {M : Mem} {n : Nat} {g8 : Nat → Nat} (hO : isO M n g8) (hn : n ≤ 6) (hg8 : ∀ k, k < n → g8 k < 8) : Ci l D B cy yX3_nextOrder cX3_nextOrder 6 (some .int) 1 23 [.ref (B + 109), .int (zI (n : Int))] M (fun r M1 => r = zI ((((nxF n g8).1 : Nat) : Int) - 1) ∧ isO M1 n (nxF n g8).2 ∧ Fr1 M1 M 110) := by
  rcases Nat.eq_zero_or_pos n with h | h
  · subst h
    exact Ci_mono h_next0 (Nat.zero_le _) (Nat.zero_le _) (fun r M1 h9 => ⟨h9.1.trans (congrArg zI (nx_1 (by rfl))), by rw [h9.2]; exact nxm_z (by rfl) hO, by rw [h9.2]; exact ⟨fun _ _ => rfl, rfl⟩⟩)
  · exact h_next1 hO hn h hg8
theorem wdX3_enter_3 : decode cX3_enter 3 = .ok (.iload 5, 2) := dX3_enter_3
theorem wdX3_enter_5 : decode cX3_enter 5 = .ok (.aload_n 0, 1) := dX3_enter_5
theorem wdX3_enter_6 : decode cX3_enter 6 = .ok (.getfield 15, 3) := dX3_enter_6
theorem wtb_470 : Cond.fieldLink "ToneLines$Orders" 15 "ToneLines$Orders" "unlike" "I" ∈ TB := tb_207
theorem wdX3_enter_9 : decode cX3_enter 9 = .ok (.if_icmp .ge 34, 3) := dX3_enter_9
theorem wdX3_enter_12 : decode cX3_enter 12 = .ok (.aload_n 0, 1) := dX3_enter_12
theorem wdX3_enter_13 : decode cX3_enter 13 = .ok (.getfield 32, 3) := dX3_enter_13
theorem wtb_471 : Cond.fieldLink "ToneLines$Orders" 32 "ToneLines$Orders" "kindsRead" "[J" ∈ TB := tb_208
theorem wdX3_enter_16 : decode cX3_enter 16 = .ok (.iload 5, 2) := dX3_enter_16
theorem wdX3_enter_18 : decode cX3_enter 18 = .ok (.laload, 1) := dX3_enter_18
theorem wdX3_enter_19 : decode cX3_enter 19 = .ok (.lload_n 1, 1) := dX3_enter_19
theorem wdX3_enter_20 : decode cX3_enter 20 = .ok (.lcmp, 1) := dX3_enter_20
theorem wdX3_enter_21 : decode cX3_enter 21 = .ok (.ifCond .ne 16, 3) := dX3_enter_21
theorem wdX3_enter_37 : decode cX3_enter 37 = .ok (.iinc 5 1, 3) := dX3_enter_37
theorem wdX3_enter_40 : decode cX3_enter 40 = .ok (.goto (-37), 3) := dX3_enter_40
theorem wdX3_enter_24 : decode cX3_enter 24 = .ok (.aload_n 0, 1) := dX3_enter_24
theorem wdX3_enter_25 : decode cX3_enter 25 = .ok (.getfield 36, 3) := dX3_enter_25
theorem wtb_472 : Cond.fieldLink "ToneLines$Orders" 36 "ToneLines$Orders" "linesRead" "[J" ∈ TB := tb_209
theorem wdX3_enter_28 : decode cX3_enter 28 = .ok (.iload 5, 2) := dX3_enter_28
theorem wdX3_enter_30 : decode cX3_enter 30 = .ok (.laload, 1) := dX3_enter_30
theorem wdX3_enter_31 : decode cX3_enter 31 = .ok (.lload_n 3, 1) := dX3_enter_31
theorem wdX3_enter_32 : decode cX3_enter 32 = .ok (.lcmp, 1) := dX3_enter_32
theorem wdX3_enter_33 : decode cX3_enter 33 = .ok (.ifCond .ne 4, 3) := dX3_enter_33
theorem wdX3_enter_36 : decode cX3_enter 36 = .ok (.return_, 1) := dX3_enter_36
set_option maxRecDepth 4000 in
theorem lp_X3_enter {p : Program} {l : Launch} {e : Env} {s : State} {m : MethodId} {args : Array Value} {below : List Frame} {meth : Method} {c : Code} {D : va_G} {B : Nat} {cy : Nat → ClassId}  {M : Mem} {R : Room} {q t : Nat} {w9 : Nat → Wo} (F : CallFix p m c cX3_enter 6 s args TB RX3) (hr : meth.sig.returnType = none) (hlocks : meth.locks = false) (hR1 : 0 ≤ R.frames) (hR2 : 0 ≤ R.locals) (hE : isE M w9 (rpF q w9 t)) (ht : t < 720) (hkw : ∀ i, i ≤ t → okW q (w9 i) ∧ ncW (w9 i)) (kk : ∀ (i : Nat) (H : Heap) (locs : List Loc) (ls : Array Slot), (∀ j, j < (rpF q w9 t).length → ¬ rdE q (w9 ((rpF q w9 t).getD j 0)) (w9 t)) → Wd D B cy s s.heap M H locs → lv_has ls 6 [(0, .ref (B + 109)), (1, .long (KVl (w9 t))), (3, .long (LRl (w9 t)))] → W p l e R s m args below meth c H locs 0 0 (MQ below (va_Qv (fun M1 => isE M1 w9 (rpF q w9 (t + 1)) ∧ FrN M1 M) (fun M2 t2 => Wp D B cy M2 t2) (fun q2 => B ≤ q2)) args s 0 0 (fun q2 => B ≤ q2)) (F0 m 43 ls [])) : ∀ (f : Nat) (i : Nat), (i ≤ (rpF q w9 t).length) → (∀ j, j < i → ¬ rdE q (w9 ((rpF q w9 t).getD j 0)) (w9 t)) → ((rpF q w9 t).length ≤ i + f) → ∀ (H : Heap) (locs : List Loc) (ls : Array Slot), Wd D B cy s s.heap M H locs → lv_has ls 6 [(5, .int (zI (i : Int))), (0, .ref (B + 109)), (1, .long (KVl (w9 t))), (3, .long (LRl (w9 t)))] → W p l e R s m args below meth c H locs 0 0 (MQ below (va_Qv (fun M1 => isE M1 w9 (rpF q w9 (t + 1)) ∧ FrN M1 M) (fun M2 t2 => Wp D B cy M2 t2) (fun q2 => B ≤ q2)) args s 0 0 (fun q2 => B ≤ q2)) (F0 m 3 ls []) := by
  have hx := F.1
  have hb := F.2.1
  have hll := (rp_lt (q := q) (w := w9) (t := t)).2
  intro f
  induction f with
  | zero =>
    intro i i0 i1 hf H locs ls w hl
    refine lv_iload hx hb wdX3_enter_3 (lv_at hl 0 rfl) ?_
    refine lv_aload_n hx hb wdX3_enter_5 rfl (lv_at hl 1 rfl) ?_
    refine f_3_1 F w (a := 109) rfl wtb_470 wdX3_enter_6 ?_
    refine r_val (v := (zI ((((rpF q w9 t).length) : Nat) : Int))) (hE.1) ?_
    refine z_icmp_ge (tgt := 43) hx hb (by omega) (by omega) wdX3_enter_9 (by decide) (fun c1 => ?_) (fun c1 => False.elim (by omega))
    exact kk i _ _ ls (fun j hj => i1 j (by omega)) w (lv_sub hl [1, 2, 3] rfl)
  | succ f ih =>
    intro i i0 i1 hf H locs ls w hl
    refine lv_iload hx hb wdX3_enter_3 (lv_at hl 0 rfl) ?_
    refine lv_aload_n hx hb wdX3_enter_5 rfl (lv_at hl 1 rfl) ?_
    refine f_3_1 F w (a := 109) rfl wtb_470 wdX3_enter_6 ?_
    refine r_val (v := (zI ((((rpF q w9 t).length) : Nat) : Int))) (hE.1) ?_
    refine z_icmp_ge (tgt := 43) hx hb (by omega) (by omega) wdX3_enter_9 (by decide) (fun c1 => ?_) (fun c1 => ?_)
    · exact kk i _ _ ls (fun j hj => i1 j (by omega)) w (lv_sub hl [1, 2, 3] rfl)
    · refine lv_aload_n hx hb wdX3_enter_12 rfl (lv_at hl 1 rfl) ?_
      refine f_3_5 F w (a := 109) rfl wtb_471 wdX3_enter_13 ?_
      refine lv_iload hx hb wdX3_enter_16 (lv_at hl 0 rfl) ?_
      refine g_lald F w (a := 112) rfl (j := i) (ix_n (by omega)) (by omega) wdX3_enter_18 ?_
      refine r_vall (v := (KVl (w9 ((rpF q w9 t).getD i 0)))) (hE.2 i (by omega)).1 ?_
      refine lv_lload_n hx hb wdX3_enter_19 rfl (lv_at hl 2 rfl) ?_
      refine W.lcmp hx hb wdX3_enter_20 ?_
      obtain ⟨lc2, blc2, elc2⟩ := rg_ex (lg_cmp (KVl (w9 ((rpF q w9 t).getD i 0))) (KVl (w9 t)))
      refine r_val elc2 ?_
      refine z_if_ne (tgt := 37) hx hb (by omega) wdX3_enter_21 (by decide) (fun c3 => ?_) (fun c3 => ?_)
      · refine z_iinc (v := (((i + 1) : Nat) : Int)) (lv' := [(5, .int (zI (((i + 1) : Nat) : Int))), (0, .ref (B + 109)), (1, .long (KVl (w9 t))), (3, .long (LRl (w9 t)))]) hx hb wdX3_enter_37 hl (k := 0) rfl (by omega) (by decide) rfl (fun ls hl => ?_)
        refine lv_goto (tgt := 3) hx hb wdX3_enter_40 (by decide) ?_
        have hki := hkw _ (Nat.le_of_lt ((rp_lt (q := q) (w := w9) (t := t)).1 _ (gd_m (l := rpF q w9 t) (j := i) (by omega))))
        have hnr : ¬ rdE q (w9 ((rpF q w9 t).getD i 0)) (w9 t) := rdl_1 hki (hkw t (Nat.le_refl t)) (lcmp_n (fun h9 => by have h8 := (zI_eq (by constructor <;> omega) (by constructor <;> omega)).mp (h9.symm.trans elc2); omega))
        exact ih (i + 1) (by omega) (fun j hj => by by_cases h9 : j = i; (rw [h9]; exact hnr); exact i1 j (by omega)) (by omega) _ _ ls w (lv_sub hl [0, 1, 2, 3] rfl)
      · refine lv_aload_n hx hb wdX3_enter_24 rfl (lv_at hl 1 rfl) ?_
        refine f_3_6 F w (a := 109) rfl wtb_472 wdX3_enter_25 ?_
        refine lv_iload hx hb wdX3_enter_28 (lv_at hl 0 rfl) ?_
        refine g_lald F w (a := 113) rfl (j := i) (ix_n (by omega)) (by omega) wdX3_enter_30 ?_
        refine r_vall (v := (LRl (w9 ((rpF q w9 t).getD i 0)))) (hE.2 i (by omega)).2 ?_
        refine lv_lload_n hx hb wdX3_enter_31 rfl (lv_at hl 3 rfl) ?_
        refine W.lcmp hx hb wdX3_enter_32 ?_
        obtain ⟨lc4, blc4, elc4⟩ := rg_ex (lg_cmp (LRl (w9 ((rpF q w9 t).getD i 0))) (LRl (w9 t)))
        refine r_val elc4 ?_
        refine z_if_ne (tgt := 37) hx hb (by omega) wdX3_enter_33 (by decide) (fun c5 => ?_) (fun c5 => ?_)
        · refine z_iinc (v := (((i + 1) : Nat) : Int)) (lv' := [(5, .int (zI (((i + 1) : Nat) : Int))), (0, .ref (B + 109)), (1, .long (KVl (w9 t))), (3, .long (LRl (w9 t)))]) hx hb wdX3_enter_37 hl (k := 0) rfl (by omega) (by decide) rfl (fun ls hl => ?_)
          refine lv_goto (tgt := 3) hx hb wdX3_enter_40 (by decide) ?_
          have hki := hkw _ (Nat.le_of_lt ((rp_lt (q := q) (w := w9) (t := t)).1 _ (gd_m (l := rpF q w9 t) (j := i) (by omega))))
          have hnr : ¬ rdE q (w9 ((rpF q w9 t).getD i 0)) (w9 t) := rdl_2 hki (hkw t (Nat.le_refl t)) (lcmp_n (fun h9 => by have h8 := (zI_eq (by constructor <;> omega) (by constructor <;> omega)).mp (h9.symm.trans elc4); omega))
          exact ih (i + 1) (by omega) (fun j hj => by by_cases h9 : j = i; (rw [h9]; exact hnr); exact i1 j (by omega)) (by omega) _ _ ls w (lv_sub hl [0, 1, 2, 3] rfl)
        · have hki := hkw _ (Nat.le_of_lt ((rp_lt (q := q) (w := w9) (t := t)).1 _ (gd_m (l := rpF q w9 t) (j := i) (by omega))))
          have hrd : rdE q (w9 ((rpF q w9 t).getD i 0)) (w9 t) := rdl_y hki (hkw t (Nat.le_refl t)) (lcmp_0 (elc2.trans (congrArg zI (by omega)))) (lcmp_0 (elc4.trans (congrArg zI (by omega))))
          have hki := hkw _ (Nat.le_of_lt ((rp_lt (q := q) (w := w9) (t := t)).1 _ (gd_m (l := rpF q w9 t) (j := i) (by omega))))
          have hrd : rdE q (w9 ((rpF q w9 t).getD i 0)) (w9 t) := rdl_y hki (hkw t (Nat.le_refl t)) (lcmp_0 (elc2.trans (congrArg zI (by omega)))) (lcmp_0 (elc4.trans (congrArg zI (by omega))))
          exact e_v F w hr hlocks ⟨by rw [rp_y ⟨_, gd_m (by omega), hrd⟩]; exact hE, FrN.rf⟩ wdX3_enter_36
theorem wdX3_enter_0 : decode cX3_enter 0 = .ok (.iconst 0, 1) := dX3_enter_0
theorem wdX3_enter_1 : decode cX3_enter 1 = .ok (.istore 5, 2) := dX3_enter_1
theorem wdX3_enter_43 : decode cX3_enter 43 = .ok (.aload_n 0, 1) := dX3_enter_43
theorem wdX3_enter_44 : decode cX3_enter 44 = .ok (.getfield 15, 3) := dX3_enter_44
theorem wdX3_enter_47 : decode cX3_enter 47 = .ok (.sipush 720, 3) := dX3_enter_47
theorem wdX3_enter_50 : decode cX3_enter 50 = .ok (.if_icmp .ge 33, 3) := dX3_enter_50
theorem wdX3_enter_53 : decode cX3_enter 53 = .ok (.aload_n 0, 1) := dX3_enter_53
theorem wdX3_enter_54 : decode cX3_enter 54 = .ok (.getfield 32, 3) := dX3_enter_54
theorem wdX3_enter_57 : decode cX3_enter 57 = .ok (.aload_n 0, 1) := dX3_enter_57
theorem wdX3_enter_58 : decode cX3_enter 58 = .ok (.getfield 15, 3) := dX3_enter_58
theorem wdX3_enter_61 : decode cX3_enter 61 = .ok (.lload_n 1, 1) := dX3_enter_61
theorem wdX3_enter_62 : decode cX3_enter 62 = .ok (.lastore, 1) := dX3_enter_62
theorem wdX3_enter_63 : decode cX3_enter 63 = .ok (.aload_n 0, 1) := dX3_enter_63
theorem wdX3_enter_64 : decode cX3_enter 64 = .ok (.getfield 36, 3) := dX3_enter_64
theorem wdX3_enter_67 : decode cX3_enter 67 = .ok (.aload_n 0, 1) := dX3_enter_67
theorem wdX3_enter_68 : decode cX3_enter 68 = .ok (.getfield 15, 3) := dX3_enter_68
theorem wdX3_enter_71 : decode cX3_enter 71 = .ok (.lload_n 3, 1) := dX3_enter_71
theorem wdX3_enter_72 : decode cX3_enter 72 = .ok (.lastore, 1) := dX3_enter_72
theorem wdX3_enter_73 : decode cX3_enter 73 = .ok (.aload_n 0, 1) := dX3_enter_73
theorem wdX3_enter_74 : decode cX3_enter 74 = .ok (.dup, 1) := dX3_enter_74
theorem wdX3_enter_75 : decode cX3_enter 75 = .ok (.getfield 15, 3) := dX3_enter_75
theorem wdX3_enter_78 : decode cX3_enter 78 = .ok (.iconst 1, 1) := dX3_enter_78
theorem wdX3_enter_79 : decode cX3_enter 79 = .ok (.iadd, 1) := dX3_enter_79
theorem wdX3_enter_80 : decode cX3_enter 80 = .ok (.putfield 15, 3) := dX3_enter_80
theorem wdX3_enter_83 : decode cX3_enter 83 = .ok (.return_, 1) := dX3_enter_83
set_option maxRecDepth 4000 in
theorem h_enter {l : Launch} {D : va_G} {B : Nat} {cy : Nat → ClassId} {M : Mem} {q t : Nat} {w9 : Nat → Wo} (hE : isE M w9 (rpF q w9 t)) (ht : t < 720) (hkw : ∀ i, i ≤ t → okW q (w9 i) ∧ ncW (w9 i)) : Cv l D B cy yX3_enter cX3_enter 6 0 0 [.ref (B + 109), .long (KVl (w9 t)), .long (LRl (w9 t))] M (fun M1 => isE M1 w9 (rpF q w9 (t + 1)) ∧ FrN M1 M) := by
  refine s_any (by decide) (Nat.le_of_ble_eq_true rfl) ?_
  intro p e s m below meth c ls F hr hlocks w hl
  have F : CallFix p m c cX3_enter 6 s _ TB RX3 := F
  have hx := F.1
  have hb := F.2.1
  have hl : lv_has ls 6 [(0, .ref (B + 109)), (1, .long (KVl (w9 t))), (3, .long (LRl (w9 t)))] := hl
  have hll := (rp_lt (q := q) (w := w9) (t := t)).2
  refine lv_iconst (v := zI 0) hx hb wdX3_enter_0 rfl ?_
  refine lv_istore (lv' := [(5, .int (zI 0)), (0, .ref (B + 109)), (1, .long (KVl (w9 t))), (3, .long (LRl (w9 t)))]) hx hb wdX3_enter_1 hl (by decide) rfl (fun ls hl => ?_)
  refine lp_X3_enter  F hr hlocks (Nat.le_of_ble_eq_true rfl) (Nat.le_of_ble_eq_true rfl) hE ht hkw (fun i H locs ls x0 w hl => ?_) ((rpF q w9 t).length) 0 (Nat.zero_le _) (fun j hj => absurd hj (Nat.not_lt_zero j)) (by omega) _ _ ls w (lv_sub hl [0, 1, 2, 3] rfl)
  refine lv_aload_n hx hb wdX3_enter_43 rfl (lv_at hl 0 rfl) ?_
  refine f_3_1 F w (a := 109) rfl wtb_470 wdX3_enter_44 ?_
  refine r_val (v := (zI ((((rpF q w9 t).length) : Nat) : Int))) (hE.1) ?_
  refine lv_sipush (v := zI 720) hx hb wdX3_enter_47 (by decide) ?_
  refine z_icmp_ge (tgt := 83) hx hb (by omega) (by omega) wdX3_enter_50 (by decide) (fun c1 => False.elim (by omega)) (fun c1 => ?_)
  refine lv_aload_n hx hb wdX3_enter_53 rfl (lv_at hl 0 rfl) ?_
  refine f_3_5 F w (a := 109) rfl wtb_471 wdX3_enter_54 ?_
  refine lv_aload_n hx hb wdX3_enter_57 rfl (lv_at hl 0 rfl) ?_
  refine f_3_1 F w (a := 109) rfl wtb_470 wdX3_enter_58 ?_
  refine r_val (v := (zI ((((rpF q w9 t).length) : Nat) : Int))) (hE.1) ?_
  refine lv_lload_n hx hb wdX3_enter_61 rfl (lv_at hl 1 rfl) ?_
  refine g_last F w (a := 112) rfl (j := ((rpF q w9 t).length)) (ix_n (by omega)) (by omega) wdX3_enter_62 (fun H locs w => ?_)
  refine lv_aload_n hx hb wdX3_enter_63 rfl (lv_at hl 0 rfl) ?_
  refine f_3_6 F w (a := 109) rfl wtb_472 wdX3_enter_64 ?_
  refine lv_aload_n hx hb wdX3_enter_67 rfl (lv_at hl 0 rfl) ?_
  refine f_3_1 F w (a := 109) rfl wtb_470 wdX3_enter_68 ?_
  refine r_val (v := (zI ((((rpF q w9 t).length) : Nat) : Int))) (hE.1) ?_
  refine lv_lload_n hx hb wdX3_enter_71 rfl (lv_at hl 2 rfl) ?_
  refine g_last F w (a := 113) rfl (j := ((rpF q w9 t).length)) (ix_n (by omega)) (by omega) wdX3_enter_72 (fun H locs w => ?_)
  refine lv_aload_n hx hb wdX3_enter_73 rfl (lv_at hl 0 rfl) ?_
  refine lv_dup hx hb wdX3_enter_74 rfl ?_
  refine f_3_1 F w (a := 109) rfl wtb_470 wdX3_enter_75 ?_
  refine r_val (v := (zI ((((rpF q w9 t).length) : Nat) : Int))) (hE.1) ?_
  refine lv_iconst (v := zI 1) hx hb wdX3_enter_78 rfl ?_
  refine z_iadd (z := (((((rpF q w9 t).length) + 1) : Nat) : Int)) hx hb wdX3_enter_79 (by omega) ?_
  refine u_3_1 F w (a := 109) rfl wtb_470 wdX3_enter_80 (fun H locs w => ?_)
  exact e_v F w hr hlocks ⟨by rw [rp_n9 x0]; exact hE.add, FrN.s⟩ wdX3_enter_83
theorem wdX3_reckon_33 : decode cX3_reckon 33 = .ok (.iload 9, 2) := dX3_reckon_33
theorem wdX3_reckon_35 : decode cX3_reckon 35 = .ok (.iload_n 3, 1) := dX3_reckon_35
theorem wdX3_reckon_36 : decode cX3_reckon 36 = .ok (.if_icmp .ge 18, 3) := dX3_reckon_36
theorem wdX3_reckon_39 : decode cX3_reckon 39 = .ok (.aload_n 0, 1) := dX3_reckon_39
theorem wdX3_reckon_40 : decode cX3_reckon 40 = .ok (.getfield 22, 3) := dX3_reckon_40
theorem wdX3_reckon_43 : decode cX3_reckon 43 = .ok (.iload 9, 2) := dX3_reckon_43
theorem wdX3_reckon_45 : decode cX3_reckon 45 = .ok (.iload 9, 2) := dX3_reckon_45
theorem wdX3_reckon_47 : decode cX3_reckon 47 = .ok (.iastore, 1) := dX3_reckon_47
theorem wdX3_reckon_48 : decode cX3_reckon 48 = .ok (.iinc 9 1, 3) := dX3_reckon_48
theorem wdX3_reckon_51 : decode cX3_reckon 51 = .ok (.goto (-18), 3) := dX3_reckon_51
set_option maxRecDepth 4000 in
theorem lp_X3_reckon1 {p : Program} {l : Launch} {e : Env} {s : State} {m : MethodId} {args : Array Value} {below : List Frame} {meth : Method} {c : Code} {D : va_G} {B : Nat} {cy : Nat → ClassId} {H0 : Heap} {Q : State → Prop} {M : Mem} {R : Room} {Ps : Nat → Nat → Int} {mr q hv ed : Nat} {o : Wo} (F : CallFix p m c cX3_reckon 15 s args TB RX3) (hR1 : 0 ≤ R.frames) (hR2 : 0 ≤ R.locals) (hm6 : mr ≤ 6) (kk : ∀ (i : Nat) (Nm : Mem) (H : Heap) (locs : List Loc) (ls : Array Slot), (∀ k9, k9 < mr → Nm.1 110 k9 = zI ((k9 : Nat) : Int)) → (Fr1 Nm M 110) → Wd D B cy s H0 Nm H locs → lv_has ls 15 [(8, .ref (B + (114 + 3 * mr))), (4, .long (KVl (sg9 Ps (q, hv, ed, o) mr))), (6, .long (LRl (sg9 Ps (q, hv, ed, o) mr))), (0, .ref (B + 109)), (1, .ref (B + 22)), (3, .int (zI (mr : Int)))] → W p l e R s m args below meth c H locs 0 0 Q (F0 m 54 ls [])) : ∀ (f : Nat) (i : Nat) (Nm : Mem), (i ≤ mr) → (∀ k9, k9 < i → Nm.1 110 k9 = zI ((k9 : Nat) : Int)) → (Fr1 Nm M 110) → (mr ≤ i + f) → ∀ (H : Heap) (locs : List Loc) (ls : Array Slot), Wd D B cy s H0 Nm H locs → lv_has ls 15 [(9, .int (zI (i : Int))), (8, .ref (B + (114 + 3 * mr))), (4, .long (KVl (sg9 Ps (q, hv, ed, o) mr))), (6, .long (LRl (sg9 Ps (q, hv, ed, o) mr))), (0, .ref (B + 109)), (1, .ref (B + 22)), (3, .int (zI (mr : Int)))] → W p l e R s m args below meth c H locs 0 0 Q (F0 m 33 ls []) := by
  have hx := F.1
  have hb := F.2.1
  intro f
  induction f with
  | zero =>
    intro i Nm i0 i1 i2 hf H locs ls w hl
    refine lv_iload hx hb wdX3_reckon_33 (lv_at hl 0 rfl) ?_
    refine lv_iload_n hx hb wdX3_reckon_35 rfl (lv_at hl 6 rfl) ?_
    refine z_icmp_ge (tgt := 54) hx hb (by omega) (by omega) wdX3_reckon_36 (by decide) (fun c1 => ?_) (fun c1 => False.elim (by omega))
    exact kk i Nm _ _ ls (fun k9 hk9 => i1 k9 (by omega)) i2 w (lv_sub hl [1, 2, 3, 4, 5, 6] rfl)
  | succ f ih =>
    intro i Nm i0 i1 i2 hf H locs ls w hl
    refine lv_iload hx hb wdX3_reckon_33 (lv_at hl 0 rfl) ?_
    refine lv_iload_n hx hb wdX3_reckon_35 rfl (lv_at hl 6 rfl) ?_
    refine z_icmp_ge (tgt := 54) hx hb (by omega) (by omega) wdX3_reckon_36 (by decide) (fun c1 => ?_) (fun c1 => ?_)
    · exact kk i Nm _ _ ls (fun k9 hk9 => i1 k9 (by omega)) i2 w (lv_sub hl [1, 2, 3, 4, 5, 6] rfl)
    · refine lv_aload_n hx hb wdX3_reckon_39 rfl (lv_at hl 4 rfl) ?_
      refine f_3_3 F w (a := 109) rfl wtb_465 wdX3_reckon_40 ?_
      refine lv_iload hx hb wdX3_reckon_43 (lv_at hl 0 rfl) ?_
      refine lv_iload hx hb wdX3_reckon_45 (lv_at hl 0 rfl) ?_
      refine g_iast F w (a := 110) rfl (j := i) (ix_n (by omega)) (by omega) wdX3_reckon_47 (fun H locs w => ?_)
      refine z_iinc (v := (((i + 1) : Nat) : Int)) (lv' := [(9, .int (zI (((i + 1) : Nat) : Int))), (8, .ref (B + (114 + 3 * mr))), (4, .long (KVl (sg9 Ps (q, hv, ed, o) mr))), (6, .long (LRl (sg9 Ps (q, hv, ed, o) mr))), (0, .ref (B + 109)), (1, .ref (B + 22)), (3, .int (zI (mr : Int)))]) hx hb wdX3_reckon_48 hl (k := 0) rfl (by omega) (by decide) rfl (fun ls hl => ?_)
      refine lv_goto (tgt := 33) hx hb wdX3_reckon_51 (by decide) ?_
      exact ih (i + 1) (st Nm 110 i (zI (i : Int))) (by omega) (fun k9 hk9 => by by_cases h9 : k9 = i; (subst h9; exact st_at); exact (st_ne (Or.inr h9)).trans (i1 k9 (by omega))) (Fr1.t2 i2 Fr1.s) (by omega) _ _ ls w (lv_sub hl [0, 1, 2, 3, 4, 5, 6] rfl)
theorem wdX3_reckon_101 : decode cX3_reckon 101 = .ok (.iload 11, 2) := dX3_reckon_101
theorem wdX3_reckon_103 : decode cX3_reckon 103 = .ok (.iload_n 3, 1) := dX3_reckon_103
theorem wdX3_reckon_104 : decode cX3_reckon 104 = .ok (.if_icmp .ge 57, 3) := dX3_reckon_104
theorem wdX3_reckon_107 : decode cX3_reckon 107 = .ok (.aload_n 0, 1) := dX3_reckon_107
theorem wdX3_reckon_108 : decode cX3_reckon 108 = .ok (.getfield 28, 3) := dX3_reckon_108
theorem wtb_473 : Cond.fieldLink "ToneLines$Orders" 28 "ToneLines$Orders" "levels" "[LToneLines$Word;" ∈ TB := tb_219
theorem wdX3_reckon_111 : decode cX3_reckon 111 = .ok (.iload 11, 2) := dX3_reckon_111
theorem wdX3_reckon_113 : decode cX3_reckon 113 = .ok (.iconst 1, 1) := dX3_reckon_113
theorem wdX3_reckon_114 : decode cX3_reckon 114 = .ok (.iadd, 1) := dX3_reckon_114
theorem wdX3_reckon_115 : decode cX3_reckon 115 = .ok (.aaload, 1) := dX3_reckon_115
theorem wdX3_reckon_116 : decode cX3_reckon 116 = .ok (.aload_n 0, 1) := dX3_reckon_116
theorem wdX3_reckon_117 : decode cX3_reckon 117 = .ok (.getfield 28, 3) := dX3_reckon_117
theorem wdX3_reckon_120 : decode cX3_reckon 120 = .ok (.iload 11, 2) := dX3_reckon_120
theorem wdX3_reckon_122 : decode cX3_reckon 122 = .ok (.aaload, 1) := dX3_reckon_122
theorem wdX3_reckon_123 : decode cX3_reckon 123 = .ok (.invokevirtual 60, 3) := dX3_reckon_123
theorem wtb_474 : Cond.methodLink "ToneLines$Orders" 60 yX9_copyFrom ∈ TB := tb_221
theorem wgv_X3_60 : GoodIn TB (wsV RX3 60 RX9 yX9_copyFrom (cw yX9_copyFrom cX9_copyFrom 2 none)) := goodIn_4 wtb_474 wtb_186 wtb_187 wtb_3 wgc_X9_copyFrom
theorem wdX3_reckon_126 : decode cX3_reckon 126 = .ok (.aload_n 1, 1) := dX3_reckon_126
theorem wdX3_reckon_127 : decode cX3_reckon 127 = .ok (.getfield 64, 3) := dX3_reckon_127
theorem wtb_475 : Cond.fieldLink "ToneLines$Orders" 64 "ToneLines$Derivation" "doer" "LToneLines$Doer;" ∈ TB := tb_230
theorem wdX3_reckon_130 : decode cX3_reckon 130 = .ok (.aload_n 1, 1) := dX3_reckon_130
theorem wdX3_reckon_131 : decode cX3_reckon 131 = .ok (.getfield 68, 3) := dX3_reckon_131
theorem wtb_476 : Cond.fieldLink "ToneLines$Orders" 68 "ToneLines$Derivation" "list" "[LToneLines$Rule;" ∈ TB := tb_231
theorem wdX3_reckon_134 : decode cX3_reckon 134 = .ok (.aload_n 0, 1) := dX3_reckon_134
theorem wdX3_reckon_135 : decode cX3_reckon 135 = .ok (.getfield 22, 3) := dX3_reckon_135
theorem wdX3_reckon_138 : decode cX3_reckon 138 = .ok (.iload 11, 2) := dX3_reckon_138
theorem wdX3_reckon_140 : decode cX3_reckon 140 = .ok (.iaload, 1) := dX3_reckon_140
theorem wdX3_reckon_141 : decode cX3_reckon 141 = .ok (.aaload, 1) := dX3_reckon_141
theorem wdX3_reckon_142 : decode cX3_reckon 142 = .ok (.aload_n 0, 1) := dX3_reckon_142
theorem wdX3_reckon_143 : decode cX3_reckon 143 = .ok (.getfield 28, 3) := dX3_reckon_143
theorem wdX3_reckon_146 : decode cX3_reckon 146 = .ok (.iload 11, 2) := dX3_reckon_146
theorem wdX3_reckon_148 : decode cX3_reckon 148 = .ok (.iconst 1, 1) := dX3_reckon_148
theorem wdX3_reckon_149 : decode cX3_reckon 149 = .ok (.iadd, 1) := dX3_reckon_149
theorem wdX3_reckon_150 : decode cX3_reckon 150 = .ok (.aaload, 1) := dX3_reckon_150
theorem wdX3_reckon_151 : decode cX3_reckon 151 = .ok (.invokevirtual 72, 3) := dX3_reckon_151
theorem wtb_477 : Cond.methodLink "ToneLines$Orders" 72 yX1_perform ∈ TB := tb_232
theorem wgv_X3_72 : GoodIn TB (wsV RX3 72 RX1 yX1_perform (cw yX1_perform cX1_perform 6 (some .int))) := goodIn_4 wtb_477 wtb_192 wtb_193 wtb_52 wgc_X1_perform
theorem wdX3_reckon_154 : decode cX3_reckon 154 = .ok (.pop, 1) := dX3_reckon_154
theorem wdX3_reckon_155 : decode cX3_reckon 155 = .ok (.iinc 11 1, 3) := dX3_reckon_155
theorem wdX3_reckon_158 : decode cX3_reckon 158 = .ok (.goto (-57), 3) := dX3_reckon_158
set_option maxRecDepth 4000 in
theorem lp_X3_reckon3 {p : Program} {l : Launch} {e : Env} {s : State} {m : MethodId} {args : Array Value} {below : List Frame} {meth : Method} {c : Code} {D : va_G} {B : Nat} {cy : Nat → ClassId} {H0 : Heap} {Q : State → Prop} {M : Mem} {R : Room} {Ps : Nat → Nat → Int} {mr rd k q hv ed t : Nat} {o : Wo} {Hs : Nat → Fw} {k0 : Nat} (F : CallFix p m c cX3_reckon 15 s args TB RX3) (hR1 : 5 ≤ R.frames) (hR2 : 133 ≤ R.locals) (hm6 : mr ≤ 6) (hS : CS M Ps mr (q, hv, ed, o) rd Hs k) (hO0 : isO M mr (odG mr t)) (hol : ∀ i, i < mr → odG mr t i < mr) (kk : ∀ (j : Nat) (Nc : Mem) (H : Heap) (locs : List Loc) (ls : Array Slot), (∀ i, i ≤ mr → CW Nc (114 + 3 * i) q hv ed (swW Ps q hv ed (odG mr t) i o)) → (FrL9 Nc M) → Wd D B cy s H0 Nc H locs → lv_has ls 15 [(10, .int (zI (t : Int))), (9, .int (zI (k0 : Int))), (8, .ref (B + (114 + 3 * mr))), (4, .long (KVl (sg9 Ps (q, hv, ed, o) mr))), (6, .long (LRl (sg9 Ps (q, hv, ed, o) mr))), (0, .ref (B + 109)), (1, .ref (B + 22)), (3, .int (zI (mr : Int)))] → W p l e R s m args below meth c H locs 0 0 Q (F0 m 161 ls [])) : ∀ (f : Nat) (j : Nat) (Nc : Mem), (j ≤ mr) → (∀ i, i ≤ j → CW Nc (114 + 3 * i) q hv ed (swW Ps q hv ed (odG mr t) i o)) → (FrL9 Nc M) → (mr ≤ j + f) → ∀ (H : Heap) (locs : List Loc) (ls : Array Slot), Wd D B cy s H0 Nc H locs → lv_has ls 15 [(11, .int (zI (j : Int))), (10, .int (zI (t : Int))), (9, .int (zI (k0 : Int))), (8, .ref (B + (114 + 3 * mr))), (4, .long (KVl (sg9 Ps (q, hv, ed, o) mr))), (6, .long (LRl (sg9 Ps (q, hv, ed, o) mr))), (0, .ref (B + 109)), (1, .ref (B + 22)), (3, .int (zI (mr : Int)))] → W p l e R s m args below meth c H locs 0 0 Q (F0 m 101 ls []) := by
  have hx := F.1
  have hb := F.2.1
  have hm8 := hS.1.2.1
  intro f
  induction f with
  | zero =>
    intro j Nc i0 i1 i2 hf H locs ls w hl
    refine lv_iload hx hb wdX3_reckon_101 (lv_at hl 0 rfl) ?_
    refine lv_iload_n hx hb wdX3_reckon_103 rfl (lv_at hl 8 rfl) ?_
    refine z_icmp_ge (tgt := 161) hx hb (by omega) (by omega) wdX3_reckon_104 (by decide) (fun c1 => ?_) (fun c1 => ?_)
    · exact kk j Nc _ _ ls (fun i hi => i1 i (by omega)) i2 w (lv_sub hl [1, 2, 3, 4, 5, 6, 7, 8] rfl)
    · refine lv_aload_n hx hb wdX3_reckon_107 rfl (lv_at hl 6 rfl) ?_
      refine f_3_4 F w (a := 109) rfl wtb_473 wdX3_reckon_108 ?_
      refine lv_iload hx hb wdX3_reckon_111 (lv_at hl 0 rfl) ?_
      refine lv_iconst (v := zI 1) hx hb wdX3_reckon_113 rfl ?_
      refine z_iadd (z := (((j + 1) : Nat) : Int)) hx hb wdX3_reckon_114 (by omega) ?_
      refine g_aldW F w (a := 111) rfl (j := (j + 1)) (o := (114 + 3 * (j + 1))) rfl (ix_n (by omega)) (by omega) wdX3_reckon_115 ?_
      refine lv_aload_n hx hb wdX3_reckon_116 rfl (lv_at hl 6 rfl) ?_
      refine f_3_4 F w (a := 109) rfl wtb_473 wdX3_reckon_117 ?_
      refine lv_iload hx hb wdX3_reckon_120 (lv_at hl 0 rfl) ?_
      refine g_aldW F w (a := 111) rfl (j := j) (o := (114 + 3 * j)) rfl (ix_n (by omega)) (by omega) wdX3_reckon_122 ?_
      refine k_Vv F w (As := [.ref (B + (114 + 3 * j))]) (rest := []) (a := (114 + 3 * (j + 1))) (kd_lt (a := (114 + 3 * (j + 1))) (kd_lev (by omega)) (by decide)) (sh_9 (kd_lev (by omega)) _ _) rfl (s_X9_copyFrom (a := 114 + 3 * (j + 1)) (kd_lev (by omega)) (b := 114 + 3 * j) (kd_lev (by omega)) (i1 j (Nat.le_refl j)).1 (by omega) (i1 j (Nat.le_refl j)).2.1.1) wgv_X3_60 whv_X9_copyFrom ⟨(by omega), (by omega)⟩ hl.1 rfl (Nat.le_of_ble_eq_true rfl) ⟨Nat.zero_le _, Nat.zero_le _⟩ wdX3_reckon_123 (fun Ma2 H locs hp w => ?_)
      rcases hp with ⟨hW2, hF2⟩
      have hC2 : CW Ma2 (114 + 3 * (j + 1)) q hv ed (swW Ps q hv ed (odG mr t) j o) := ⟨hW2, (i1 j (Nat.le_refl j)).2⟩
      have hog := hol j (by omega)
      refine lv_aload_n hx hb wdX3_reckon_126 rfl (lv_at hl 7 rfl) ?_
      refine f_0_0 F w (a := 22) rfl wtb_475 wdX3_reckon_127 ?_
      refine lv_aload_n hx hb wdX3_reckon_130 rfl (lv_at hl 7 rfl) ?_
      refine f_0_1 F w (a := 22) rfl wtb_476 wdX3_reckon_131 ?_
      refine lv_aload_n hx hb wdX3_reckon_134 rfl (lv_at hl 6 rfl) ?_
      refine f_3_3 F w (a := 109) rfl wtb_465 wdX3_reckon_135 ?_
      refine lv_iload hx hb wdX3_reckon_138 (lv_at hl 0 rfl) ?_
      refine g_iald F w (a := 110) rfl (j := j) (ix_n (by omega)) (by omega) wdX3_reckon_140 ?_
      refine r_val (v := (zI (((odG mr t j) : Nat) : Int))) (((congrFun (hF2.1 110 (by omega) (by omega) (by omega)) j).trans ((congrFun (i2.1 110 (by decide) (by decide)) j).trans (hO0 j (by omega))))) ?_
      refine g_aldR F w (a := 24) rfl (j := (odG mr t j)) (o := (28 + 2 * (odG mr t j))) rfl (ix_n (by omega)) (by omega) wdX3_reckon_141 ?_
      refine lv_aload_n hx hb wdX3_reckon_142 rfl (lv_at hl 6 rfl) ?_
      refine f_3_4 F w (a := 109) rfl wtb_473 wdX3_reckon_143 ?_
      refine lv_iload hx hb wdX3_reckon_146 (lv_at hl 0 rfl) ?_
      refine lv_iconst (v := zI 1) hx hb wdX3_reckon_148 rfl ?_
      refine z_iadd (z := (((j + 1) : Nat) : Int)) hx hb wdX3_reckon_149 (by omega) ?_
      refine g_aldW F w (a := 111) rfl (j := (j + 1)) (o := (114 + 3 * (j + 1))) rfl (ix_n (by omega)) (by omega) wdX3_reckon_150 ?_
      refine k_Vi F w (As := [.ref (B + (28 + 2 * (odG mr t j))), .ref (B + (114 + 3 * (j + 1)))]) (rest := []) (a := 23) (kd_lt (a := 23) (show kd 23 = (1, 0, 0) from rfl) (by decide)) (sh_1 rfl _ _) rfl (s_X1_perform (a := 114 + 3 * (j + 1)) (kd_lev (by omega)) hC2 (ru := 28 + 2 * odG mr t j) (kd_lst (by omega)) (((CS.lv hS i2).1.2.2 (odG mr t j) (by omega)).1.fr (hF2.1 _ (by omega) (by omega) (by omega))) ((CS.lv hS i2).1.2.2 (odG mr t j) (by omega)).2) wgv_X3_72 whv_X1_perform ⟨(by omega), (by omega)⟩ hl.1 rfl (Nat.le_of_ble_eq_true rfl) ⟨Nat.zero_le _, Nat.zero_le _⟩ wdX3_reckon_151 (fun r Ma3 H locs hp w => ?_)
      rcases hp with ⟨o2, dd, pp, e2, rfl, hC3, hF3, hpp, hdd, hp20⟩
      refine lv_pop hx hb wdX3_reckon_154 rfl ?_
      refine z_iinc (v := (((j + 1) : Nat) : Int)) (lv' := [(11, .int (zI (((j + 1) : Nat) : Int))), (10, .int (zI (t : Int))), (9, .int (zI (k0 : Int))), (8, .ref (B + (114 + 3 * mr))), (4, .long (KVl (sg9 Ps (q, hv, ed, o) mr))), (6, .long (LRl (sg9 Ps (q, hv, ed, o) mr))), (0, .ref (B + 109)), (1, .ref (B + 22)), (3, .int (zI (mr : Int)))]) hx hb wdX3_reckon_155 hl (k := 0) rfl (by omega) (by decide) rfl (fun ls hl => ?_)
      refine lv_goto (tgt := 101) hx hb wdX3_reckon_158 (by decide) ?_
      exact False.elim (by omega)
  | succ f ih =>
    intro j Nc i0 i1 i2 hf H locs ls w hl
    refine lv_iload hx hb wdX3_reckon_101 (lv_at hl 0 rfl) ?_
    refine lv_iload_n hx hb wdX3_reckon_103 rfl (lv_at hl 8 rfl) ?_
    refine z_icmp_ge (tgt := 161) hx hb (by omega) (by omega) wdX3_reckon_104 (by decide) (fun c1 => ?_) (fun c1 => ?_)
    · exact kk j Nc _ _ ls (fun i hi => i1 i (by omega)) i2 w (lv_sub hl [1, 2, 3, 4, 5, 6, 7, 8] rfl)
    · refine lv_aload_n hx hb wdX3_reckon_107 rfl (lv_at hl 6 rfl) ?_
      refine f_3_4 F w (a := 109) rfl wtb_473 wdX3_reckon_108 ?_
      refine lv_iload hx hb wdX3_reckon_111 (lv_at hl 0 rfl) ?_
      refine lv_iconst (v := zI 1) hx hb wdX3_reckon_113 rfl ?_
      refine z_iadd (z := (((j + 1) : Nat) : Int)) hx hb wdX3_reckon_114 (by omega) ?_
      refine g_aldW F w (a := 111) rfl (j := (j + 1)) (o := (114 + 3 * (j + 1))) rfl (ix_n (by omega)) (by omega) wdX3_reckon_115 ?_
      refine lv_aload_n hx hb wdX3_reckon_116 rfl (lv_at hl 6 rfl) ?_
      refine f_3_4 F w (a := 109) rfl wtb_473 wdX3_reckon_117 ?_
      refine lv_iload hx hb wdX3_reckon_120 (lv_at hl 0 rfl) ?_
      refine g_aldW F w (a := 111) rfl (j := j) (o := (114 + 3 * j)) rfl (ix_n (by omega)) (by omega) wdX3_reckon_122 ?_
      refine k_Vv F w (As := [.ref (B + (114 + 3 * j))]) (rest := []) (a := (114 + 3 * (j + 1))) (kd_lt (a := (114 + 3 * (j + 1))) (kd_lev (by omega)) (by decide)) (sh_9 (kd_lev (by omega)) _ _) rfl (s_X9_copyFrom (a := 114 + 3 * (j + 1)) (kd_lev (by omega)) (b := 114 + 3 * j) (kd_lev (by omega)) (i1 j (Nat.le_refl j)).1 (by omega) (i1 j (Nat.le_refl j)).2.1.1) wgv_X3_60 whv_X9_copyFrom ⟨(by omega), (by omega)⟩ hl.1 rfl (Nat.le_of_ble_eq_true rfl) ⟨Nat.zero_le _, Nat.zero_le _⟩ wdX3_reckon_123 (fun Ma2 H locs hp w => ?_)
      rcases hp with ⟨hW2, hF2⟩
      have hC2 : CW Ma2 (114 + 3 * (j + 1)) q hv ed (swW Ps q hv ed (odG mr t) j o) := ⟨hW2, (i1 j (Nat.le_refl j)).2⟩
      have hog := hol j (by omega)
      refine lv_aload_n hx hb wdX3_reckon_126 rfl (lv_at hl 7 rfl) ?_
      refine f_0_0 F w (a := 22) rfl wtb_475 wdX3_reckon_127 ?_
      refine lv_aload_n hx hb wdX3_reckon_130 rfl (lv_at hl 7 rfl) ?_
      refine f_0_1 F w (a := 22) rfl wtb_476 wdX3_reckon_131 ?_
      refine lv_aload_n hx hb wdX3_reckon_134 rfl (lv_at hl 6 rfl) ?_
      refine f_3_3 F w (a := 109) rfl wtb_465 wdX3_reckon_135 ?_
      refine lv_iload hx hb wdX3_reckon_138 (lv_at hl 0 rfl) ?_
      refine g_iald F w (a := 110) rfl (j := j) (ix_n (by omega)) (by omega) wdX3_reckon_140 ?_
      refine r_val (v := (zI (((odG mr t j) : Nat) : Int))) (((congrFun (hF2.1 110 (by omega) (by omega) (by omega)) j).trans ((congrFun (i2.1 110 (by decide) (by decide)) j).trans (hO0 j (by omega))))) ?_
      refine g_aldR F w (a := 24) rfl (j := (odG mr t j)) (o := (28 + 2 * (odG mr t j))) rfl (ix_n (by omega)) (by omega) wdX3_reckon_141 ?_
      refine lv_aload_n hx hb wdX3_reckon_142 rfl (lv_at hl 6 rfl) ?_
      refine f_3_4 F w (a := 109) rfl wtb_473 wdX3_reckon_143 ?_
      refine lv_iload hx hb wdX3_reckon_146 (lv_at hl 0 rfl) ?_
      refine lv_iconst (v := zI 1) hx hb wdX3_reckon_148 rfl ?_
      refine z_iadd (z := (((j + 1) : Nat) : Int)) hx hb wdX3_reckon_149 (by omega) ?_
      refine g_aldW F w (a := 111) rfl (j := (j + 1)) (o := (114 + 3 * (j + 1))) rfl (ix_n (by omega)) (by omega) wdX3_reckon_150 ?_
      refine k_Vi F w (As := [.ref (B + (28 + 2 * (odG mr t j))), .ref (B + (114 + 3 * (j + 1)))]) (rest := []) (a := 23) (kd_lt (a := 23) (show kd 23 = (1, 0, 0) from rfl) (by decide)) (sh_1 rfl _ _) rfl (s_X1_perform (a := 114 + 3 * (j + 1)) (kd_lev (by omega)) hC2 (ru := 28 + 2 * odG mr t j) (kd_lst (by omega)) (((CS.lv hS i2).1.2.2 (odG mr t j) (by omega)).1.fr (hF2.1 _ (by omega) (by omega) (by omega))) ((CS.lv hS i2).1.2.2 (odG mr t j) (by omega)).2) wgv_X3_72 whv_X1_perform ⟨(by omega), (by omega)⟩ hl.1 rfl (Nat.le_of_ble_eq_true rfl) ⟨Nat.zero_le _, Nat.zero_le _⟩ wdX3_reckon_151 (fun r Ma3 H locs hp w => ?_)
      rcases hp with ⟨o2, dd, pp, e2, rfl, hC3, hF3, hpp, hdd, hp20⟩
      refine lv_pop hx hb wdX3_reckon_154 rfl ?_
      refine z_iinc (v := (((j + 1) : Nat) : Int)) (lv' := [(11, .int (zI (((j + 1) : Nat) : Int))), (10, .int (zI (t : Int))), (9, .int (zI (k0 : Int))), (8, .ref (B + (114 + 3 * mr))), (4, .long (KVl (sg9 Ps (q, hv, ed, o) mr))), (6, .long (LRl (sg9 Ps (q, hv, ed, o) mr))), (0, .ref (B + 109)), (1, .ref (B + 22)), (3, .int (zI (mr : Int)))]) hx hb wdX3_reckon_155 hl (k := 0) rfl (by omega) (by decide) rfl (fun ls hl => ?_)
      refine lv_goto (tgt := 101) hx hb wdX3_reckon_158 (by decide) ?_
      exact ih (j + 1) Ma3 (by omega) (fun i hi => by by_cases h9 : i = j + 1; (rw [h9, swo_s e2]; exact hC3); exact (CW.fr (i1 i (by omega)) ((hF3.1 _ (by omega) (by omega) (by omega) (by omega)).trans (hF2.1 _ (by omega) (by omega) (by omega))) ((hF3.1 _ (by omega) (by omega) (by omega) (by omega)).trans (hF2.1 _ (by omega) (by omega) (by omega))) ((hF3.1 _ (by omega) (by omega) (by omega) (by omega)).trans (hF2.1 _ (by omega) (by omega) (by omega))))) (i2.cp hF2 hF3 (by omega)) (by omega) _ _ ls w (lv_sub hl [0, 1, 2, 3, 4, 5, 6, 7, 8] rfl)
theorem wdX3_reckon_83 : decode cX3_reckon 83 = .ok (.iload 10, 2) := dX3_reckon_83
theorem wdX3_reckon_85 : decode cX3_reckon 85 = .ok (.sipush 720, 3) := dX3_reckon_85
theorem wdX3_reckon_88 : decode cX3_reckon 88 = .ok (.if_icmp .ge 138, 3) := dX3_reckon_88
theorem wdX3_reckon_91 : decode cX3_reckon 91 = .ok (.iload 9, 2) := dX3_reckon_91
theorem wdX3_reckon_93 : decode cX3_reckon 93 = .ok (.iconst (-1), 1) := dX3_reckon_93
theorem wdX3_reckon_94 : decode cX3_reckon 94 = .ok (.if_icmp .eq 132, 3) := dX3_reckon_94
theorem wdX3_reckon_97 : decode cX3_reckon 97 = .ok (.iload 9, 2) := dX3_reckon_97
theorem wdX3_reckon_99 : decode cX3_reckon 99 = .ok (.istore 11, 2) := dX3_reckon_99
theorem wdX3_reckon_161 : decode cX3_reckon 161 = .ok (.aload 8, 2) := dX3_reckon_161
theorem wdX3_reckon_163 : decode cX3_reckon 163 = .ok (.invokevirtual 51, 3) := dX3_reckon_163
theorem wtb_478 : Cond.methodLink "ToneLines$Orders" 51 yX9_kindsRead ∈ TB := tb_217
theorem wgv_X3_51 : GoodIn TB (wsV RX3 51 RX9 yX9_kindsRead (cw yX9_kindsRead cX9_kindsRead 5 (some .long))) := goodIn_4 wtb_478 wtb_380 wtb_381 wtb_3 wgc_X9_kindsRead
theorem wdX3_reckon_166 : decode cX3_reckon 166 = .ok (.lstore 11, 2) := dX3_reckon_166
theorem wdX3_reckon_168 : decode cX3_reckon 168 = .ok (.aload 8, 2) := dX3_reckon_168
theorem wdX3_reckon_170 : decode cX3_reckon 170 = .ok (.invokevirtual 54, 3) := dX3_reckon_170
theorem wtb_479 : Cond.methodLink "ToneLines$Orders" 54 yX9_linesRead ∈ TB := tb_218
theorem wgv_X3_54 : GoodIn TB (wsV RX3 54 RX9 yX9_linesRead (cw yX9_linesRead cX9_linesRead 5 (some .long))) := goodIn_4 wtb_479 wtb_383 wtb_384 wtb_3 wgc_X9_linesRead
theorem wdX3_reckon_173 : decode cX3_reckon 173 = .ok (.lstore 13, 2) := dX3_reckon_173
theorem wdX3_reckon_175 : decode cX3_reckon 175 = .ok (.aload_n 0, 1) := dX3_reckon_175
theorem wdX3_reckon_176 : decode cX3_reckon 176 = .ok (.lload 11, 2) := dX3_reckon_176
theorem wdX3_reckon_178 : decode cX3_reckon 178 = .ok (.lload 13, 2) := dX3_reckon_178
theorem wdX3_reckon_180 : decode cX3_reckon 180 = .ok (.invokevirtual 78, 3) := dX3_reckon_180
theorem wtk_X3_enter : Cond.code yX3_enter cX3_enter 6 none ∈ TB := tk_X3_enter
theorem wgc_X3_enter : GoodIn TB (cw yX3_enter cX3_enter 6 none) := goodIn_c2 wtk_X3_enter
theorem wtb_480 : Cond.methodLink "ToneLines$Orders" 78 yX3_enter ∈ TB := tb_223
theorem wtb_481 : Cond.instanceMethod yX3_enter ∈ TB := tb_224
theorem wtb_482 : Cond.selects "ToneLines$Orders" yX3_enter yX3_enter ∈ TB := tb_225
theorem wgv_X3_78 : GoodIn TB (wsV RX3 78 RX3 yX3_enter (cw yX3_enter cX3_enter 6 none)) := goodIn_4 wtb_480 wtb_481 wtb_482 wtb_469 wgc_X3_enter
theorem whv_X3_enter : yX3_enter.cls = RX3 ∧ yX3_enter.cls ≠ "java/lang/invoke/MethodHandle" ∧ yX3_enter.cls ≠ "java/lang/invoke/VarHandle" ∧ (parseMethodDescriptor yX3_enter.desc).map (fun d => d.parameters.length) = some 2 := hv_X3_enter
theorem wdX3_reckon_183 : decode cX3_reckon 183 = .ok (.aload_n 0, 1) := dX3_reckon_183
theorem wdX3_reckon_184 : decode cX3_reckon 184 = .ok (.dup, 1) := dX3_reckon_184
theorem wdX3_reckon_185 : decode cX3_reckon 185 = .ok (.getfield 19, 3) := dX3_reckon_185
theorem wtb_483 : Cond.fieldLink "ToneLines$Orders" 19 "ToneLines$Orders" "same" "I" ∈ TB := tb_222
theorem wdX3_reckon_188 : decode cX3_reckon 188 = .ok (.lload 11, 2) := dX3_reckon_188
theorem wdX3_reckon_190 : decode cX3_reckon 190 = .ok (.lload 4, 2) := dX3_reckon_190
theorem wdX3_reckon_192 : decode cX3_reckon 192 = .ok (.lcmp, 1) := dX3_reckon_192
theorem wdX3_reckon_193 : decode cX3_reckon 193 = .ok (.ifCond .ne 15, 3) := dX3_reckon_193
theorem wdX3_reckon_208 : decode cX3_reckon 208 = .ok (.iconst 0, 1) := dX3_reckon_208
theorem wdX3_reckon_209 : decode cX3_reckon 209 = .ok (.iadd, 1) := dX3_reckon_209
theorem wdX3_reckon_210 : decode cX3_reckon 210 = .ok (.putfield 19, 3) := dX3_reckon_210
theorem wdX3_reckon_213 : decode cX3_reckon 213 = .ok (.aload_n 0, 1) := dX3_reckon_213
theorem wdX3_reckon_214 : decode cX3_reckon 214 = .ok (.iload_n 3, 1) := dX3_reckon_214
theorem wdX3_reckon_215 : decode cX3_reckon 215 = .ok (.invokevirtual 82, 3) := dX3_reckon_215
theorem wtk_X3_nextOrder : Cond.code yX3_nextOrder cX3_nextOrder 6 (some .int) ∈ TB := tk_X3_nextOrder
theorem wgc_X3_nextOrder : GoodIn TB (cw yX3_nextOrder cX3_nextOrder 6 (some .int)) := goodIn_c2 wtk_X3_nextOrder
theorem wtb_484 : Cond.methodLink "ToneLines$Orders" 82 yX3_nextOrder ∈ TB := tb_226
theorem wtb_485 : Cond.instanceMethod yX3_nextOrder ∈ TB := tb_227
theorem wtb_486 : Cond.selects "ToneLines$Orders" yX3_nextOrder yX3_nextOrder ∈ TB := tb_228
theorem wgv_X3_82 : GoodIn TB (wsV RX3 82 RX3 yX3_nextOrder (cw yX3_nextOrder cX3_nextOrder 6 (some .int))) := goodIn_4 wtb_484 wtb_485 wtb_486 wtb_469 wgc_X3_nextOrder
theorem whv_X3_nextOrder : yX3_nextOrder.cls = RX3 ∧ yX3_nextOrder.cls ≠ "java/lang/invoke/MethodHandle" ∧ yX3_nextOrder.cls ≠ "java/lang/invoke/VarHandle" ∧ (parseMethodDescriptor yX3_nextOrder.desc).map (fun d => d.parameters.length) = some 1 := hv_X3_nextOrder
theorem wdX3_reckon_218 : decode cX3_reckon 218 = .ok (.istore 9, 2) := dX3_reckon_218
theorem wdX3_reckon_220 : decode cX3_reckon 220 = .ok (.iinc 10 1, 3) := dX3_reckon_220
theorem wdX3_reckon_223 : decode cX3_reckon 223 = .ok (.goto (-140), 3) := dX3_reckon_223
theorem wdX3_reckon_196 : decode cX3_reckon 196 = .ok (.lload 13, 2) := dX3_reckon_196
theorem wdX3_reckon_198 : decode cX3_reckon 198 = .ok (.lload 6, 2) := dX3_reckon_198
theorem wdX3_reckon_200 : decode cX3_reckon 200 = .ok (.lcmp, 1) := dX3_reckon_200
theorem wdX3_reckon_201 : decode cX3_reckon 201 = .ok (.ifCond .ne 7, 3) := dX3_reckon_201
theorem wdX3_reckon_204 : decode cX3_reckon 204 = .ok (.iconst 1, 1) := dX3_reckon_204
theorem wdX3_reckon_205 : decode cX3_reckon 205 = .ok (.goto 4, 3) := dX3_reckon_205
set_option maxRecDepth 4000 in
theorem lp_X3_reckon2 {p : Program} {l : Launch} {e : Env} {s : State} {m : MethodId} {args : Array Value} {below : List Frame} {meth : Method} {c : Code} {D : va_G} {B : Nat} {cy : Nat → ClassId} {H0 : Heap} {Q : State → Prop} {M : Mem} {R : Room} {Ps : Nat → Nat → Int} {mr rd k q hv ed : Nat} {o : Wo} {Hs : Nat → Fw} (F : CallFix p m c cX3_reckon 15 s args TB RX3) (hR1 : 5 ≤ R.frames) (hR2 : 133 ≤ R.locals) (hm6 : mr ≤ 6) (hkW : ∀ t, t < ftl mr → okW q (odW Ps mr (q, hv, ed, o) t) ∧ ncW (odW Ps mr (q, hv, ed, o) t)) (hokM : okW q (sg9 Ps (q, hv, ed, o) mr)) (hncm : ncW (sg9 Ps (q, hv, ed, o) mr)) (kk : ∀ (t : Nat) (Nm : Mem) (H : Heap) (locs : List Loc) (ls : Array Slot), (CS Nm Ps mr (q, hv, ed, o) rd Hs k) → (isE Nm (odW Ps mr (q, hv, ed, o)) (rpF q (odW Ps mr (q, hv, ed, o)) (ftl mr))) → (Nm.1 109 2 = zI ((smF q (odW Ps mr (q, hv, ed, o)) (sg9 Ps (q, hv, ed, o) mr) (ftl mr) : Nat) : Int)) → Wd D B cy s H0 Nm H locs → lv_has ls 15 [(0, .ref (B + 109))] → W p l e R s m args below meth c H locs 0 0 Q (F0 m 226 ls [])) : ∀ (f : Nat) (t : Nat) (Nm : Mem), (t ≤ ftl mr) → (CS Nm Ps mr (q, hv, ed, o) rd Hs k) → (isE Nm (odW Ps mr (q, hv, ed, o)) (rpF q (odW Ps mr (q, hv, ed, o)) t)) → (Nm.1 109 2 = zI ((smF q (odW Ps mr (q, hv, ed, o)) (sg9 Ps (q, hv, ed, o) mr) t : Nat) : Int)) → (t < ftl mr → isO Nm mr (odG mr t) ∧ ∀ j, j + 1 ≤ odK mr t → CW Nm (114 + 3 * j) q hv ed (swW Ps q hv ed (odG mr t) j o)) → (ftl mr ≤ t + f) → ∀ (H : Heap) (locs : List Loc) (ls : Array Slot), Wd D B cy s H0 Nm H locs → lv_has ls 15 [(10, .int (zI (t : Int))), (9, .int (zI (((odK mr t : Nat) : Int) - 1))), (8, .ref (B + (114 + 3 * mr))), (4, .long (KVl (sg9 Ps (q, hv, ed, o) mr))), (6, .long (LRl (sg9 Ps (q, hv, ed, o) mr))), (0, .ref (B + 109)), (1, .ref (B + 22)), (3, .int (zI (mr : Int)))] → W p l e R s m args below meth c H locs 0 0 Q (F0 m 83 ls []) := by
  have hx := F.1
  have hb := F.2.1
  have hfb := fct_b hm6
  intro f
  induction f with
  | zero =>
    intro t Nm i0 i1 i2 i3 i4 hf H locs ls w hl
    have hkt9 := odK_c (n := mr) (t := t) hm6 i0
    have hsm := sm_le (q := q) (w := (odW Ps mr (q, hv, ed, o))) (d := (sg9 Ps (q, hv, ed, o) mr)) t
    refine lv_iload hx hb wdX3_reckon_83 (lv_at hl 0 rfl) ?_
    refine lv_sipush (v := zI 720) hx hb wdX3_reckon_85 (by decide) ?_
    refine z_icmp_ge (tgt := 226) hx hb (by omega) (by omega) wdX3_reckon_88 (by decide) (fun c1 => ?_) (fun c1 => ?_)
    · exact kk t Nm _ _ ls i1 (by have h9 := i2; rw [show t = ftl mr by omega] at h9; exact h9) (by have h9 := i3; rw [show t = ftl mr by omega] at h9; exact h9) w (lv_sub hl [5] rfl)
    · refine lv_iload hx hb wdX3_reckon_91 (lv_at hl 1 rfl) ?_
      refine lv_iconst (v := zI (-1)) hx hb wdX3_reckon_93 rfl ?_
      refine z_icmp_eq (tgt := 226) hx hb (by omega) (by omega) wdX3_reckon_94 (by decide) (fun c2 => ?_) (fun c2 => False.elim (by omega))
      exact kk t Nm _ _ ls i1 (by have h9 := i2; rw [show t = ftl mr by omega] at h9; exact h9) (by have h9 := i3; rw [show t = ftl mr by omega] at h9; exact h9) w (lv_sub hl [5] rfl)
  | succ f ih =>
    intro t Nm i0 i1 i2 i3 i4 hf H locs ls w hl
    have hkt9 := odK_c (n := mr) (t := t) hm6 i0
    have hsm := sm_le (q := q) (w := (odW Ps mr (q, hv, ed, o))) (d := (sg9 Ps (q, hv, ed, o) mr)) t
    refine lv_iload hx hb wdX3_reckon_83 (lv_at hl 0 rfl) ?_
    refine lv_sipush (v := zI 720) hx hb wdX3_reckon_85 (by decide) ?_
    refine z_icmp_ge (tgt := 226) hx hb (by omega) (by omega) wdX3_reckon_88 (by decide) (fun c1 => ?_) (fun c1 => ?_)
    · exact kk t Nm _ _ ls i1 (by have h9 := i2; rw [show t = ftl mr by omega] at h9; exact h9) (by have h9 := i3; rw [show t = ftl mr by omega] at h9; exact h9) w (lv_sub hl [5] rfl)
    · refine lv_iload hx hb wdX3_reckon_91 (lv_at hl 1 rfl) ?_
      refine lv_iconst (v := zI (-1)) hx hb wdX3_reckon_93 rfl ?_
      refine z_icmp_eq (tgt := 226) hx hb (by omega) (by omega) wdX3_reckon_94 (by decide) (fun c2 => ?_) (fun c2 => ?_)
      · exact kk t Nm _ _ ls i1 (by have h9 := i2; rw [show t = ftl mr by omega] at h9; exact h9) (by have h9 := i3; rw [show t = ftl mr by omega] at h9; exact h9) w (lv_sub hl [5] rfl)
      · have htf : t < ftl mr := by omega
        obtain ⟨hO0, hL0⟩ := i4 htf
        obtain ⟨k0, hk0⟩ : ∃ k0, odK mr t = k0 + 1 := ⟨odK mr t - 1, by omega⟩
        replace hl : lv_has ls 15 [(10, .int (zI (t : Int))), (9, .int (zI (k0 : Int))), (8, .ref (B + (114 + 3 * mr))), (4, .long (KVl (sg9 Ps (q, hv, ed, o) mr))), (6, .long (LRl (sg9 Ps (q, hv, ed, o) mr))), (0, .ref (B + 109)), (1, .ref (B + 22)), (3, .int (zI (mr : Int)))] := by rw [hk0, show ((k0 + 1 : Nat) : Int) - 1 = (k0 : Int) by omega] at hl; exact hl
        refine lv_iload hx hb wdX3_reckon_97 (lv_at hl 1 rfl) ?_
        refine lv_istore (lv' := [(11, .int (zI (k0 : Int))), (10, .int (zI (t : Int))), (9, .int (zI (k0 : Int))), (8, .ref (B + (114 + 3 * mr))), (4, .long (KVl (sg9 Ps (q, hv, ed, o) mr))), (6, .long (LRl (sg9 Ps (q, hv, ed, o) mr))), (0, .ref (B + 109)), (1, .ref (B + 22)), (3, .int (zI (mr : Int)))]) hx hb wdX3_reckon_99 hl (by decide) rfl (fun ls hl => ?_)
        refine lp_X3_reckon3  F (by omega) (by omega) hm6 i1 hO0 (od_lt hm6 htf) (fun j Nc H locs ls x0 x1 w hl => ?_) mr k0 Nm (by omega) (fun i hi => hL0 i (by omega)) FrL9.rf (by omega) _ _ ls w (lv_sub hl [0, 1, 2, 3, 4, 5, 6, 7, 8] rfl)
        have hCt : CW Nc (114 + 3 * mr) q hv ed (odW Ps mr (q, hv, ed, o) t) := x0 mr (Nat.le_refl mr)
        have hE1 : isE Nc (odW Ps mr (q, hv, ed, o)) (rpF q (odW Ps mr (q, hv, ed, o)) t) := i2.fr (congrFun (x1.1 109 (by decide) (by decide)) 1) x1.2
        have hCt : CW Nc (114 + 3 * mr) q hv ed (odW Ps mr (q, hv, ed, o) t) := x0 mr (Nat.le_refl mr)
        have hE1 : isE Nc (odW Ps mr (q, hv, ed, o)) (rpF q (odW Ps mr (q, hv, ed, o)) t) := i2.fr (congrFun (x1.1 109 (by decide) (by decide)) 1) x1.2
        refine lv_aload hx hb wdX3_reckon_161 (lv_at hl 2 rfl) ?_
        refine x_Vl F w (As := []) (rest := []) (a := (114 + 3 * mr)) (kd_lt (a := (114 + 3 * mr)) (kd_lev (by omega)) (by decide)) (sh_9 (kd_lev (by omega)) _ _) rfl (h_kR (a := 114 + 3 * mr) (kd_lev (by omega)) hCt) wgv_X3_51 whv_X9_kindsRead ⟨(by omega), (by omega)⟩ hl.1 rfl (Nat.le_of_ble_eq_true rfl) ⟨Nat.zero_le _, Nat.zero_le _⟩ wdX3_reckon_163 (fun H locs w => ?_)
        refine lv_lstore (lv' := [(11, .long (KVl (odW Ps mr (q, hv, ed, o) t))), (10, .int (zI (t : Int))), (9, .int (zI (k0 : Int))), (8, .ref (B + (114 + 3 * mr))), (4, .long (KVl (sg9 Ps (q, hv, ed, o) mr))), (6, .long (LRl (sg9 Ps (q, hv, ed, o) mr))), (0, .ref (B + 109)), (1, .ref (B + 22)), (3, .int (zI (mr : Int)))]) hx hb wdX3_reckon_166 hl (by decide) rfl (fun ls hl => ?_)
        refine lv_aload hx hb wdX3_reckon_168 (lv_at hl 3 rfl) ?_
        refine x_Vl F w (As := []) (rest := []) (a := (114 + 3 * mr)) (kd_lt (a := (114 + 3 * mr)) (kd_lev (by omega)) (by decide)) (sh_9 (kd_lev (by omega)) _ _) rfl (h_lR (a := 114 + 3 * mr) (kd_lev (by omega)) hCt) wgv_X3_54 whv_X9_linesRead ⟨(by omega), (by omega)⟩ hl.1 rfl (Nat.le_of_ble_eq_true rfl) ⟨Nat.zero_le _, Nat.zero_le _⟩ wdX3_reckon_170 (fun H locs w => ?_)
        refine lv_lstore (lv' := [(13, .long (LRl (odW Ps mr (q, hv, ed, o) t))), (11, .long (KVl (odW Ps mr (q, hv, ed, o) t))), (10, .int (zI (t : Int))), (9, .int (zI (k0 : Int))), (8, .ref (B + (114 + 3 * mr))), (4, .long (KVl (sg9 Ps (q, hv, ed, o) mr))), (6, .long (LRl (sg9 Ps (q, hv, ed, o) mr))), (0, .ref (B + 109)), (1, .ref (B + 22)), (3, .int (zI (mr : Int)))]) hx hb wdX3_reckon_173 hl (by decide) rfl (fun ls hl => ?_)
        refine lv_aload_n hx hb wdX3_reckon_175 rfl (lv_at hl 7 rfl) ?_
        refine lv_lload hx hb wdX3_reckon_176 (lv_at hl 1 rfl) ?_
        refine lv_lload hx hb wdX3_reckon_178 (lv_at hl 0 rfl) ?_
        refine k_Vv F w (As := [.long (KVl (odW Ps mr (q, hv, ed, o) t)), .long (LRl (odW Ps mr (q, hv, ed, o) t))]) (rest := []) (a := 109) (kd_lt (a := 109) (show kd 109 = (3, 0, 0) from rfl) (by decide)) (sh_3 rfl _ _) rfl (h_enter (q := q) (t := t) (w9 := (odW Ps mr (q, hv, ed, o))) hE1 (by omega) (fun i hi => hkW i (by omega))) wgv_X3_78 whv_X3_enter ⟨(by omega), (by omega)⟩ hl.1 rfl (Nat.le_of_ble_eq_true rfl) ⟨Nat.zero_le _, Nat.zero_le _⟩ wdX3_reckon_180 (fun Ma5 H locs hp w => ?_)
        rcases hp with ⟨hE2, hF5⟩
        refine lv_aload_n hx hb wdX3_reckon_183 rfl (lv_at hl 7 rfl) ?_
        refine lv_dup hx hb wdX3_reckon_184 rfl ?_
        refine f_3_2 F w (a := 109) rfl wtb_483 wdX3_reckon_185 ?_
        refine r_val (v := (zI (((smF q (odW Ps mr (q, hv, ed, o)) (sg9 Ps (q, hv, ed, o) mr) t) : Nat) : Int))) (((hF5.2 2 (by decide)).trans ((congrFun (x1.1 109 (by decide) (by decide)) 2).trans i3))) ?_
        refine lv_lload hx hb wdX3_reckon_188 (lv_at hl 1 rfl) ?_
        refine lv_lload hx hb wdX3_reckon_190 (lv_at hl 5 rfl) ?_
        refine W.lcmp hx hb wdX3_reckon_192 ?_
        obtain ⟨lc6, blc6, elc6⟩ := rg_ex (lg_cmp (KVl (odW Ps mr (q, hv, ed, o) t)) (KVl (sg9 Ps (q, hv, ed, o) mr)))
        refine r_val elc6 ?_
        refine z_if_ne (tgt := 208) hx hb (by omega) wdX3_reckon_193 (by decide) (fun c7 => ?_) (fun c7 => ?_)
        · refine lv_iconst (v := zI 0) hx hb wdX3_reckon_208 rfl ?_
          refine z_iadd (z := ((((smF q (odW Ps mr (q, hv, ed, o)) (sg9 Ps (q, hv, ed, o) mr) t) + 0) : Nat) : Int)) hx hb wdX3_reckon_209 (by omega) ?_
          refine u_3_2 F w (a := 109) rfl wtb_483 wdX3_reckon_210 (fun H locs w => ?_)
          have hO3 : isO (st Ma5 109 2 (zI ((((smF q (odW Ps mr (q, hv, ed, o)) (sg9 Ps (q, hv, ed, o) mr) t) + 0) : Nat) : Int))) mr (odG mr t) := hO0.fr ((st_ob (by decide)).trans ((hF5.1 110 (by decide)).trans (x1.1 110 (by decide) (by decide))))
          have hO3 : isO (st Ma5 109 2 (zI ((((smF q (odW Ps mr (q, hv, ed, o)) (sg9 Ps (q, hv, ed, o) mr) t) + 0) : Nat) : Int))) mr (odG mr t) := hO0.fr ((st_ob (by decide)).trans ((hF5.1 110 (by decide)).trans (x1.1 110 (by decide) (by decide))))
          refine lv_aload_n hx hb wdX3_reckon_213 rfl (lv_at hl 7 rfl) ?_
          refine lv_iload_n hx hb wdX3_reckon_214 rfl (lv_at hl 9 rfl) ?_
          refine k_Vi F w (As := [.int (zI (mr : Int))]) (rest := []) (a := 109) (kd_lt (a := 109) (show kd 109 = (3, 0, 0) from rfl) (by decide)) (sh_3 rfl _ _) rfl (h_next (n := mr) hO3 hm6 (fun k hk => Nat.lt_of_lt_of_le (od_lt hm6 htf k hk) (by omega))) wgv_X3_82 whv_X3_nextOrder ⟨(by omega), (by omega)⟩ hl.1 rfl (Nat.le_of_ble_eq_true rfl) ⟨Nat.zero_le _, Nat.zero_le _⟩ wdX3_reckon_215 (fun r Ma8 H locs hp w => ?_)
          rcases hp with ⟨rfl, hO4, hF6⟩
          refine r_val (v := zI (((odK mr (t + 1) : Nat) : Int) - 1)) rfl ?_
          refine r_val (v := zI (((odK mr (t + 1) : Nat) : Int) - 1)) rfl ?_
          refine lv_istore (lv' := [(9, .int (zI (((odK mr (t + 1) : Nat) : Int) - 1))), (13, .long (LRl (odW Ps mr (q, hv, ed, o) t))), (11, .long (KVl (odW Ps mr (q, hv, ed, o) t))), (10, .int (zI (t : Int))), (8, .ref (B + (114 + 3 * mr))), (4, .long (KVl (sg9 Ps (q, hv, ed, o) mr))), (6, .long (LRl (sg9 Ps (q, hv, ed, o) mr))), (0, .ref (B + 109)), (1, .ref (B + 22)), (3, .int (zI (mr : Int)))]) hx hb wdX3_reckon_218 hl (by decide) rfl (fun ls hl => ?_)
          refine z_iinc (v := (((t + 1) : Nat) : Int)) (lv' := [(10, .int (zI (((t + 1) : Nat) : Int))), (9, .int (zI (((odK mr (t + 1) : Nat) : Int) - 1))), (13, .long (LRl (odW Ps mr (q, hv, ed, o) t))), (11, .long (KVl (odW Ps mr (q, hv, ed, o) t))), (8, .ref (B + (114 + 3 * mr))), (4, .long (KVl (sg9 Ps (q, hv, ed, o) mr))), (6, .long (LRl (sg9 Ps (q, hv, ed, o) mr))), (0, .ref (B + 109)), (1, .ref (B + 22)), (3, .int (zI (mr : Int)))]) hx hb wdX3_reckon_220 hl (k := 3) rfl (by omega) (by decide) rfl (fun ls hl => ?_)
          refine lv_goto (tgt := 83) hx hb wdX3_reckon_223 (by decide) ?_
          have hkt := hkW t htf
          have hkm : okW q (sg9 Ps (q, hv, ed, o) mr) ∧ ncW (sg9 Ps (q, hv, ed, o) mr) := ⟨hokM, hncm⟩
          have hrd : ¬ rdE q (odW Ps mr (q, hv, ed, o) t) (sg9 Ps (q, hv, ed, o) mr) := rdl_1 hkt hkm (lcmp_n (fun h9 => by have h8 := (zI_eq (by constructor <;> omega) (by constructor <;> omega)).mp (h9.symm.trans elc6); omega))
          have hMf : ∀ b, b ≠ 109 → b ≠ 110 → Ma8.1 b = Nc.1 b := fun b h1 h2 => (hF6.1 b h2).trans ((st_ob h1).trans (hF5.1 b h1))
          have hS9 : CS Ma8 Ps mr (q, hv, ed, o) rd Hs k := (CS.lv i1 x1).fr (hMf 22 (by decide) (by decide)) (fun b a1 a2 => hMf b (by omega) (by omega))
          have hE9 : isE Ma8 (odW Ps mr (q, hv, ed, o)) (rpF q (odW Ps mr (q, hv, ed, o)) (t + 1)) := hE2.fr ((congrFun (hF6.1 109 (by decide)) 1).trans (st_ne (Or.inr (by decide)))) hF6.2
          have h92 : Ma8.1 109 2 = zI ((((smF q (odW Ps mr (q, hv, ed, o)) (sg9 Ps (q, hv, ed, o) mr) t) + 0) : Nat) : Int) := (congrFun (hF6.1 109 (by decide)) 2).trans st_at
          exact ih (t + 1) Ma8 (by omega) hS9 hE9 (by rw [sm_n hrd]; exact h92) (fun h9 => ⟨hO4.cg (od_nx hm6 h9).2.2.1, fun j9 hj9 => by have e9 := odK_le hm6 h9; have h8 := (od_nx hm6 h9).2.1; rw [sw_cg (g := odG mr t) j9 (fun i hi => (od_nx hm6 h9).2.2.2 i (by omega))]; exact CW.fr (x0 j9 (by omega)) (hMf _ (by omega) (by omega)) (hMf _ (by omega) (by omega)) (hMf _ (by omega) (by omega))⟩) (by omega) _ _ ls w (lv_sub hl [0, 1, 4, 5, 6, 7, 8, 9] rfl)
        · refine lv_lload hx hb wdX3_reckon_196 (lv_at hl 0 rfl) ?_
          refine lv_lload hx hb wdX3_reckon_198 (lv_at hl 6 rfl) ?_
          refine W.lcmp hx hb wdX3_reckon_200 ?_
          obtain ⟨lc9, blc9, elc9⟩ := rg_ex (lg_cmp (LRl (odW Ps mr (q, hv, ed, o) t)) (LRl (sg9 Ps (q, hv, ed, o) mr)))
          refine r_val elc9 ?_
          refine z_if_ne (tgt := 208) hx hb (by omega) wdX3_reckon_201 (by decide) (fun c10 => ?_) (fun c10 => ?_)
          · refine lv_iconst (v := zI 0) hx hb wdX3_reckon_208 rfl ?_
            refine z_iadd (z := ((((smF q (odW Ps mr (q, hv, ed, o)) (sg9 Ps (q, hv, ed, o) mr) t) + 0) : Nat) : Int)) hx hb wdX3_reckon_209 (by omega) ?_
            refine u_3_2 F w (a := 109) rfl wtb_483 wdX3_reckon_210 (fun H locs w => ?_)
            have hO3 : isO (st Ma5 109 2 (zI ((((smF q (odW Ps mr (q, hv, ed, o)) (sg9 Ps (q, hv, ed, o) mr) t) + 0) : Nat) : Int))) mr (odG mr t) := hO0.fr ((st_ob (by decide)).trans ((hF5.1 110 (by decide)).trans (x1.1 110 (by decide) (by decide))))
            have hO3 : isO (st Ma5 109 2 (zI ((((smF q (odW Ps mr (q, hv, ed, o)) (sg9 Ps (q, hv, ed, o) mr) t) + 0) : Nat) : Int))) mr (odG mr t) := hO0.fr ((st_ob (by decide)).trans ((hF5.1 110 (by decide)).trans (x1.1 110 (by decide) (by decide))))
            refine lv_aload_n hx hb wdX3_reckon_213 rfl (lv_at hl 7 rfl) ?_
            refine lv_iload_n hx hb wdX3_reckon_214 rfl (lv_at hl 9 rfl) ?_
            refine k_Vi F w (As := [.int (zI (mr : Int))]) (rest := []) (a := 109) (kd_lt (a := 109) (show kd 109 = (3, 0, 0) from rfl) (by decide)) (sh_3 rfl _ _) rfl (h_next (n := mr) hO3 hm6 (fun k hk => Nat.lt_of_lt_of_le (od_lt hm6 htf k hk) (by omega))) wgv_X3_82 whv_X3_nextOrder ⟨(by omega), (by omega)⟩ hl.1 rfl (Nat.le_of_ble_eq_true rfl) ⟨Nat.zero_le _, Nat.zero_le _⟩ wdX3_reckon_215 (fun r Ma11 H locs hp w => ?_)
            rcases hp with ⟨rfl, hO4, hF6⟩
            refine r_val (v := zI (((odK mr (t + 1) : Nat) : Int) - 1)) rfl ?_
            refine r_val (v := zI (((odK mr (t + 1) : Nat) : Int) - 1)) rfl ?_
            refine lv_istore (lv' := [(9, .int (zI (((odK mr (t + 1) : Nat) : Int) - 1))), (13, .long (LRl (odW Ps mr (q, hv, ed, o) t))), (11, .long (KVl (odW Ps mr (q, hv, ed, o) t))), (10, .int (zI (t : Int))), (8, .ref (B + (114 + 3 * mr))), (4, .long (KVl (sg9 Ps (q, hv, ed, o) mr))), (6, .long (LRl (sg9 Ps (q, hv, ed, o) mr))), (0, .ref (B + 109)), (1, .ref (B + 22)), (3, .int (zI (mr : Int)))]) hx hb wdX3_reckon_218 hl (by decide) rfl (fun ls hl => ?_)
            refine z_iinc (v := (((t + 1) : Nat) : Int)) (lv' := [(10, .int (zI (((t + 1) : Nat) : Int))), (9, .int (zI (((odK mr (t + 1) : Nat) : Int) - 1))), (13, .long (LRl (odW Ps mr (q, hv, ed, o) t))), (11, .long (KVl (odW Ps mr (q, hv, ed, o) t))), (8, .ref (B + (114 + 3 * mr))), (4, .long (KVl (sg9 Ps (q, hv, ed, o) mr))), (6, .long (LRl (sg9 Ps (q, hv, ed, o) mr))), (0, .ref (B + 109)), (1, .ref (B + 22)), (3, .int (zI (mr : Int)))]) hx hb wdX3_reckon_220 hl (k := 3) rfl (by omega) (by decide) rfl (fun ls hl => ?_)
            refine lv_goto (tgt := 83) hx hb wdX3_reckon_223 (by decide) ?_
            have hkt := hkW t htf
            have hkm : okW q (sg9 Ps (q, hv, ed, o) mr) ∧ ncW (sg9 Ps (q, hv, ed, o) mr) := ⟨hokM, hncm⟩
            have hrd : ¬ rdE q (odW Ps mr (q, hv, ed, o) t) (sg9 Ps (q, hv, ed, o) mr) := rdl_2 hkt hkm (lcmp_n (fun h9 => by have h8 := (zI_eq (by constructor <;> omega) (by constructor <;> omega)).mp (h9.symm.trans elc9); omega))
            have hMf : ∀ b, b ≠ 109 → b ≠ 110 → Ma11.1 b = Nc.1 b := fun b h1 h2 => (hF6.1 b h2).trans ((st_ob h1).trans (hF5.1 b h1))
            have hS9 : CS Ma11 Ps mr (q, hv, ed, o) rd Hs k := (CS.lv i1 x1).fr (hMf 22 (by decide) (by decide)) (fun b a1 a2 => hMf b (by omega) (by omega))
            have hE9 : isE Ma11 (odW Ps mr (q, hv, ed, o)) (rpF q (odW Ps mr (q, hv, ed, o)) (t + 1)) := hE2.fr ((congrFun (hF6.1 109 (by decide)) 1).trans (st_ne (Or.inr (by decide)))) hF6.2
            have h92 : Ma11.1 109 2 = zI ((((smF q (odW Ps mr (q, hv, ed, o)) (sg9 Ps (q, hv, ed, o) mr) t) + 0) : Nat) : Int) := (congrFun (hF6.1 109 (by decide)) 2).trans st_at
            exact ih (t + 1) Ma11 (by omega) hS9 hE9 (by rw [sm_n hrd]; exact h92) (fun h9 => ⟨hO4.cg (od_nx hm6 h9).2.2.1, fun j9 hj9 => by have e9 := odK_le hm6 h9; have h8 := (od_nx hm6 h9).2.1; rw [sw_cg (g := odG mr t) j9 (fun i hi => (od_nx hm6 h9).2.2.2 i (by omega))]; exact CW.fr (x0 j9 (by omega)) (hMf _ (by omega) (by omega)) (hMf _ (by omega) (by omega)) (hMf _ (by omega) (by omega))⟩) (by omega) _ _ ls w (lv_sub hl [0, 1, 4, 5, 6, 7, 8, 9] rfl)
          · refine lv_iconst (v := zI 1) hx hb wdX3_reckon_204 rfl ?_
            refine lv_goto (tgt := 209) hx hb wdX3_reckon_205 (by decide) ?_
            refine z_iadd (z := ((((smF q (odW Ps mr (q, hv, ed, o)) (sg9 Ps (q, hv, ed, o) mr) t) + 1) : Nat) : Int)) hx hb wdX3_reckon_209 (by omega) ?_
            refine u_3_2 F w (a := 109) rfl wtb_483 wdX3_reckon_210 (fun H locs w => ?_)
            have hO3 : isO (st Ma5 109 2 (zI ((((smF q (odW Ps mr (q, hv, ed, o)) (sg9 Ps (q, hv, ed, o) mr) t) + 1) : Nat) : Int))) mr (odG mr t) := hO0.fr ((st_ob (by decide)).trans ((hF5.1 110 (by decide)).trans (x1.1 110 (by decide) (by decide))))
            have hO3 : isO (st Ma5 109 2 (zI ((((smF q (odW Ps mr (q, hv, ed, o)) (sg9 Ps (q, hv, ed, o) mr) t) + 1) : Nat) : Int))) mr (odG mr t) := hO0.fr ((st_ob (by decide)).trans ((hF5.1 110 (by decide)).trans (x1.1 110 (by decide) (by decide))))
            refine lv_aload_n hx hb wdX3_reckon_213 rfl (lv_at hl 7 rfl) ?_
            refine lv_iload_n hx hb wdX3_reckon_214 rfl (lv_at hl 9 rfl) ?_
            refine k_Vi F w (As := [.int (zI (mr : Int))]) (rest := []) (a := 109) (kd_lt (a := 109) (show kd 109 = (3, 0, 0) from rfl) (by decide)) (sh_3 rfl _ _) rfl (h_next (n := mr) hO3 hm6 (fun k hk => Nat.lt_of_lt_of_le (od_lt hm6 htf k hk) (by omega))) wgv_X3_82 whv_X3_nextOrder ⟨(by omega), (by omega)⟩ hl.1 rfl (Nat.le_of_ble_eq_true rfl) ⟨Nat.zero_le _, Nat.zero_le _⟩ wdX3_reckon_215 (fun r Ma12 H locs hp w => ?_)
            rcases hp with ⟨rfl, hO4, hF6⟩
            refine r_val (v := zI (((odK mr (t + 1) : Nat) : Int) - 1)) rfl ?_
            refine r_val (v := zI (((odK mr (t + 1) : Nat) : Int) - 1)) rfl ?_
            refine lv_istore (lv' := [(9, .int (zI (((odK mr (t + 1) : Nat) : Int) - 1))), (13, .long (LRl (odW Ps mr (q, hv, ed, o) t))), (11, .long (KVl (odW Ps mr (q, hv, ed, o) t))), (10, .int (zI (t : Int))), (8, .ref (B + (114 + 3 * mr))), (4, .long (KVl (sg9 Ps (q, hv, ed, o) mr))), (6, .long (LRl (sg9 Ps (q, hv, ed, o) mr))), (0, .ref (B + 109)), (1, .ref (B + 22)), (3, .int (zI (mr : Int)))]) hx hb wdX3_reckon_218 hl (by decide) rfl (fun ls hl => ?_)
            refine z_iinc (v := (((t + 1) : Nat) : Int)) (lv' := [(10, .int (zI (((t + 1) : Nat) : Int))), (9, .int (zI (((odK mr (t + 1) : Nat) : Int) - 1))), (13, .long (LRl (odW Ps mr (q, hv, ed, o) t))), (11, .long (KVl (odW Ps mr (q, hv, ed, o) t))), (8, .ref (B + (114 + 3 * mr))), (4, .long (KVl (sg9 Ps (q, hv, ed, o) mr))), (6, .long (LRl (sg9 Ps (q, hv, ed, o) mr))), (0, .ref (B + 109)), (1, .ref (B + 22)), (3, .int (zI (mr : Int)))]) hx hb wdX3_reckon_220 hl (k := 3) rfl (by omega) (by decide) rfl (fun ls hl => ?_)
            refine lv_goto (tgt := 83) hx hb wdX3_reckon_223 (by decide) ?_
            have hkt := hkW t htf
            have hkm : okW q (sg9 Ps (q, hv, ed, o) mr) ∧ ncW (sg9 Ps (q, hv, ed, o) mr) := ⟨hokM, hncm⟩
            have hrd : rdE q (odW Ps mr (q, hv, ed, o) t) (sg9 Ps (q, hv, ed, o) mr) := rdl_y hkt hkm (lcmp_0 (elc6.trans (congrArg zI (by omega)))) (lcmp_0 (elc9.trans (congrArg zI (by omega))))
            have hMf : ∀ b, b ≠ 109 → b ≠ 110 → Ma12.1 b = Nc.1 b := fun b h1 h2 => (hF6.1 b h2).trans ((st_ob h1).trans (hF5.1 b h1))
            have hS9 : CS Ma12 Ps mr (q, hv, ed, o) rd Hs k := (CS.lv i1 x1).fr (hMf 22 (by decide) (by decide)) (fun b a1 a2 => hMf b (by omega) (by omega))
            have hE9 : isE Ma12 (odW Ps mr (q, hv, ed, o)) (rpF q (odW Ps mr (q, hv, ed, o)) (t + 1)) := hE2.fr ((congrFun (hF6.1 109 (by decide)) 1).trans (st_ne (Or.inr (by decide)))) hF6.2
            have h92 : Ma12.1 109 2 = zI ((((smF q (odW Ps mr (q, hv, ed, o)) (sg9 Ps (q, hv, ed, o) mr) t) + 1) : Nat) : Int) := (congrFun (hF6.1 109 (by decide)) 2).trans st_at
            exact ih (t + 1) Ma12 (by omega) hS9 hE9 (by rw [sm_y hrd]; exact h92) (fun h9 => ⟨hO4.cg (od_nx hm6 h9).2.2.1, fun j9 hj9 => by have e9 := odK_le hm6 h9; have h8 := (od_nx hm6 h9).2.1; rw [sw_cg (g := odG mr t) j9 (fun i hi => (od_nx hm6 h9).2.2.2 i (by omega))]; exact CW.fr (x0 j9 (by omega)) (hMf _ (by omega) (by omega)) (hMf _ (by omega) (by omega)) (hMf _ (by omega) (by omega))⟩) (by omega) _ _ ls w (lv_sub hl [0, 1, 4, 5, 6, 7, 8, 9] rfl)
theorem Fr1.t9 {M M1 : Mem} {q hv ed : Nat} {o : Wo} (hF : Fr1 M1 M 110) (h : CF M 44 (q, hv, ed, o)) : CW M1 44 q hv ed o := CW.fr h (hF.1 _ (by decide)) (hF.1 _ (by decide)) (hF.1 _ (by decide))
theorem wdX3_reckon_0 : decode cX3_reckon 0 = .ok (.aload_n 1, 1) := dX3_reckon_0
theorem wdX3_reckon_1 : decode cX3_reckon 1 = .ok (.getfield 40, 3) := dX3_reckon_1
theorem wtb_487 : Cond.fieldLink "ToneLines$Orders" 40 "ToneLines$Derivation" "size" "I" ∈ TB := tb_215
theorem wdX3_reckon_4 : decode cX3_reckon 4 = .ok (.bipush 6, 2) := dX3_reckon_4
theorem wdX3_reckon_6 : decode cX3_reckon 6 = .ok (.invokestatic 45, 3) := dX3_reckon_6
theorem wtb_488 : Cond.methodLink "ToneLines$Orders" 45 yJ9_min_7cf53 ∈ TB := tb_216
theorem wdX3_reckon_9 : decode cX3_reckon 9 = .ok (.istore_n 3, 1) := dX3_reckon_9
theorem wdX3_reckon_10 : decode cX3_reckon 10 = .ok (.aload_n 2, 1) := dX3_reckon_10
theorem wdX3_reckon_11 : decode cX3_reckon 11 = .ok (.invokevirtual 51, 3) := dX3_reckon_11
theorem wdX3_reckon_14 : decode cX3_reckon 14 = .ok (.lstore 4, 2) := dX3_reckon_14
theorem wdX3_reckon_16 : decode cX3_reckon 16 = .ok (.aload_n 2, 1) := dX3_reckon_16
theorem wdX3_reckon_17 : decode cX3_reckon 17 = .ok (.invokevirtual 54, 3) := dX3_reckon_17
theorem wdX3_reckon_20 : decode cX3_reckon 20 = .ok (.lstore 6, 2) := dX3_reckon_20
theorem wdX3_reckon_22 : decode cX3_reckon 22 = .ok (.aload_n 0, 1) := dX3_reckon_22
theorem wdX3_reckon_23 : decode cX3_reckon 23 = .ok (.getfield 28, 3) := dX3_reckon_23
theorem wdX3_reckon_26 : decode cX3_reckon 26 = .ok (.iload_n 3, 1) := dX3_reckon_26
theorem wdX3_reckon_27 : decode cX3_reckon 27 = .ok (.aaload, 1) := dX3_reckon_27
theorem wdX3_reckon_28 : decode cX3_reckon 28 = .ok (.astore 8, 2) := dX3_reckon_28
theorem wdX3_reckon_30 : decode cX3_reckon 30 = .ok (.iconst 0, 1) := dX3_reckon_30
theorem wdX3_reckon_31 : decode cX3_reckon 31 = .ok (.istore 9, 2) := dX3_reckon_31
theorem wdX3_reckon_54 : decode cX3_reckon 54 = .ok (.aload_n 0, 1) := dX3_reckon_54
theorem wdX3_reckon_55 : decode cX3_reckon 55 = .ok (.getfield 28, 3) := dX3_reckon_55
theorem wdX3_reckon_58 : decode cX3_reckon 58 = .ok (.iconst 0, 1) := dX3_reckon_58
theorem wdX3_reckon_59 : decode cX3_reckon 59 = .ok (.aaload, 1) := dX3_reckon_59
theorem wdX3_reckon_60 : decode cX3_reckon 60 = .ok (.aload_n 1, 1) := dX3_reckon_60
theorem wdX3_reckon_61 : decode cX3_reckon 61 = .ok (.getfield 56, 3) := dX3_reckon_61
theorem wtb_489 : Cond.fieldLink "ToneLines$Orders" 56 "ToneLines$Derivation" "told" "LToneLines$Word;" ∈ TB := tb_220
theorem wdX3_reckon_64 : decode cX3_reckon 64 = .ok (.invokevirtual 60, 3) := dX3_reckon_64
theorem wdX3_reckon_67 : decode cX3_reckon 67 = .ok (.aload_n 0, 1) := dX3_reckon_67
theorem wdX3_reckon_68 : decode cX3_reckon 68 = .ok (.iconst 0, 1) := dX3_reckon_68
theorem wdX3_reckon_69 : decode cX3_reckon 69 = .ok (.putfield 15, 3) := dX3_reckon_69
theorem wdX3_reckon_72 : decode cX3_reckon 72 = .ok (.aload_n 0, 1) := dX3_reckon_72
theorem wdX3_reckon_73 : decode cX3_reckon 73 = .ok (.iconst 0, 1) := dX3_reckon_73
theorem wdX3_reckon_74 : decode cX3_reckon 74 = .ok (.putfield 19, 3) := dX3_reckon_74
theorem wdX3_reckon_77 : decode cX3_reckon 77 = .ok (.iconst 0, 1) := dX3_reckon_77
theorem wdX3_reckon_78 : decode cX3_reckon 78 = .ok (.istore 9, 2) := dX3_reckon_78
theorem wdX3_reckon_80 : decode cX3_reckon 80 = .ok (.iconst 0, 1) := dX3_reckon_80
theorem wdX3_reckon_81 : decode cX3_reckon 81 = .ok (.istore 10, 2) := dX3_reckon_81
theorem wdX3_reckon_226 : decode cX3_reckon 226 = .ok (.aload_n 0, 1) := dX3_reckon_226
theorem wdX3_reckon_227 : decode cX3_reckon 227 = .ok (.iconst 1, 1) := dX3_reckon_227
theorem wdX3_reckon_228 : decode cX3_reckon 228 = .ok (.putfield 9, 3) := dX3_reckon_228
theorem wtb_490 : Cond.fieldLink "ToneLines$Orders" 9 "ToneLines$Orders" "inDate" "Z" ∈ TB := tb_229
theorem wdX3_reckon_231 : decode cX3_reckon 231 = .ok (.return_, 1) := dX3_reckon_231
set_option maxRecDepth 4000 in
theorem h_reckon {l : Launch} {D : va_G} {B : Nat} {cy : Nat → ClassId} {M : Mem} {Ps : Nat → Nat → Int} {mr rd k q hv ed : Nat} {o : Wo} {Hs : Nat → Fw} (hS : CS M Ps mr (q, hv, ed, o) rd Hs k) (hn9 : ncW o) (hm6 : mr ≤ 6) (hmr : mr ≤ rd) : Cv l D B cy yX3_reckon cX3_reckon 15 5 133 [.ref (B + 109), .ref (B + 22), .ref (B + (44 + 3 * mr))] M (fun M1 => M1.1 109 0 = zI 1 ∧ M1.1 109 1 = zI ((odU Ps mr (q, hv, ed, o) : Nat) : Int) ∧ M1.1 109 2 = zI ((odS Ps mr (q, hv, ed, o) : Nat) : Int) ∧ CS M1 Ps mr (q, hv, ed, o) rd Hs k) := by
  refine s_any (by decide) (Nat.le_of_ble_eq_true rfl) ?_
  intro p e s m below meth c ls F hr hlocks w hl
  have F : CallFix p m c cX3_reckon 15 s _ TB RX3 := F
  have hx := F.1
  have hb := F.2.1
  have hl : lv_has ls 15 [(0, .ref (B + 109)), (1, .ref (B + 22)), (2, .ref (B + (44 + 3 * mr)))] := hl
  have hm8 := hS.1.2.1
  have hC : CW M 44 q hv ed o := hS.t
  have hW : isW M 44 o.1 q hv ed o.2.1 o.2.2 := hC.1
  have hwf := hC.wf
  have hKL := hwf.2.2.2.2
  have hn12 := hwf.1
  have hq12 := hwf.2.1
  have hhv := hwf.2.2.1
  have hed := hwf.2.2.2.1
  have hCw : CW M (44 + 3 * mr) q hv ed (sg9 Ps (q, hv, ed, o) mr) := hS.2.1.2.2.1 mr hmr
  have hGa : ∀ j, j < mr → okG (Ps j) := fun j hj => (hS.1.2.2 j hj).2
  have hncm : ncW (sg9 Ps (q, hv, ed, o) mr) := nc_dvF hn9 mr hGa
  refine lv_aload_n hx hb wdX3_reckon_0 rfl (lv_at hl 1 rfl) ?_
  refine f_0_2 F w (a := 22) rfl wtb_487 wdX3_reckon_1 ?_
  refine r_val (v := (zI (mr : Int))) (hS.1.1) ?_
  refine lv_bipush (v := zI 6) hx hb wdX3_reckon_4 (by decide) ?_
  refine g_min F hl.1 wtb_488 wtb_205 wtb_39 wtq_min (Nat.le_of_ble_eq_true rfl) (Nat.le_of_ble_eq_true rfl) (Nat.zero_le _) (Nat.zero_le _) (v := (zI (mr : Int))) (min_z (by omega) (by omega) (by omega)) wdX3_reckon_6 ?_
  refine lv_istore_n (lv' := [(3, .int (zI (mr : Int))), (0, .ref (B + 109)), (1, .ref (B + 22)), (2, .ref (B + (44 + 3 * mr)))]) hx hb wdX3_reckon_9 rfl hl (by decide) rfl (fun ls hl => ?_)
  refine lv_aload_n hx hb wdX3_reckon_10 rfl (lv_at hl 3 rfl) ?_
  refine x_Vl F w (As := []) (rest := []) (a := (44 + 3 * mr)) (kd_lt (a := (44 + 3 * mr)) (kd_sg (by omega)) (by decide)) (sh_9 (kd_sg (by omega)) _ _) rfl (h_kR (a := 44 + 3 * mr) (kd_sg (by omega)) hCw) wgv_X3_51 whv_X9_kindsRead ⟨(Nat.le_of_ble_eq_true rfl), (Nat.le_of_ble_eq_true rfl)⟩ hl.1 rfl (Nat.le_of_ble_eq_true rfl) ⟨Nat.zero_le _, Nat.zero_le _⟩ wdX3_reckon_11 (fun H locs w => ?_)
  refine lv_lstore (lv' := [(4, .long (KVl (sg9 Ps (q, hv, ed, o) mr))), (3, .int (zI (mr : Int))), (0, .ref (B + 109)), (1, .ref (B + 22)), (2, .ref (B + (44 + 3 * mr)))]) hx hb wdX3_reckon_14 hl (by decide) rfl (fun ls hl => ?_)
  refine lv_aload_n hx hb wdX3_reckon_16 rfl (lv_at hl 4 rfl) ?_
  refine x_Vl F w (As := []) (rest := []) (a := (44 + 3 * mr)) (kd_lt (a := (44 + 3 * mr)) (kd_sg (by omega)) (by decide)) (sh_9 (kd_sg (by omega)) _ _) rfl (h_lR (a := 44 + 3 * mr) (kd_sg (by omega)) hCw) wgv_X3_54 whv_X9_linesRead ⟨(Nat.le_of_ble_eq_true rfl), (Nat.le_of_ble_eq_true rfl)⟩ hl.1 rfl (Nat.le_of_ble_eq_true rfl) ⟨Nat.zero_le _, Nat.zero_le _⟩ wdX3_reckon_17 (fun H locs w => ?_)
  refine lv_lstore (lv' := [(6, .long (LRl (sg9 Ps (q, hv, ed, o) mr))), (4, .long (KVl (sg9 Ps (q, hv, ed, o) mr))), (3, .int (zI (mr : Int))), (0, .ref (B + 109)), (1, .ref (B + 22)), (2, .ref (B + (44 + 3 * mr)))]) hx hb wdX3_reckon_20 hl (by decide) rfl (fun ls hl => ?_)
  refine lv_aload_n hx hb wdX3_reckon_22 rfl (lv_at hl 3 rfl) ?_
  refine f_3_4 F w (a := 109) rfl wtb_473 wdX3_reckon_23 ?_
  refine lv_iload_n hx hb wdX3_reckon_26 rfl (lv_at hl 2 rfl) ?_
  refine g_aldW F w (a := 111) rfl (j := mr) (o := (114 + 3 * mr)) rfl (ix_n (by omega)) (by omega) wdX3_reckon_27 ?_
  refine lv_astore (lv' := [(8, .ref (B + (114 + 3 * mr))), (6, .long (LRl (sg9 Ps (q, hv, ed, o) mr))), (4, .long (KVl (sg9 Ps (q, hv, ed, o) mr))), (3, .int (zI (mr : Int))), (0, .ref (B + 109)), (1, .ref (B + 22)), (2, .ref (B + (44 + 3 * mr)))]) hx hb wdX3_reckon_28 hl (by decide) rfl (fun ls hl => ?_)
  refine lv_iconst (v := zI 0) hx hb wdX3_reckon_30 rfl ?_
  refine lv_istore (lv' := [(9, .int (zI 0)), (8, .ref (B + (114 + 3 * mr))), (6, .long (LRl (sg9 Ps (q, hv, ed, o) mr))), (4, .long (KVl (sg9 Ps (q, hv, ed, o) mr))), (3, .int (zI (mr : Int))), (0, .ref (B + 109)), (1, .ref (B + 22)), (2, .ref (B + (44 + 3 * mr)))]) hx hb wdX3_reckon_31 hl (by decide) rfl (fun ls hl => ?_)
  refine lp_X3_reckon1  F (Nat.le_of_ble_eq_true rfl) (Nat.le_of_ble_eq_true rfl) hm6 (fun i Nm H locs ls x0 x1 w hl => ?_) mr 0 M (Nat.zero_le _) (fun k9 hk9 => absurd hk9 (Nat.not_lt_zero k9)) ⟨fun _ _ => rfl, rfl⟩ (by omega) _ _ ls w (lv_sub hl [0, 1, 3, 2, 5, 6, 4] rfl)
  refine lv_aload_n hx hb wdX3_reckon_54 rfl (lv_at hl 3 rfl) ?_
  refine f_3_4 F w (a := 109) rfl wtb_473 wdX3_reckon_55 ?_
  refine lv_iconst (v := zI 0) hx hb wdX3_reckon_58 rfl ?_
  refine g_aldW F w (a := 111) rfl (j := 0) (o := 114) rfl ⟨by decide, by decide⟩ (by decide) wdX3_reckon_59 ?_
  refine lv_aload_n hx hb wdX3_reckon_60 rfl (lv_at hl 4 rfl) ?_
  refine f_0_4 F w (a := 22) rfl wtb_489 wdX3_reckon_61 ?_
  refine k_Vv F w (As := [.ref (B + 44)]) (rest := []) (a := 114) (kd_lt (a := 114) (show kd 114 = (9, 0, 0) from rfl) (by decide)) (sh_9 rfl _ _) rfl (s_X9_copyFrom (a := 114) rfl (b := 44) rfl (x1.t9 hS.t).1 (by decide) hwf.1) wgv_X3_60 whv_X9_copyFrom ⟨(Nat.le_of_ble_eq_true rfl), (Nat.le_of_ble_eq_true rfl)⟩ hl.1 rfl (Nat.le_of_ble_eq_true rfl) ⟨Nat.zero_le _, Nat.zero_le _⟩ wdX3_reckon_64 (fun Ma3 H locs hp w => ?_)
  rcases hp with ⟨hW2, hF2⟩
  have hC2 : CW Ma3 114 q hv ed o := ⟨hW2, hC.2⟩
  refine lv_aload_n hx hb wdX3_reckon_67 rfl (lv_at hl 3 rfl) ?_
  refine lv_iconst (v := zI 0) hx hb wdX3_reckon_68 rfl ?_
  refine u_3_1 F w (a := 109) rfl wtb_470 wdX3_reckon_69 (fun H locs w => ?_)
  refine lv_aload_n hx hb wdX3_reckon_72 rfl (lv_at hl 3 rfl) ?_
  refine lv_iconst (v := zI 0) hx hb wdX3_reckon_73 rfl ?_
  refine u_3_2 F w (a := 109) rfl wtb_483 wdX3_reckon_74 (fun H locs w => ?_)
  refine lv_iconst (v := zI 0) hx hb wdX3_reckon_77 rfl ?_
  refine lv_istore (lv' := [(9, .int (zI 0)), (8, .ref (B + (114 + 3 * mr))), (4, .long (KVl (sg9 Ps (q, hv, ed, o) mr))), (6, .long (LRl (sg9 Ps (q, hv, ed, o) mr))), (0, .ref (B + 109)), (1, .ref (B + 22)), (3, .int (zI (mr : Int)))]) hx hb wdX3_reckon_78 hl (by decide) rfl (fun ls hl => ?_)
  refine lv_iconst (v := zI 0) hx hb wdX3_reckon_80 rfl ?_
  refine lv_istore (lv' := [(10, .int (zI 0)), (9, .int (zI 0)), (8, .ref (B + (114 + 3 * mr))), (4, .long (KVl (sg9 Ps (q, hv, ed, o) mr))), (6, .long (LRl (sg9 Ps (q, hv, ed, o) mr))), (0, .ref (B + 109)), (1, .ref (B + 22)), (3, .int (zI (mr : Int)))]) hx hb wdX3_reckon_81 hl (by decide) rfl (fun ls hl => ?_)
  have hS8 : CS (st (st Ma3 109 1 (zI 0)) 109 2 (zI 0)) Ps mr (q, hv, ed, o) rd Hs k := hS.fr ((st_ob (by decide)).trans ((st_ob (by decide)).trans ((hF2.1 22 (by decide) (by decide) (by decide)).trans (x1.1 22 (by decide))))) (fun b a1 a2 => (st_ob (by omega)).trans ((st_ob (by omega)).trans ((hF2.1 b (by omega) (by omega) (by omega)).trans (x1.1 b (by omega)))))
  replace hl : lv_has ls 15 [(10, .int (zI 0)), (9, .int (zI (((odK mr 0 : Nat) : Int) - 1))), (8, .ref (B + (114 + 3 * mr))), (4, .long (KVl (sg9 Ps (q, hv, ed, o) mr))), (6, .long (LRl (sg9 Ps (q, hv, ed, o) mr))), (0, .ref (B + 109)), (1, .ref (B + 22)), (3, .int (zI (mr : Int)))] := by rw [show (((odK mr 0 : Nat) : Int) - 1) = 0 from rfl]; exact hl
  refine lp_X3_reckon2 (M := M) F (Nat.le_of_ble_eq_true rfl) (Nat.le_of_ble_eq_true rfl) hm6 (kW_od hm6 hGa hC.2.1 hn9) hCw.2.1 hncm (fun t Nm H locs ls x0 x1 x2 w hl => ?_) (ftl mr) 0 (st (st Ma3 109 1 (zI 0)) 109 2 (zI 0)) (Nat.zero_le _) hS8 ⟨(st_ne (Or.inr (by decide))).trans st_at, fun j hj => absurd hj (Nat.not_lt_zero j)⟩ (by rw [smF]; exact st_at) (fun _ => ⟨fun k9 hk9 => by rw [od_0 hm6 hk9, st_ob (by decide), st_ob (by decide), hF2.1 110 (by decide) (by decide) (by decide)]; exact x0 k9 hk9, fun j hj => by have hj0 : j = 0 := (by have h9 : odK mr 0 = 1 := rfl; omega); subst hj0; exact hC2.fr ((st_ob (by decide)).trans (st_ob (by decide))) ((st_ob (by decide)).trans (st_ob (by decide))) ((st_ob (by decide)).trans (st_ob (by decide)))⟩) (by omega) _ _ ls w (lv_sub hl [0, 1, 2, 3, 4, 5, 6, 7] rfl)
  refine lv_aload_n hx hb wdX3_reckon_226 rfl (lv_at hl 0 rfl) ?_
  refine lv_iconst (v := zI 1) hx hb wdX3_reckon_227 rfl ?_
  refine u_3_0 F w (a := 109) rfl (by decide) (by decide) wtb_490 wdX3_reckon_228 (fun H locs w => ?_)
  exact e_v F w hr hlocks ⟨st_at, (st_ne (Or.inr (by decide))).trans x1.1, (st_ne (Or.inr (by decide))).trans x2, x0.d13 (by decide)⟩ wdX3_reckon_231
theorem wdX11_orders_0 : decode cX11_orders 0 = .ok (.iload_n 1, 1) := dX11_orders_0
theorem wdX11_orders_1 : decode cX11_orders 1 = .ok (.ifCond .lt 8, 3) := dX11_orders_1
theorem wdX11_orders_9 : decode cX11_orders 9 = .ok (.iconst (-1), 1) := dX11_orders_9
theorem wdX11_orders_10 : decode cX11_orders 10 = .ok (.ireturn, 1) := dX11_orders_10
theorem wdX11_orders_4 : decode cX11_orders 4 = .ok (.iload_n 1, 1) := dX11_orders_4
theorem wdX11_orders_5 : decode cX11_orders 5 = .ok (.iconst 1, 1) := dX11_orders_5
theorem wdX11_orders_6 : decode cX11_orders 6 = .ok (.if_icmp .le 5, 3) := dX11_orders_6
theorem wdX11_orders_11 : decode cX11_orders 11 = .ok (.aload_n 0, 1) := dX11_orders_11
theorem wdX11_orders_12 : decode cX11_orders 12 = .ok (.getfield 35, 3) := dX11_orders_12
theorem wdX11_orders_15 : decode cX11_orders 15 = .ok (.getfield 118, 3) := dX11_orders_15
theorem wdX11_orders_18 : decode cX11_orders 18 = .ok (.bipush 6, 2) := dX11_orders_18
theorem wdX11_orders_20 : decode cX11_orders 20 = .ok (.if_icmp .le 6, 3) := dX11_orders_20
theorem wdX11_orders_26 : decode cX11_orders 26 = .ok (.aload_n 0, 1) := dX11_orders_26
theorem wdX11_orders_27 : decode cX11_orders 27 = .ok (.getfield 54, 3) := dX11_orders_27
theorem wdX11_orders_30 : decode cX11_orders 30 = .ok (.getfield 271, 3) := dX11_orders_30
theorem wdX11_orders_33 : decode cX11_orders 33 = .ok (.ifCond .ne 28, 3) := dX11_orders_33
theorem wdX11_orders_36 : decode cX11_orders 36 = .ok (.aload_n 0, 1) := dX11_orders_36
theorem wdX11_orders_37 : decode cX11_orders 37 = .ok (.getfield 54, 3) := dX11_orders_37
theorem wdX11_orders_40 : decode cX11_orders 40 = .ok (.aload_n 0, 1) := dX11_orders_40
theorem wdX11_orders_41 : decode cX11_orders 41 = .ok (.getfield 35, 3) := dX11_orders_41
theorem wdX11_orders_44 : decode cX11_orders 44 = .ok (.aload_n 0, 1) := dX11_orders_44
theorem wdX11_orders_45 : decode cX11_orders 45 = .ok (.getfield 35, 3) := dX11_orders_45
theorem wdX11_orders_48 : decode cX11_orders 48 = .ok (.aload_n 0, 1) := dX11_orders_48
theorem wdX11_orders_49 : decode cX11_orders 49 = .ok (.getfield 35, 3) := dX11_orders_49
theorem wdX11_orders_52 : decode cX11_orders 52 = .ok (.getfield 118, 3) := dX11_orders_52
theorem wdX11_orders_55 : decode cX11_orders 55 = .ok (.invokevirtual 196, 3) := dX11_orders_55
theorem wdX11_orders_58 : decode cX11_orders 58 = .ok (.invokevirtual 275, 3) := dX11_orders_58
theorem wtk_X3_reckon : Cond.code yX3_reckon cX3_reckon 15 none ∈ TB := tk_X3_reckon
theorem wgc_X3_reckon : GoodIn TB (cw yX3_reckon cX3_reckon 15 none) := goodIn_c2 wtk_X3_reckon
theorem wtb_491 : Cond.methodLink "ToneLines" 275 yX3_reckon ∈ TB := tb_385
theorem wtb_492 : Cond.instanceMethod yX3_reckon ∈ TB := tb_386
theorem wtb_493 : Cond.selects "ToneLines$Orders" yX3_reckon yX3_reckon ∈ TB := tb_387
theorem wgv_X11_275 : GoodIn TB (wsV RX11 275 RX3 yX3_reckon (cw yX3_reckon cX3_reckon 15 none)) := goodIn_4 wtb_491 wtb_492 wtb_493 wtb_469 wgc_X3_reckon
theorem whv_X3_reckon : yX3_reckon.cls = RX3 ∧ yX3_reckon.cls ≠ "java/lang/invoke/MethodHandle" ∧ yX3_reckon.cls ≠ "java/lang/invoke/VarHandle" ∧ (parseMethodDescriptor yX3_reckon.desc).map (fun d => d.parameters.length) = some 2 := hv_X3_reckon
theorem wdX11_orders_61 : decode cX11_orders 61 = .ok (.iload_n 1, 1) := dX11_orders_61
theorem wdX11_orders_62 : decode cX11_orders 62 = .ok (.ifCond .ne 13, 3) := dX11_orders_62
theorem wdX11_orders_75 : decode cX11_orders 75 = .ok (.aload_n 0, 1) := dX11_orders_75
theorem wdX11_orders_76 : decode cX11_orders 76 = .ok (.getfield 54, 3) := dX11_orders_76
theorem wdX11_orders_79 : decode cX11_orders 79 = .ok (.getfield 282, 3) := dX11_orders_79
theorem wtb_494 : Cond.fieldLink "ToneLines" 282 "ToneLines$Orders" "same" "I" ∈ TB := tb_383
theorem wdX11_orders_82 : decode cX11_orders 82 = .ok (.ireturn, 1) := dX11_orders_82
theorem wdX11_orders_65 : decode cX11_orders 65 = .ok (.aload_n 0, 1) := dX11_orders_65
theorem wdX11_orders_66 : decode cX11_orders 66 = .ok (.getfield 54, 3) := dX11_orders_66
theorem wdX11_orders_69 : decode cX11_orders 69 = .ok (.getfield 279, 3) := dX11_orders_69
theorem wtb_495 : Cond.fieldLink "ToneLines" 279 "ToneLines$Orders" "unlike" "I" ∈ TB := tb_384
theorem wdX11_orders_72 : decode cX11_orders 72 = .ok (.goto 10, 3) := dX11_orders_72
theorem wdX11_orders_23 : decode cX11_orders 23 = .ok (.bipush (-2), 2) := dX11_orders_23
theorem wdX11_orders_25 : decode cX11_orders 25 = .ok (.ireturn, 1) := dX11_orders_25
set_option maxRecDepth 4000 in
theorem h_orders {l : Launch} {D : va_G} {B : Nat} {cy : Nat → ClassId} {M : Mem} {Ps : Nat → Nat → Int} {mr rd k q hv ed : Nat} {o : Wo} {Hs : Nat → Fw} (hS : CS M Ps mr (q, hv, ed, o) rd Hs k) (hn9 : ncW o) (hJ : JO9 M Ps mr (q, hv, ed, o)) {w9 : Int} (hw9 : rg w9) : Ci l D B cy yX11_orders cX11_orders 2 (some .int) 6 167 [.ref (B + 0), .int (zI w9)] M (fun r M1 => r = zI (odA Ps mr w9 (q, hv, ed, o)) ∧ JO9 M1 Ps mr (q, hv, ed, o)) := by
  refine s_any (by decide) (Nat.le_of_ble_eq_true rfl) ?_
  intro p e s m below meth c ls F hr hlocks w hl
  have F : CallFix p m c cX11_orders 2 s _ TB RX11 := F
  have hx := F.1
  have hb := F.2.1
  have hl : lv_has ls 2 [(0, .ref (B + 0)), (1, .int (zI w9))] := hl
  have hm8 := hS.1.2.1
  have hC : CW M 44 q hv ed o := hS.t
  have hW : isW M 44 o.1 q hv ed o.2.1 o.2.2 := hC.1
  have hwf := hC.wf
  have hKL := hwf.2.2.2.2
  have hn12 := hwf.1
  have hq12 := hwf.2.1
  have hhv := hwf.2.2.1
  have hed := hwf.2.2.2.1
  refine lv_iload_n hx hb wdX11_orders_0 rfl (lv_at hl 1 rfl) ?_
  refine z_if_lt (tgt := 9) hx hb (by omega) wdX11_orders_1 (by decide) (fun c1 => ?_) (fun c1 => ?_)
  · refine lv_iconst (v := zI (-1)) hx hb wdX11_orders_9 rfl ?_
    exact e_i F w hr hlocks ⟨congrArg zI (odA_n (by omega)).symm, hJ⟩ wdX11_orders_10
  · refine lv_iload_n hx hb wdX11_orders_4 rfl (lv_at hl 1 rfl) ?_
    refine lv_iconst (v := zI 1) hx hb wdX11_orders_5 rfl ?_
    refine z_icmp_le (tgt := 11) hx hb (by omega) (by omega) wdX11_orders_6 (by decide) (fun c2 => ?_) (fun c2 => ?_)
    · refine lv_aload_n hx hb wdX11_orders_11 rfl (lv_at hl 0 rfl) ?_
      refine f_11_3 F w (a := 0) rfl wtb_207 wdX11_orders_12 ?_
      refine f_0_2 F w (a := 22) rfl wtb_368 wdX11_orders_15 ?_
      refine r_val (v := (zI (mr : Int))) (hS.1.1) ?_
      refine lv_bipush (v := zI 6) hx hb wdX11_orders_18 (by decide) ?_
      refine z_icmp_le (tgt := 26) hx hb (by omega) (by omega) wdX11_orders_20 (by decide) (fun c3 => ?_) (fun c3 => ?_)
      · rcases hJ with hj0 | ⟨hj1, hj2, hj3⟩
        · refine lv_aload_n hx hb wdX11_orders_26 rfl (lv_at hl 0 rfl) ?_
          refine f_11_6 F w (a := 0) rfl wtb_209 wdX11_orders_27 ?_
          refine f_3_0 F w (a := 109) rfl wtb_210 wdX11_orders_30 ?_
          refine r_val (v := (zI 0)) (hj0) ?_
          refine z_if_ne (tgt := 61) hx hb (by omega) wdX11_orders_33 (by decide) (fun c4 => False.elim (by omega)) (fun c4 => ?_)
          refine lv_aload_n hx hb wdX11_orders_36 rfl (lv_at hl 0 rfl) ?_
          refine f_11_6 F w (a := 0) rfl wtb_209 wdX11_orders_37 ?_
          refine lv_aload_n hx hb wdX11_orders_40 rfl (lv_at hl 0 rfl) ?_
          refine f_11_3 F w (a := 0) rfl wtb_207 wdX11_orders_41 ?_
          refine lv_aload_n hx hb wdX11_orders_44 rfl (lv_at hl 0 rfl) ?_
          refine f_11_3 F w (a := 0) rfl wtb_207 wdX11_orders_45 ?_
          refine lv_aload_n hx hb wdX11_orders_48 rfl (lv_at hl 0 rfl) ?_
          refine f_11_3 F w (a := 0) rfl wtb_207 wdX11_orders_49 ?_
          refine f_0_2 F w (a := 22) rfl wtb_368 wdX11_orders_52 ?_
          refine r_val (v := (zI (mr : Int))) (hS.1.1) ?_
          refine k_Vr F w (As := [.int (zI (mr : Int))]) (rest := [.ref (B + 22), .ref (B + 109)]) (a := 22) (kd_lt (a := 22) (show kd 22 = (0, 0, 0) from rfl) (by decide)) (sh_0 rfl _ _) rfl (g_stageOf hS (n9 := mr) (by omega)) wgv_X11_196 whv_X0_stageOf ⟨(Nat.le_of_ble_eq_true rfl), (Nat.le_of_ble_eq_true rfl)⟩ hl.1 rfl (Nat.le_of_ble_eq_true rfl) ⟨Nat.zero_le _, Nat.zero_le _⟩ wdX11_orders_55 (fun r Ma5 H locs hp w => ?_)
          rcases hp with ⟨rfl, rd1, hnr, hrr, hS1, hF1⟩
          refine k_Vv F w (As := [.ref (B + 22), .ref (B + (44 + 3 * mr))]) (rest := []) (a := 109) (kd_lt (a := 109) (show kd 109 = (3, 0, 0) from rfl) (by decide)) (sh_3 rfl _ _) rfl (h_reckon hS1 hn9 (by omega) hnr) wgv_X11_275 whv_X3_reckon ⟨(Nat.le_of_ble_eq_true rfl), (Nat.le_of_ble_eq_true rfl)⟩ hl.1 rfl (Nat.le_of_ble_eq_true rfl) ⟨Nat.zero_le _, Nat.zero_le _⟩ wdX11_orders_58 (fun Ma6 H locs hp w => ?_)
          rcases hp with ⟨hj1, hj2, hj3, hS2⟩
          refine lv_iload_n hx hb wdX11_orders_61 rfl (lv_at hl 1 rfl) ?_
          refine z_if_ne (tgt := 75) hx hb (by omega) wdX11_orders_62 (by decide) (fun c7 => ?_) (fun c7 => ?_)
          · refine lv_aload_n hx hb wdX11_orders_75 rfl (lv_at hl 0 rfl) ?_
            refine f_11_6 F w (a := 0) rfl wtb_209 wdX11_orders_76 ?_
            refine f_3_2 F w (a := 109) rfl wtb_494 wdX11_orders_79 ?_
            refine r_val (v := (zI (((odS Ps mr (q, hv, ed, o)) : Nat) : Int))) (hj3) ?_
            exact e_i F w hr hlocks ⟨congrArg zI (odA_1 (by omega) (by omega)).symm, Or.inr ⟨hj1, hj2, hj3⟩⟩ wdX11_orders_82
          · refine lv_aload_n hx hb wdX11_orders_65 rfl (lv_at hl 0 rfl) ?_
            refine f_11_6 F w (a := 0) rfl wtb_209 wdX11_orders_66 ?_
            refine f_3_1 F w (a := 109) rfl wtb_495 wdX11_orders_69 ?_
            refine r_val (v := (zI (((odU Ps mr (q, hv, ed, o)) : Nat) : Int))) (hj2) ?_
            refine lv_goto (tgt := 82) hx hb wdX11_orders_72 (by decide) ?_
            exact e_i F w hr hlocks ⟨congrArg zI (odA_0 (by omega) (by omega)).symm, Or.inr ⟨hj1, hj2, hj3⟩⟩ wdX11_orders_82
        · refine lv_aload_n hx hb wdX11_orders_26 rfl (lv_at hl 0 rfl) ?_
          refine f_11_6 F w (a := 0) rfl wtb_209 wdX11_orders_27 ?_
          refine f_3_0 F w (a := 109) rfl wtb_210 wdX11_orders_30 ?_
          refine r_val (v := (zI 1)) (hj1) ?_
          refine z_if_ne (tgt := 61) hx hb (by omega) wdX11_orders_33 (by decide) (fun c8 => ?_) (fun c8 => False.elim (by omega))
          refine lv_iload_n hx hb wdX11_orders_61 rfl (lv_at hl 1 rfl) ?_
          refine z_if_ne (tgt := 75) hx hb (by omega) wdX11_orders_62 (by decide) (fun c9 => ?_) (fun c9 => ?_)
          · refine lv_aload_n hx hb wdX11_orders_75 rfl (lv_at hl 0 rfl) ?_
            refine f_11_6 F w (a := 0) rfl wtb_209 wdX11_orders_76 ?_
            refine f_3_2 F w (a := 109) rfl wtb_494 wdX11_orders_79 ?_
            refine r_val (v := (zI (((odS Ps mr (q, hv, ed, o)) : Nat) : Int))) (hj3) ?_
            exact e_i F w hr hlocks ⟨congrArg zI (odA_1 (by omega) (by omega)).symm, Or.inr ⟨hj1, hj2, hj3⟩⟩ wdX11_orders_82
          · refine lv_aload_n hx hb wdX11_orders_65 rfl (lv_at hl 0 rfl) ?_
            refine f_11_6 F w (a := 0) rfl wtb_209 wdX11_orders_66 ?_
            refine f_3_1 F w (a := 109) rfl wtb_495 wdX11_orders_69 ?_
            refine r_val (v := (zI (((odU Ps mr (q, hv, ed, o)) : Nat) : Int))) (hj2) ?_
            refine lv_goto (tgt := 82) hx hb wdX11_orders_72 (by decide) ?_
            exact e_i F w hr hlocks ⟨congrArg zI (odA_0 (by omega) (by omega)).symm, Or.inr ⟨hj1, hj2, hj3⟩⟩ wdX11_orders_82
      · refine lv_bipush (v := zI (-2)) hx hb wdX11_orders_23 (by decide) ?_
        exact e_i F w hr hlocks ⟨congrArg zI (odA_b (by omega) (by omega)).symm, hJ⟩ wdX11_orders_25
    · refine lv_iconst (v := zI (-1)) hx hb wdX11_orders_9 rfl ?_
      exact e_i F w hr hlocks ⟨congrArg zI (odA_n (by omega)).symm, hJ⟩ wdX11_orders_10
