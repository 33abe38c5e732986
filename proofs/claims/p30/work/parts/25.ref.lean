-- SAFETY of the reference: intervals, lines that never cross, rules that flatten to a number
def wiv (k : Nat) : Int × Int := if k = 0 then (0, 12) else if k ≤ 12 then (-99, 300) else if k ≤ 24 then (0, 4095) else if k = 25 then (0, 12) else (0, 4095)
def ivrT : List (List (Int × Int)) := [[(-2147483648, 2147483647), (-2147483648, 2147483647), (-2147483648, 2147483647), (-2147483648, 2147483647), (-2147483648, 2147483647), (0, 8), (0, 20), (-2147483648, 2147483647), (0, 300), (0, 300), (-2147483648, 2147483647), (-99, 300), (-2147483648, 2147483647), (-2147483648, 2147483647), (-2147483648, 2147483647), (-2147483648, 2147483647), (0, 1), (-2147483648, 2147483647), (-2147483648, 2147483647), (-2147483648, 2147483647), (0, 12), (-2147483648, 2147483647), (0, 260), (-2147483648, 2147483647), (-2147483648, 2147483647), (0, 720), (-2147483648, 2147483647)], [(-2147483648, 2147483647)], [(-2147483648, 2147483647)], [(-99, 300)], [(0, 255)], [(-2147483648, 2147483647)], [(-128, 127)], [(-99, 300)], [(-99, 300)], [(-2147483648, 2147483647)], [(-2147483648, 2147483647)], [(-2147483648, 2147483647)], [(-2147483648, 2147483647)]]
def ivr (a k : Nat) : Int × Int := if a = 147 ∨ a = 148 ∨ a = 151 then wiv k else if a = 155 then wiv (k % 28) else match ivrT.getD (a - 146) [] with
  | [x] => x
  | l => l.getD k (-2147483648, 2147483647)
def NCw (g : Nat → Int32) : Prop := ∀ t u i j : Nat, t < u → (∃ n : Nat, g 0 = zI (n : Int) ∧ u < n ∧ n ≤ 12) → i < 12 → j < 12 → bt (g (13 + t)) i = true → bt (g (13 + u)) j = true → i ≤ j
def RKr (g : Nat → Int32) (o : Nat) : Prop := g o = zI 8 → ∃ z : Int, 0 ≤ z ∧ z ≤ 300 ∧ g (o + 3) = zI z
def NCs (M : Mem) : Prop := (NCw (M.1 147) ∧ NCw (M.1 148) ∧ NCw (M.1 151)) ∧ (∀ i, i < 12 → NCw (fun k => M.1 155 (28 * i + k))) ∧ ∀ r, r < 8 → RKr (M.1 149) (8 * r)
def wdT : List Int := [97, 103, 97, 105, 110, 0, 108, 105, 110, 107, 0, 115, 112, 114, 101, 97, 100, 0, 115, 104, 105, 102, 116, 0, 99, 117, 116, 0, 100, 111, 99, 107, 0, 100, 114, 111, 112, 0, 102, 117, 115, 101, 0, 116, 117, 114, 110, 0, 102, 108, 97, 116, 0, 102, 105, 108, 108, 0, 108, 111, 119, 0, 109, 105, 100, 0, 104, 105, 103, 104, 0, 97, 110, 121, 0, 114, 105, 103, 104, 116, 0, 108, 101, 102, 116, 0, 102, 105, 114, 115, 116, 0, 108, 97, 115, 116, 0, 116, 111, 0, 105, 102, 0, 110, 111, 116, 0, 98, 101, 103, 105, 110, 0, 101, 110, 100, 0, 104, 101, 97, 118, 121, 0, 109, 97, 110, 121, 0, 102, 108, 111, 97, 116, 0, 98, 101, 102, 111, 114, 101, 0, 97, 102, 116, 101, 114, 0]
def Wds (M : Mem) : Prop := ∀ k, k < 147 → M.1 152 k = zI (wdT.getD k 0)
def IvR (M : Mem) : Prop := (∀ a k, 146 ≤ a ∧ a < 159 → ∃ z : Int, (ivr a k).1 ≤ z ∧ z ≤ (ivr a k).2 ∧ M.1 a k = zI z) ∧ NCs M ∧ Wds M
def nw (a k : Nat) : Prop := a ≠ 155 ∧ a ≠ 149 ∧ a ≠ 152 ∧ (a = 147 ∨ a = 148 ∨ a = 151 → k ≠ 0 ∧ ¬ (13 ≤ k ∧ k ≤ 24))
theorem upd_at {g : Nat → Int32} {k : Nat} {x : Int32} : upd g k x k = x := if_pos rfl
theorem upd_ne {g : Nat → Int32} {k j : Nat} {x : Int32} (h : j ≠ k) : upd g k x j = g j := if_neg h
theorem st_f {M : Mem} {a k b : Nat} {x : Int32} : (st M a k x).1 b = if b = a then upd (M.1 a) k x else M.1 b := rfl
theorem NCw_ne {g : Nat → Int32} {k : Nat} {x : Int32} (h0 : k ≠ 0) (h1 : ¬ (13 ≤ k ∧ k ≤ 24)) (h : NCw g) : NCw (upd g k x) := by
  intro t u i j htu hn hi hj h2 h3
  obtain ⟨n, e, hu, hn⟩ := hn
  rw [upd_ne (Ne.symm h0)] at e
  rw [upd_ne (by omega)] at h2 h3
  exact h t u i j htu ⟨n, e, hu, hn⟩ hi hj h2 h3
theorem NCw_sub {g g' : Nat → Int32} (h : NCw g) (h0 : g' 0 = g 0) (hs : ∀ t i, i < 12 → bt (g' (13 + t)) i = true → bt (g (13 + t)) i = true) : NCw g' := by
  intro t u i j htu hn hi hj h2 h3
  rw [h0] at hn
  exact h t u i j htu hn hi hj (hs t i hi h2) (hs u j hj h3)
theorem bt_0 (i : Nat) (hi : i < 32) : bt (zI 0) i = false := by
  have := bt_zI 0 hi
  rw [Nat.zero_testBit] at this
  exact this
theorem NCw_and {g : Nat → Int32} {k : Nat} {y : Int32} (hk : 13 ≤ k) (h : NCw g) : NCw (upd g k (g k &&& y)) := by
  refine NCw_sub h (upd_ne (by omega)) (fun t i hi hb => ?_)
  by_cases e : 13 + t = k
  · subst e
    rw [upd_at, b_and] at hb
    exact (Bool.and_eq_true _ _ ▸ hb : _ ∧ _).1
  · rwa [upd_ne e] at hb
theorem NCw_0 {g : Nat → Int32} {k : Nat} (h : NCw g) : NCw (upd g k (zI 0)) := by
  by_cases h0 : k = 0
  · subst h0
    intro t u i j htu hn hi hj h2 h3
    obtain ⟨n, e, hu, hn⟩ := hn
    rw [upd_at] at e
    have := (zI_eq (a := 0) (b := (n : Int)) (by constructor <;> omega) (by constructor <;> omega)).mp e
    omega
  · refine NCw_sub h (upd_ne (Ne.symm h0)) (fun t i hi hb => ?_)
    by_cases e : 13 + t = k
    · subst e
      rw [upd_at, bt_0 i (by omega)] at hb
      cases hb
    · rwa [upd_ne e] at hb
theorem bt_bit {j i : Nat} (hj : j < 12) (hi : i < 32) (h : bt (zI 1 <<< (zI (j : Int) &&& 31)) i = true) : i = j := by
  rw [zb_shl (by omega), bt_zI _ hi, Nat.testBit_two_pow] at h
  simp at h
  exact h.symm
theorem NCw_or {g : Nat → Int32} {t y n : Nat} (hy : y < 12) (hn : g 0 = zI (n : Int)) (hn2 : n ≤ 12) (h : NCw g) (h1 : ∀ u, u < t → u < n → ∀ i, i < 12 → bt (g (13 + u)) i = true → i ≤ y) (h2 : ∀ u, t < u → u < n → ∀ i, i < 12 → bt (g (13 + u)) i = true → y ≤ i) : NCw (upd g (13 + t) (g (13 + t) ||| (zI 1 <<< (zI (y : Int) &&& 31)))) := by
  intro t' u' i j htu hn' hi hj hb1 hb2
  rw [upd_ne (by omega)] at hn'
  obtain ⟨n', e, hu, hn3⟩ := hn'
  have e2 := (zI_eq (a := (n : Int)) (b := (n' : Int)) (by constructor <;> omega) (by constructor <;> omega)).mp (hn.symm.trans e)
  obtain rfl : n = n' := by omega
  have key : ∀ v i, i < 12 → bt (upd g (13 + t) (g (13 + t) ||| (zI 1 <<< (zI (y : Int) &&& 31))) (13 + v)) i = true → bt (g (13 + v)) i = true ∨ (v = t ∧ i = y) := by
    intro v i hi hb
    by_cases ev : v = t
    · subst ev
      rw [upd_at, b_or] at hb
      rcases (Bool.or_eq_true _ _ ▸ hb : _ ∨ _) with q | q
      · exact Or.inl q
      · exact Or.inr ⟨rfl, bt_bit hy (by omega) q⟩
    · rw [upd_ne (by omega)] at hb
      exact Or.inl hb
  rcases key t' i hi hb1 with q1 | ⟨q1, q2⟩ <;> rcases key u' j hj hb2 with q3 | ⟨q3, q4⟩
  · exact h t' u' i j htu ⟨n, hn, hu, hn2⟩ hi hj q1 q3
  · subst q3; subst q4; exact h1 t' htu (by omega) i hi q1
  · subst q1; subst q2; exact h2 u' htu hu j hj q3
  · omega
def OpN (M : Mem) (a : Nat) (t y : Int) : Prop := NCw (upd (M.1 a) (13 + t.toNat) (M.1 a (13 + t.toNat) ||| (zI 1 <<< (zI y &&& 31))))
theorem OpN.fr {S : Nat → Nat → Prop} {M M1 : Mem} {a : Nat} {t y : Int} (h : OpN M a t y) (hf : Fr S M1 M) (hs : ∀ k, ¬ S a k) : OpN M1 a t y := by
  have : M1.1 a = M.1 a := funext fun k => hf a k (hs k)
  unfold OpN
  rw [this]
  exact h
theorem Wds.st {M : Mem} {a k : Nat} {x : Int32} (h : Wds M) (ha : a ≠ 152) : Wds (st M a k x) := fun j hj => by
  rw [st_ne (Or.inl (Ne.symm ha))]
  exact h j hj
theorem IvR.ld {M : Mem} (h : IvR M) {a k : Nat} {lo hi : Int} (hv : ivr a k = (lo, hi)) (ha : 146 ≤ a ∧ a < 159) : ∃ z : Int, (lo ≤ z ∧ z ≤ hi) ∧ M.1 a k = zI z := by
  obtain ⟨z, h1, h2, h3⟩ := h.1 a k ha
  rw [hv] at h1 h2
  exact ⟨z, ⟨h1, h2⟩, h3⟩
theorem IvR.iv {M : Mem} (h : IvR M) {a k : Nat} {lo hi x : Int} (hv : ivr a k = (lo, hi)) (hx : lo ≤ x ∧ x ≤ hi) : ∀ b j, 146 ≤ b ∧ b < 159 → ∃ z : Int, (ivr b j).1 ≤ z ∧ z ≤ (ivr b j).2 ∧ (st M a k (zI x)).1 b j = zI z := fun b j hb => by
  by_cases h1 : b = a ∧ j = k
  · obtain ⟨rfl, rfl⟩ := h1
    rw [st_at, hv]
    exact ⟨x, hx.1, hx.2, rfl⟩
  · rw [st_ne (by omega)]
    exact h.1 b j hb
theorem NCs.st {M : Mem} {a k : Nat} {x : Int32} (h : NCs M) (h5 : a ≠ 155) (h9 : a ≠ 149) (hw : a = 147 ∨ a = 148 ∨ a = 151 → NCw (upd (M.1 a) k x)) : NCs (st M a k x) := by
  have key : ∀ b, (b = 147 ∨ b = 148 ∨ b = 151) → NCw (M.1 b) → NCw ((_root_.Jvm.Pilot.CToneLinesLaw_law_r8774_8489e1.st M a k x).1 b) := by
    intro b hb hN
    show NCw (if b = a then upd (M.1 a) k x else M.1 b)
    by_cases e : b = a
    · subst e; rw [if_pos rfl]; exact hw hb
    · rw [if_neg e]; exact hN
  refine ⟨⟨key 147 (by omega) h.1.1, key 148 (by omega) h.1.2.1, key 151 (by omega) h.1.2.2⟩, fun i hi => ?_, fun r hr => ?_⟩
  · show NCw (fun j => (if 155 = a then upd (M.1 a) k x else M.1 155) (28 * i + j))
    rw [if_neg (Ne.symm h5)]
    exact h.2.1 i hi
  · show RKr (if 149 = a then upd (M.1 a) k x else M.1 149) (8 * r)
    rw [if_neg (Ne.symm h9)]
    exact h.2.2 r hr
theorem IvR.to {M : Mem} (h : IvR M) {a k : Nat} {lo hi x : Int} (hv : ivr a k = (lo, hi)) (hx : lo ≤ x ∧ x ≤ hi) (hn : nw a k) : IvR (st M a k (zI x)) :=
  ⟨h.iv hv hx, h.2.1.st hn.1 hn.2.1 (fun q => NCw_ne (hn.2.2.2 q).1 (hn.2.2.2 q).2 (by rcases q with rfl | rfl | rfl; exact h.2.1.1.1; exact h.2.1.1.2.1; exact h.2.1.1.2.2)), h.2.2.st hn.2.2.1⟩
theorem IvR.nc {M : Mem} (h : IvR M) {a : Nat} (ha : a = 147 ∨ a = 148 ∨ a = 151) : NCw (M.1 a) := by
  rcases ha with rfl | rfl | rfl
  · exact h.2.1.1.1
  · exact h.2.1.1.2.1
  · exact h.2.1.1.2.2
theorem IvR.toA {M : Mem} (h : IvR M) {a k : Nat} {y : Int32} {x : Int} (ha : a = 147 ∨ a = 148 ∨ a = 151) (hk : 13 ≤ k ∧ k ≤ 24) (he : M.1 a k &&& y = zI x) (hx : 0 ≤ x ∧ x ≤ 4095) : IvR (st M a k (zI x)) :=
  ⟨h.iv (lo := 0) (hi := 4095) (by unfold ivr; rw [if_pos ha]; unfold wiv; rw [if_neg (by omega), if_neg (by omega), if_pos (by omega)]) hx, h.2.1.st (by omega) (by omega) (fun _ => by rw [← he]; exact NCw_and hk.1 (h.nc ha)), h.2.2.st (by omega)⟩
theorem IvR.toO {M : Mem} (h : IvR M) {a : Nat} {t y x : Int} (ha : a = 147 ∨ a = 148 ∨ a = 151) (ht : 0 ≤ t ∧ t ≤ 11) (ho : OpN M a t y) (he : M.1 a (13 + t.toNat) ||| (zI 1 <<< (zI y &&& 31)) = zI x) (hx : 0 ≤ x ∧ x ≤ 4095) : IvR (st M a (13 + t.toNat) (zI x)) :=
  ⟨h.iv (lo := 0) (hi := 4095) (by unfold ivr; rw [if_pos ha]; unfold wiv; rw [if_neg (by omega), if_neg (by omega), if_pos (by omega)]) hx, h.2.1.st (by omega) (by omega) (fun _ => by rw [← he]; exact ho), h.2.2.st (by omega)⟩
theorem wiv_0 (k : Nat) : (wiv k).1 ≤ 0 ∧ 0 ≤ (wiv k).2 := by
  unfold wiv
  split
  · decide
  · split
    · decide
    · split
      · decide
      · split <;> decide
theorem IvR.to0 {M : Mem} (h : IvR M) {a k : Nat} (ha : a = 147 ∨ a = 148 ∨ a = 151) : IvR (st M a k (zI 0)) :=
  ⟨h.iv (lo := (wiv k).1) (hi := (wiv k).2) (by unfold ivr; rw [if_pos ha]) (wiv_0 k), h.2.1.st (by omega) (by omega) (fun _ => NCw_0 (h.nc ha)), h.2.2.st (by omega)⟩
theorem wiv_k {a k : Nat} (ha : a = 147 ∨ a = 148 ∨ a = 151) (h : 1 ≤ k ∧ k ≤ 12) : ivr a k = (-99, 300) := by unfold ivr; rw [if_pos ha]; unfold wiv; rw [if_neg (by omega), if_pos (by omega)]
theorem wiv_l {a k : Nat} (ha : a = 147 ∨ a = 148 ∨ a = 151) (h : 13 ≤ k ∧ k ≤ 24) : ivr a k = (0, 4095) := by unfold ivr; rw [if_pos ha]; unfold wiv; rw [if_neg (by omega), if_neg (by omega), if_pos (by omega)]
theorem and_eq {a c y e : Int32} (h1 : a = c) (h3 : c &&& y = e) : a &&& y = e := by rw [h1]; exact h3
theorem or_eq {a b c d e : Int32} (h1 : a = c) (h2 : b = d) (h3 : c ||| d = e) : a ||| b = e := by rw [h1, h2]; exact h3
theorem ix_l {z t : Int} (h : z = t + 13) (ht : 0 ≤ t ∧ t ≤ 11) : ix (zI z) (13 + t.toNat) := by
  have := ix_z (z := z) (by omega) (by omega)
  rwa [show z.toNat = 13 + t.toNat by omega] at this
theorem RK_ld {M : Mem} (h : IvR M) {r : Int} (hr : 0 ≤ r ∧ r ≤ 7) (h8 : M.1 149 (Int.toNat (8 * r)) = zI 8) : ∃ z : Int, (0 ≤ z ∧ z ≤ 300) ∧ M.1 149 (Int.toNat ((8 * r) + 3)) = zI z := by
  obtain ⟨z, h1, h2, h3⟩ := h.2.1.2.2 r.toNat (by omega) (by rw [show 8 * r.toNat = Int.toNat (8 * r) by omega]; exact h8)
  exact ⟨z, ⟨h1, h2⟩, by rw [show Int.toNat ((8 * r) + 3) = 8 * r.toNat + 3 by omega]; exact h3⟩
-- rows of words put in place, taken out, copied
theorem st_sA {M : Mem} {a k : Nat} {f : Nat → Int32} {x : Int32} : st (sA M a f) a k x = sA M a (upd f k x) := by
  refine Prod.ext (funext fun b => ?_) rfl
  show (if b = a then upd (if a = a then f else M.1 a) k x else if b = a then f else M.1 b) = if b = a then upd f k x else M.1 b
  rw [if_pos rfl]
  by_cases h : b = a
  · rw [if_pos h, if_pos h]
  · rw [if_neg h, if_neg h, if_neg h]
theorem ivr_w {a : Nat} (ha : a = 147 ∨ a = 148 ∨ a = 151) (k : Nat) : ivr a k = wiv k := by unfold ivr; rw [if_pos ha]
theorem IvR.w {M : Mem} (h : IvR M) {a : Nat} (ha : a = 147 ∨ a = 148 ∨ a = 151) (k : Nat) : ∃ z : Int, (wiv k).1 ≤ z ∧ z ≤ (wiv k).2 ∧ M.1 a k = zI z := by
  have := h.1 a k (by omega)
  rwa [ivr_w ha] at this
theorem IvR.row {M : Mem} (h : IvR M) {a : Nat} {f : Nat → Int32} (ha : a = 147 ∨ a = 148 ∨ a = 151) (hf : ∀ k, ∃ z : Int, (wiv k).1 ≤ z ∧ z ≤ (wiv k).2 ∧ f k = zI z) (hN : NCw f) : IvR (sA M a f) ∧ Fr (fun b9 _ => b9 = a) (sA M a f) M := by
  refine ⟨⟨fun b j hb => ?_, ?_, fun k hk => ?_⟩, fun b j hb => ?_⟩
  · show ∃ z : Int, _ ∧ _ ∧ (if b = a then f else M.1 b) j = zI z
    by_cases e : b = a
    · subst e
      rw [if_pos rfl, ivr_w ha]
      exact hf j
    · rw [if_neg e]
      exact h.1 b j hb
  · have key : ∀ b, NCw (M.1 b) → NCw (if b = a then f else M.1 b) := by
      intro b hb
      split
      · exact hN
      · exact hb
    refine ⟨⟨key 147 h.2.1.1.1, key 148 h.2.1.1.2.1, key 151 h.2.1.1.2.2⟩, fun i hi => ?_, fun r hr => ?_⟩
    · show NCw (fun j => (if 155 = a then f else M.1 155) (28 * i + j))
      rw [if_neg (by omega)]
      exact h.2.1.2.1 i hi
    · show RKr (if 149 = a then f else M.1 149) (8 * r)
      rw [if_neg (by omega)]
      exact h.2.1.2.2 r hr
  · show (if 152 = a then f else M.1 152) k = _
    rw [if_neg (by omega)]
    exact h.2.2 k hk
  · show (if b = a then f else M.1 b) j = _
    rw [if_neg hb]
theorem zn_inj {n m : Nat} (hn : n ≤ 99) (hm : m ≤ 99) (h : zI (n : Int) = zI (m : Int)) : n = m := by
  have := (zI_eq (a := (n : Int)) (b := (m : Int)) (by constructor <;> omega) (by constructor <;> omega)).mp h
  omega
theorem wiv_s {i : Nat} (h : (2 ≤ i ∧ i ≤ 12) ∨ (14 ≤ i ∧ i ≤ 24)) : wiv (i - 1) = wiv i := by
  have : ∀ i, i < 25 → ((2 ≤ i ∧ i ≤ 12) ∨ (14 ≤ i ∧ i ≤ 24)) → wiv (i - 1) = wiv i := by decide +kernel
  exact this i (by omega) h
theorem cp_ok {M : Mem} {a b : Nat} (h : IvR M) (ha : a = 147 ∨ a = 148 ∨ a = 151) (hb : b = 147 ∨ b = 148 ∨ b = 151) : (cpM M a b 28).1 a 0 = M.1 b 0 ∧ IvR (cpM M a b 28) ∧ Fr (fun b9 _ => b9 = a) (cpM M a b 28) M := by
  refine ⟨?_, h.row ha (fun k => ?_) ?_⟩
  · show (if a = a then (fun i => if i < 28 then M.1 b i else M.1 a i) else M.1 a) 0 = _
    rw [if_pos rfl]
    rfl
  · show ∃ z : Int, _ ∧ _ ∧ (if k < 28 then M.1 b k else M.1 a k) = zI z
    split
    · exact h.w hb k
    · exact h.w ha k
  · intro t u i j htu hn hi hj h2 h3
    obtain ⟨n, e, hu, hn⟩ := hn
    dsimp only at e h2 h3
    rw [if_pos (by omega)] at e
    rw [if_pos (by omega)] at h2 h3
    exact h.nc hb t u i j htu ⟨n, e, hu, hn⟩ hi hj h2 h3
theorem ins_ok {M : Mem} {a n t : Nat} {x : Int} (h : IvR M) (ha : a = 147 ∨ a = 148 ∨ a = 151) (h0 : M.1 a 0 = zI (n : Int)) (ht : t ≤ n) (hn : n < 12) (hx : -99 ≤ x ∧ x ≤ 300) : (st (st (st (riM M a n t) a (1 + t) (zI x)) a (13 + t) (zI 0)) a 0 (zI ((n + 1 : Nat) : Int))).1 a 0 = zI ((n : Int) + 1) ∧ IvR (st (st (st (riM M a n t) a (1 + t) (zI x)) a (13 + t) (zI 0)) a 0 (zI ((n + 1 : Nat) : Int))) ∧ Fr (fun b9 _ => b9 = a) (st (st (st (riM M a n t) a (1 + t) (zI x)) a (13 + t) (zI 0)) a 0 (zI ((n + 1 : Nat) : Int))) M := by
  refine ⟨by rw [st_at]; rfl, ?_⟩
  unfold riM
  rw [st_sA, st_sA, st_sA]
  refine h.row ha (fun k => ?_) ?_
  · by_cases k0 : k = 0
    · subst k0
      exact ⟨((n + 1 : Nat) : Int), by show (0 : Int) ≤ _; omega, by show _ ≤ (12 : Int); omega, upd_at⟩
    · rw [upd_ne k0]
      by_cases k1 : k = 13 + t
      · subst k1
        exact ⟨0, (wiv_0 _).1, (wiv_0 _).2, upd_at⟩
      · rw [upd_ne k1]
        by_cases k2 : k = 1 + t
        · subst k2
          have : wiv (1 + t) = (-99, 300) := by unfold wiv; rw [if_neg (by omega), if_pos (by omega)]
          rw [this]
          exact ⟨x, hx.1, hx.2, upd_at⟩
        · rw [upd_ne k2]
          unfold shR
          split
          · rw [← wiv_s (by omega)]
            exact h.w ha (k - 1)
          · exact h.w ha k
  · intro t' u' i j htu hnn hi hj h2 h3
    obtain ⟨n', e, hu, hn'⟩ := hnn
    rw [upd_at] at e
    have e := zn_inj (by omega) (by omega) e
    subst e
    have key : ∀ v i, i < 12 → v < n + 1 → bt (upd (upd (upd (shR (M.1 a) n t) (1 + t) (zI x)) (13 + t) (zI 0)) 0 (zI ((n + 1 : Nat) : Int)) (13 + v)) i = true → v ≠ t ∧ bt (M.1 a (13 + (if v < t then v else v - 1))) i = true := by
      intro v i hi hv hb
      rw [upd_ne (by omega)] at hb
      by_cases e : v = t
      · subst e
        rw [upd_at, bt_0 i (by omega)] at hb
        cases hb
      · refine ⟨e, ?_⟩
        rw [upd_ne (by omega), upd_ne (by omega)] at hb
        unfold shR at hb
        by_cases e2 : v < t
        · rw [if_neg (by omega)] at hb
          rwa [if_pos e2]
        · rw [if_pos (by omega)] at hb
          rw [if_neg e2]
          rwa [show 13 + (v - 1) = 13 + v - 1 by omega]
    obtain ⟨q1, q2⟩ := key t' i hi (by omega) h2
    obtain ⟨q3, q4⟩ := key u' j hj (by omega) h3
    refine h.nc ha _ _ i j ?_ ⟨n, h0, ?_, by omega⟩ hi hj q2 q4
    · split <;> split <;> omega
    · split <;> omega
theorem rem_nc {g : Nat → Int32} {n t : Nat} (h0 : g 0 = zI (n : Int)) (ht : t < n) (hn : n ≤ 12) (h : ∀ t' u' i j : Nat, t' < u' → u' < n → t' ≠ t → u' ≠ t → i < 12 → j < 12 → bt (g (13 + t')) i = true → bt (g (13 + u')) j = true → i ≤ j) : NCw (upd (sdR g t (n - 1)) 0 (zI ((n : Int) - 1))) := by
  intro t' u' i j htu hnn hi hj h2 h3
  obtain ⟨n', e, hu, hn'⟩ := hnn
  rw [upd_at, show ((n : Int) - 1) = ((n - 1 : Nat) : Int) by omega] at e
  have e := zn_inj (by omega) (by omega) e
  subst e
  rw [upd_ne (by omega)] at h2 h3
  unfold sdR at h2 h3
  have key : ∀ v i, v < n - 1 → bt (if (1 + t ≤ 13 + v ∧ 13 + v < 1 + (n - 1)) ∨ (13 + t ≤ 13 + v ∧ 13 + v < 13 + (n - 1)) then g (13 + v + 1) else g (13 + v)) i = true → bt (g (13 + (if v < t then v else v + 1))) i = true := by
    intro v i hv hb
    by_cases e2 : v < t
    · rw [if_neg (by omega)] at hb
      rwa [if_pos e2]
    · rw [if_pos (by omega)] at hb
      rw [if_neg e2]
      exact hb
  refine h _ _ i j ?_ ?_ ?_ ?_ hi hj (key t' i (by omega) h2) (key u' j (by omega) h3)
  · split <;> split <;> omega
  · split <;> omega
  · split <;> omega
  · split <;> omega
theorem rem_iv {M : Mem} {a n t : Nat} {f : Nat → Int32} (hf : ∀ k, ∃ z : Int, (wiv k).1 ≤ z ∧ z ≤ (wiv k).2 ∧ f k = zI z) (ht : t < n) (hn : n ≤ 12) (k : Nat) : ∃ z : Int, (wiv k).1 ≤ z ∧ z ≤ (wiv k).2 ∧ upd (sdR f t (n - 1)) 0 (zI ((n : Int) - 1)) k = zI z := by
  by_cases k0 : k = 0
  · subst k0
    exact ⟨(n : Int) - 1, by show (0 : Int) ≤ _; omega, by show _ ≤ (12 : Int); omega, upd_at⟩
  · rw [upd_ne k0]
    unfold sdR
    split
    · have := hf (k + 1)
      rwa [← wiv_s (i := k + 1) (by omega), Nat.add_sub_cancel] at this
    · exact hf k
theorem rem_ok {M : Mem} {a n t : Nat} (h : IvR M) (ha : a = 147 ∨ a = 148 ∨ a = 151) (h0 : M.1 a 0 = zI (n : Int)) (ht : t < n) (hn : n ≤ 12) : (st (rrM M a t (n - 1)) a 0 (zI ((n : Int) - 1))).1 a 0 = zI ((n : Int) - 1) ∧ IvR (st (rrM M a t (n - 1)) a 0 (zI ((n : Int) - 1))) ∧ Fr (fun b9 _ => b9 = a) (st (rrM M a t (n - 1)) a 0 (zI ((n : Int) - 1))) M := by
  refine ⟨by rw [st_at], ?_⟩
  unfold rrM
  rw [st_sA]
  exact h.row ha (rem_iv (M := M) (a := a) (h.w ha) ht hn) (rem_nc h0 ht hn (fun t' u' i j q1 q2 _ _ q5 q6 q7 q8 => h.nc ha t' u' i j q1 ⟨n, h0, q2, hn⟩ q5 q6 q7 q8))
-- a tone and the next one become one: its lines first, then the next goes
theorem fus_ok {M : Mem} {n t : Nat} {x : Int} {y : Int32} (h : IvR M) (h0 : M.1 148 0 = zI (n : Int)) (ht : t + 1 < n) (hn : n ≤ 12) (he : M.1 148 (13 + t) ||| (M.1 148 (13 + (t + 1)) &&& y) = zI x) (hx : 0 ≤ x ∧ x ≤ 4095) : (st (rrM (st M 148 (13 + t) (zI x)) 148 (t + 1) (n - 1)) 148 0 (zI ((n : Int) - 1))).1 148 0 = zI ((n : Int) - 1) ∧ IvR (st (rrM (st M 148 (13 + t) (zI x)) 148 (t + 1) (n - 1)) 148 0 (zI ((n : Int) - 1))) ∧ Fr (fun b9 _ => b9 = 148) (st (rrM (st M 148 (13 + t) (zI x)) 148 (t + 1) (n - 1)) 148 0 (zI ((n : Int) - 1))) M := by
  refine ⟨by rw [st_at], ?_⟩
  have e1 : st (rrM (st M 148 (13 + t) (zI x)) 148 (t + 1) (n - 1)) 148 0 (zI ((n : Int) - 1)) = sA M 148 (upd (sdR (upd (M.1 148) (13 + t) (zI x)) (t + 1) (n - 1)) 0 (zI ((n : Int) - 1))) := by
    unfold rrM
    rw [st_sA]
    refine Prod.ext (funext fun b => ?_) rfl
    show (if b = 148 then _ else (if b = 148 then _ else M.1 b)) = (if b = 148 then _ else M.1 b)
    by_cases e : b = 148
    · rw [if_pos e, if_pos e]
      rfl
    · rw [if_neg e, if_neg e, if_neg e]
  rw [e1]
  refine h.row (by omega) (rem_iv (M := M) (a := 148) (fun k => ?_) (by omega) hn) (rem_nc ?_ (by omega) hn ?_)
  · by_cases e : k = 13 + t
    · subst e
      have : wiv (13 + t) = (0, 4095) := by unfold wiv; rw [if_neg (by omega), if_neg (by omega), if_pos (by omega)]
      rw [this, upd_at]
      exact ⟨x, hx.1, hx.2, rfl⟩
    · rw [upd_ne e]
      exact h.w (by omega) k
  · rw [upd_ne (by omega)]
    exact h0
  · intro t' u' i j htu hu n1 n2 hi hj h2 h3
    have N := h.nc (a := 148) (by omega)
    have key : ∀ v i, i < 12 → v ≠ t + 1 → bt (upd (M.1 148) (13 + t) (zI x) (13 + v)) i = true → bt (M.1 148 (13 + v)) i = true ∨ (v = t ∧ bt (M.1 148 (13 + (t + 1))) i = true) := by
      intro v i hi hv hb
      by_cases e : v = t
      · subst e
        rw [upd_at, ← he, b_or, b_and] at hb
        simp only [Bool.or_eq_true, Bool.and_eq_true] at hb
        rcases hb with q | q
        · exact Or.inl q
        · exact Or.inr ⟨rfl, q.1⟩
      · rw [upd_ne (by omega)] at hb
        exact Or.inl hb
    rcases key t' i hi n1 h2 with q1 | ⟨q1, q2⟩ <;> rcases key u' j hj n2 h3 with q3 | ⟨q3, q4⟩
    · exact N t' u' i j htu ⟨n, h0, hu, hn⟩ hi hj q1 q3
    · subst q3; exact N t' (u' + 1) i j (by omega) ⟨n, h0, by omega, hn⟩ hi hj q1 q4
    · subst q1; exact N (t' + 1) u' i j (by omega) ⟨n, h0, hu, hn⟩ hi hj q2 q3
    · omega
theorem opn_of {M : Mem} {a n t j : Nat} {L : Nat → Nat} (h : IvR M) (ha : a = 147 ∨ a = 148 ∨ a = 151) (h0 : M.1 a 0 = zI (n : Int)) (hL : ∀ k, k < n → M.1 a (13 + k) = zI (L k : Int)) (hn : n ≤ 12) (hj : j < 12) (ho : openP n L t j) : OpN M a (t : Int) (j : Int) := by
  unfold OpN
  rw [show ((t : Int)).toNat = t by omega]
  refine NCw_or hj h0 hn (h.nc ha) (fun u hu hun i hi hb => ?_) (fun u hu hun i hi hb => ?_)
  · rw [hL u hun, bt_zI _ (by omega)] at hb
    exact ho.2.1 u hu hun i hb
  · rw [hL u hun, bt_zI _ (by omega)] at hb
    exact ho.2.2 u hu hun i hb
theorem L_ex {M : Mem} {a n : Nat} (h : IvR M) (ha : a = 147 ∨ a = 148 ∨ a = 151) (hn : n ≤ 12) : ∃ L : Nat → Nat, (∀ k, k < n → M.1 a (13 + k) = zI (L k : Int)) ∧ ∀ k, k < n → L k < 4096 := by
  refine ⟨fun k => (M.1 a (13 + k)).toInt.toNat, fun k hk => ?_, fun k hk => ?_⟩
  all_goals
    obtain ⟨z, hz, e⟩ := h.ld (wiv_l (a := a) (k := 13 + k) ha (by omega)) (by omega)
    dsimp only
    rw [e, zI_toInt (by constructor <;> omega)]
  · congr 1
    omega
  · omega
theorem clr_low : ∀ x, x < 4096 → x = 0 ∨ andn x (2 ^ low x) < x := clr_low_f
theorem clr_hig : ∀ x, x < 4096 → x = 0 ∨ andn x (2 ^ hig x) < x := clr_hig_f
theorem clr_t {x : Int} {b : Nat} (hx : 0 < x ∧ x ≤ 4095) (hb : b < 12) (h : andn x.toNat (2 ^ b) < x.toNat) {v w : Int} (h1 : zI 1 <<< (zI (b : Int) &&& 31) = zI v) (h2 : zI x &&& zI (-v - 1) = zI w) (h3 : -2147483648 ≤ w) (h4 : w ≤ 2147483647) : w < x := by
  rw [← not_ex, ← h1, zb_shl (by omega)] at h2
  have h5 := zb_andn x.toNat (2 ^ b)
  rw [show ((x.toNat : Nat) : Int) = x by omega, h2] at h5
  generalize andn x.toNat (2 ^ b) = k at h h5
  have := (zI_eq (by constructor <;> omega) (by constructor <;> omega)).mp h5
  omega
theorem low2_ex (x : Int) (h : 0 ≤ x ∧ x ≤ 4095) : ∃ z : Int, (-1 ≤ z ∧ z ≤ 11) ∧ ((x = 0 ∧ z = -1) ∨ (x ≠ 0 ∧ 0 ≤ z)) ∧ (∀ v w : Int, zI 1 <<< (zI z &&& 31) = zI v → zI x &&& zI (-v - 1) = zI w → -2147483648 ≤ w → w ≤ 2147483647 → x = 0 ∨ w < x) ∧ zI (lowI x.toNat) = zI z := by
  refine ⟨lowI x.toNat, ?_, ?_, ?_, rfl⟩
  · have := lowI_rg x.toNat (by omega); omega
  · by_cases hx : x = 0
    · exact Or.inl ⟨hx, lowI_0 (by omega)⟩
    · exact Or.inr ⟨hx, by rw [lowI_nz (by omega)]; omega⟩
  · intro v w h1 h2 h3 h4
    by_cases hx : x = 0
    · exact Or.inl hx
    · refine Or.inr ?_
      have hr := lowI_rg x.toNat (by omega)
      rw [lowI_nz (by omega)] at h1 hr
      exact clr_t (by omega) (by omega) ((clr_low x.toNat (by omega)).resolve_left (by omega)) h1 h2 h3 h4
theorem hig2_ex (x : Int) (h : 0 ≤ x ∧ x ≤ 4095) : ∃ z : Int, (-1 ≤ z ∧ z ≤ 11) ∧ ((x = 0 ∧ z = -1) ∨ (x ≠ 0 ∧ 0 ≤ z)) ∧ (∀ v w : Int, zI 1 <<< (zI z &&& 31) = zI v → zI x &&& zI (-v - 1) = zI w → -2147483648 ≤ w → w ≤ 2147483647 → x = 0 ∨ w < x) ∧ zI (higI x.toNat) = zI z := by
  refine ⟨higI x.toNat, ?_, ?_, ?_, rfl⟩
  · have := higI_rg x.toNat (by omega); omega
  · by_cases hx : x = 0
    · exact Or.inl ⟨hx, by rw [hx]; rfl⟩
    · exact Or.inr ⟨hx, by rw [higI_nz (by omega)]; omega⟩
  · intro v w h1 h2 h3 h4
    by_cases hx : x = 0
    · exact Or.inl hx
    · refine Or.inr ?_
      have hr := higI_rg x.toNat (by omega)
      rw [higI_nz (by omega)] at h1 hr
      exact clr_t (by omega) (by omega) ((clr_hig x.toNat (by omega)).resolve_left (by omega)) h1 h2 h3 h4
theorem pop2_ex (x : Int) (h : 0 ≤ x ∧ x ≤ 4095) : ∃ z : Int, (0 ≤ z ∧ z ≤ 12) ∧ ((x = 0 ∧ z = 0) ∨ (x ≠ 0 ∧ 0 < z)) ∧ zI ((pop x.toNat : Nat) : Int) = zI z := by
  have := pop_le x.toNat (by omega)
  refine ⟨_, by omega, ?_, rfl⟩
  by_cases hx : x = 0
  · exact Or.inl ⟨hx, by have := this.2.mpr (by omega); omega⟩
  · refine Or.inr ⟨hx, ?_⟩
    by_cases h0 : pop x.toNat = 0
    · have := this.2.mp h0; omega
    · omega
set_option maxRecDepth 4000 in
theorem lp_X12_isOpenL {p : Program} {l : Launch} {e : Env} {s : State} {m : MethodId} {args : Array Value} {below : List Frame} {meth : Method} {c : Code} {D : va_G} {B : Nat} {cy : Nat → ClassId}  {M : Mem} {R : Room} {a n : Nat} {L : Nat → Nat} {t j : Nat} (F : CallFix p m c cX12_isOpen 5 s args TB RX12) (hr : meth.sig.returnType = (some .boolean)) (hlocks : meth.locks = false) (hR1 : 2 ≤ R.frames) (hR2 : 42 ≤ R.locals) (hk : kd a = (22, 28, 0)) (h0 : M.1 a 0 = zI (n : Int)) (hLL : ∀ k, k < n → M.1 a (13 + k) = zI (L k : Int)) (hn : n ≤ 12) (hKL : ∀ k, k < n → L k < 4096) (ht : t < n) (hj : j < 12) (kk : ∀ (k : Nat) (H : Heap) (locs : List Loc) (ls : Array Slot), (k = n) → (∀ u, u < n → okU L t j u) → Wd D B cy s s.heap M H locs → lv_has ls 5 [(3, .int (zI (k : Int))), (0, .ref (B + a)), (1, .int (zI (t : Int))), (2, .int (zI (j : Int)))] → W p l e R s m args below meth c H locs 0 0 (MQ below (va_Qi (fun r M1 => ∃ z : Int, r = zI z ∧ (0 ≤ z ∧ z ≤ 1) ∧ (z = 0 ∨ OpN M a (t : Int) (j : Int)) ∧ M1 = M) (fun M2 t2 => Wp D B cy M2 t2) (fun q2 => B ≤ q2)) args s 0 0 (fun q2 => B ≤ q2)) (F0 m 76 ls [])) : ∀ (f : Nat) (k : Nat), (k ≤ n) → (∀ u, u < k → okU L t j u) → (n ≤ k + f) → ∀ (H : Heap) (locs : List Loc) (ls : Array Slot), Wd D B cy s s.heap M H locs → lv_has ls 5 [(3, .int (zI (k : Int))), (0, .ref (B + a)), (1, .int (zI (t : Int))), (2, .int (zI (j : Int)))] → W p l e R s m args below meth c H locs 0 0 (MQ below (va_Qi (fun r M1 => ∃ z : Int, r = zI z ∧ (0 ≤ z ∧ z ≤ 1) ∧ (z = 0 ∨ OpN M a (t : Int) (j : Int)) ∧ M1 = M) (fun M2 t2 => Wp D B cy M2 t2) (fun q2 => B ≤ q2)) args s 0 0 (fun q2 => B ≤ q2)) (F0 m 17 ls []) := by
  have hx := F.1
  have hb := F.2.1
  intro f
  induction f with
  | zero =>
    intro k i0 i1 hf H locs ls w hl
    refine lv_iload_n hx hb dX12_isOpen_17 rfl (lv_at hl 0 rfl) ?_
    refine lv_aload_n hx hb dX12_isOpen_18 rfl (lv_at hl 1 rfl) ?_
    refine lv_iconst (v := zI 0) hx hb dX12_isOpen_19 rfl ?_
    refine g_iald F w (a := a) hk (j := 0) ⟨by decide, by decide⟩ (by omega) dX12_isOpen_20 ?_
    refine r_val (v := (zI (n : Int))) (h0) ?_
    refine z_icmp_ge (tgt := 76) hx hb (by omega) (by omega) dX12_isOpen_21 (by decide) (fun c1 => ?_) (fun c1 => False.elim (by omega))
    exact kk k _ _ ls (by omega) (fun u hu => i1 u (by omega)) w (lv_sub hl [0, 1, 2, 3] rfl)
  | succ f ih =>
    intro k i0 i1 hf H locs ls w hl
    refine lv_iload_n hx hb dX12_isOpen_17 rfl (lv_at hl 0 rfl) ?_
    refine lv_aload_n hx hb dX12_isOpen_18 rfl (lv_at hl 1 rfl) ?_
    refine lv_iconst (v := zI 0) hx hb dX12_isOpen_19 rfl ?_
    refine g_iald F w (a := a) hk (j := 0) ⟨by decide, by decide⟩ (by omega) dX12_isOpen_20 ?_
    refine r_val (v := (zI (n : Int))) (h0) ?_
    refine z_icmp_ge (tgt := 76) hx hb (by omega) (by omega) dX12_isOpen_21 (by decide) (fun c1 => ?_) (fun c1 => ?_)
    · exact kk k _ _ ls (by omega) (fun u hu => i1 u (by omega)) w (lv_sub hl [0, 1, 2, 3] rfl)
    · refine lv_aload_n hx hb dX12_isOpen_24 rfl (lv_at hl 1 rfl) ?_
      refine lv_bipush (v := zI 13) hx hb dX12_isOpen_25 (by decide) ?_
      refine lv_iload_n hx hb dX12_isOpen_27 rfl (lv_at hl 0 rfl) ?_
      refine z_iadd (z := (((13 + k) : Nat) : Int)) hx hb dX12_isOpen_28 (by omega) ?_
      refine g_iald F w (a := a) hk (j := (13 + k)) (ix_n (by omega)) (by omega) dX12_isOpen_29 ?_
      have hL1 := hKL k (by omega)
      refine r_val (v := (zI (((L k) : Nat) : Int))) (hLL k (by omega)) ?_
      refine lv_istore (lv' := [(4, .int (zI (((L k) : Nat) : Int))), (3, .int (zI (k : Int))), (0, .ref (B + a)), (1, .int (zI (t : Int))), (2, .int (zI (j : Int)))]) hx hb dX12_isOpen_30 hl (by decide) rfl (fun ls hl => ?_)
      refine lv_iload hx hb dX12_isOpen_32 (lv_at hl 0 rfl) ?_
      refine z_if_ne (tgt := 40) hx hb (by omega) dX12_isOpen_34 (by decide) (fun c2 => ?_) (fun c2 => ?_)
      · refine lv_iload_n hx hb dX12_isOpen_40 rfl (lv_at hl 1 rfl) ?_
        refine lv_iload_n hx hb dX12_isOpen_41 rfl (lv_at hl 3 rfl) ?_
        refine z_icmp_ge (tgt := 54) hx hb (by omega) (by omega) dX12_isOpen_42 (by decide) (fun c3 => ?_) (fun c3 => ?_)
        · refine lv_iload_n hx hb dX12_isOpen_54 rfl (lv_at hl 1 rfl) ?_
          refine lv_iload_n hx hb dX12_isOpen_55 rfl (lv_at hl 3 rfl) ?_
          refine z_icmp_le (tgt := 70) hx hb (by omega) (by omega) dX12_isOpen_56 (by decide) (fun c4 => ?_) (fun c4 => ?_)
          · refine z_iinc (v := (((k + 1) : Nat) : Int)) (lv' := [(3, .int (zI (((k + 1) : Nat) : Int))), (4, .int (zI (((L k) : Nat) : Int))), (0, .ref (B + a)), (1, .int (zI (t : Int))), (2, .int (zI (j : Int)))]) hx hb dX12_isOpen_70 hl (k := 1) rfl (by omega) (by decide) rfl (fun ls hl => ?_)
            refine lv_goto (tgt := 17) hx hb dX12_isOpen_73 (by decide) ?_
            exact ih (k + 1) (by omega) (fun u hu => by by_cases h9 : u = k; (subst h9; exact ok_step (by omega) (by omega)); exact i1 u (by omega)) (by omega) _ _ ls w (lv_sub hl [0, 2, 3, 4] rfl)
          · refine lv_iload hx hb dX12_isOpen_59 (lv_at hl 0 rfl) ?_
            refine x_Si F w (As := [.int (zI (((L k) : Nat) : Int))]) (rest := []) (s_X12_firstOf (m9 := (L k)) (by omega)) gs_X12_63 hs_X12_firstOf ⟨(by omega), (by omega)⟩ hl.1 rfl (Nat.le_of_ble_eq_true rfl) ⟨Nat.zero_le _, Nat.zero_le _⟩ dX12_isOpen_61 (fun H locs w => ?_)
            have hw4 := lowI_rg (L k) (by omega)
            refine lv_iload_n hx hb dX12_isOpen_64 rfl (lv_at hl 4 rfl) ?_
            refine z_icmp_ge (tgt := 70) hx hb (by omega) (by omega) dX12_isOpen_65 (by decide) (fun c5 => ?_) (fun c5 => ?_)
            · refine z_iinc (v := (((k + 1) : Nat) : Int)) (lv' := [(3, .int (zI (((k + 1) : Nat) : Int))), (4, .int (zI (((L k) : Nat) : Int))), (0, .ref (B + a)), (1, .int (zI (t : Int))), (2, .int (zI (j : Int)))]) hx hb dX12_isOpen_70 hl (k := 1) rfl (by omega) (by decide) rfl (fun ls hl => ?_)
              refine lv_goto (tgt := 17) hx hb dX12_isOpen_73 (by decide) ?_
              exact ih (k + 1) (by omega) (fun u hu => by by_cases h9 : u = k; (subst h9; exact ok_step (by omega) (by omega)); exact i1 u (by omega)) (by omega) _ _ ls w (lv_sub hl [0, 2, 3, 4] rfl)
            · refine lv_iconst (v := zI 0) hx hb dX12_isOpen_68 rfl ?_
              exact e_z F w hr hlocks (by decide) ⟨0, rfl, by omega, Or.inl rfl, rfl⟩ dX12_isOpen_69
        · refine lv_iload hx hb dX12_isOpen_45 (lv_at hl 0 rfl) ?_
          refine x_Si F w (As := [.int (zI (((L k) : Nat) : Int))]) (rest := []) (s_X12_lastOf (m9 := (L k)) (by omega)) gs_X12_59 hs_X12_lastOf ⟨(by omega), (by omega)⟩ hl.1 rfl (Nat.le_of_ble_eq_true rfl) ⟨Nat.zero_le _, Nat.zero_le _⟩ dX12_isOpen_47 (fun H locs w => ?_)
          have hw5 := higI_rg (L k) (by omega)
          refine lv_iload_n hx hb dX12_isOpen_50 rfl (lv_at hl 4 rfl) ?_
          refine z_icmp_gt (tgt := 68) hx hb (by omega) (by omega) dX12_isOpen_51 (by decide) (fun c6 => ?_) (fun c6 => ?_)
          · refine lv_iconst (v := zI 0) hx hb dX12_isOpen_68 rfl ?_
            exact e_z F w hr hlocks (by decide) ⟨0, rfl, by omega, Or.inl rfl, rfl⟩ dX12_isOpen_69
          · refine lv_iload_n hx hb dX12_isOpen_54 rfl (lv_at hl 1 rfl) ?_
            refine lv_iload_n hx hb dX12_isOpen_55 rfl (lv_at hl 3 rfl) ?_
            refine z_icmp_le (tgt := 70) hx hb (by omega) (by omega) dX12_isOpen_56 (by decide) (fun c7 => ?_) (fun c7 => ?_)
            · refine z_iinc (v := (((k + 1) : Nat) : Int)) (lv' := [(3, .int (zI (((k + 1) : Nat) : Int))), (4, .int (zI (((L k) : Nat) : Int))), (0, .ref (B + a)), (1, .int (zI (t : Int))), (2, .int (zI (j : Int)))]) hx hb dX12_isOpen_70 hl (k := 1) rfl (by omega) (by decide) rfl (fun ls hl => ?_)
              refine lv_goto (tgt := 17) hx hb dX12_isOpen_73 (by decide) ?_
              exact ih (k + 1) (by omega) (fun u hu => by by_cases h9 : u = k; (subst h9; exact ok_step (by omega) (by omega)); exact i1 u (by omega)) (by omega) _ _ ls w (lv_sub hl [0, 2, 3, 4] rfl)
            · refine lv_iload hx hb dX12_isOpen_59 (lv_at hl 0 rfl) ?_
              refine x_Si F w (As := [.int (zI (((L k) : Nat) : Int))]) (rest := []) (s_X12_firstOf (m9 := (L k)) (by omega)) gs_X12_63 hs_X12_firstOf ⟨(by omega), (by omega)⟩ hl.1 rfl (Nat.le_of_ble_eq_true rfl) ⟨Nat.zero_le _, Nat.zero_le _⟩ dX12_isOpen_61 (fun H locs w => ?_)
              have hw7 := lowI_rg (L k) (by omega)
              refine lv_iload_n hx hb dX12_isOpen_64 rfl (lv_at hl 4 rfl) ?_
              refine z_icmp_ge (tgt := 70) hx hb (by omega) (by omega) dX12_isOpen_65 (by decide) (fun c8 => ?_) (fun c8 => ?_)
              · refine z_iinc (v := (((k + 1) : Nat) : Int)) (lv' := [(3, .int (zI (((k + 1) : Nat) : Int))), (4, .int (zI (((L k) : Nat) : Int))), (0, .ref (B + a)), (1, .int (zI (t : Int))), (2, .int (zI (j : Int)))]) hx hb dX12_isOpen_70 hl (k := 1) rfl (by omega) (by decide) rfl (fun ls hl => ?_)
                refine lv_goto (tgt := 17) hx hb dX12_isOpen_73 (by decide) ?_
                exact ih (k + 1) (by omega) (fun u hu => by by_cases h9 : u = k; (subst h9; exact ok_step (by omega) (by omega)); exact i1 u (by omega)) (by omega) _ _ ls w (lv_sub hl [0, 2, 3, 4] rfl)
              · refine lv_iconst (v := zI 0) hx hb dX12_isOpen_68 rfl ?_
                exact e_z F w hr hlocks (by decide) ⟨0, rfl, by omega, Or.inl rfl, rfl⟩ dX12_isOpen_69
      · refine lv_goto (tgt := 70) hx hb dX12_isOpen_37 (by decide) ?_
        refine z_iinc (v := (((k + 1) : Nat) : Int)) (lv' := [(3, .int (zI (((k + 1) : Nat) : Int))), (4, .int (zI (((L k) : Nat) : Int))), (0, .ref (B + a)), (1, .int (zI (t : Int))), (2, .int (zI (j : Int)))]) hx hb dX12_isOpen_70 hl (k := 1) rfl (by omega) (by decide) rfl (fun ls hl => ?_)
        refine lv_goto (tgt := 17) hx hb dX12_isOpen_73 (by decide) ?_
        exact ih (k + 1) (by omega) (fun u hu => by by_cases h9 : u = k; (subst h9; exact ok_step (by omega) (by omega)); exact i1 u (by omega)) (by omega) _ _ ls w (lv_sub hl [0, 2, 3, 4] rfl)
set_option maxRecDepth 4000 in
theorem s_X12_isOpenL {l : Launch} {D : va_G} {B : Nat} {cy : Nat → ClassId} {M : Mem} {a n : Nat} {L : Nat → Nat} (hk : kd a = (22, 28, 0)) (h0 : M.1 a 0 = zI (n : Int)) (hLL : ∀ k, k < n → M.1 a (13 + k) = zI (L k : Int)) (hn : n ≤ 12) (hKL : ∀ k, k < n → L k < 4096) {t j : Nat} (ht : t < n) (hj : j < 12) (hI : IvR M) (ha : a = 147 ∨ a = 148 ∨ a = 151) : Ci l D B cy yX12_isOpen cX12_isOpen 5 (some .boolean) 2 42 [.ref (B + a), .int (zI (t : Int)), .int (zI (j : Int))] M (fun r M1 => ∃ z : Int, r = zI z ∧ (0 ≤ z ∧ z ≤ 1) ∧ (z = 0 ∨ OpN M a (t : Int) (j : Int)) ∧ M1 = M) := by
  refine s_any (by decide) (Nat.le_of_ble_eq_true rfl) ?_
  intro p e s m below meth c ls F hr hlocks w hl
  have F : CallFix p m c cX12_isOpen 5 s _ TB RX12 := F
  have hx := F.1
  have hb := F.2.1
  have hl : lv_has ls 5 [(0, .ref (B + a)), (1, .int (zI (t : Int))), (2, .int (zI (j : Int)))] := hl
  refine lv_aload_n hx hb dX12_isOpen_0 rfl (lv_at hl 0 rfl) ?_
  refine lv_bipush (v := zI 13) hx hb dX12_isOpen_1 (by decide) ?_
  refine lv_iload_n hx hb dX12_isOpen_3 rfl (lv_at hl 1 rfl) ?_
  refine z_iadd (z := (((13 + t) : Nat) : Int)) hx hb dX12_isOpen_4 (by omega) ?_
  refine g_iald F w (a := a) hk (j := (13 + t)) (ix_n (by omega)) (by omega) dX12_isOpen_5 ?_
  have hL0 := hKL t (by omega)
  refine r_val (v := (zI (((L t) : Nat) : Int))) (hLL t (by omega)) ?_
  refine lv_iload_n hx hb dX12_isOpen_6 rfl (lv_at hl 2 rfl) ?_
  refine k_Si F w (As := [.int (zI (((L t) : Nat) : Int)), .int (zI (j : Int))]) (rest := []) (s_X12_isIn (m9 := (L t)) (k := j) (by omega) (by omega)) gs_X12_51 hs_X12_isIn ⟨(Nat.le_of_ble_eq_true rfl), (Nat.le_of_ble_eq_true rfl)⟩ hl.1 rfl (Nat.le_of_ble_eq_true rfl) ⟨Nat.zero_le _, Nat.zero_le _⟩ dX12_isOpen_7 (fun r M1 H locs hp w => ?_)
  rcases hp with ⟨⟨hb1, rfl⟩ | ⟨hb1, rfl⟩, hMe⟩
  · rw [hMe] at w
    refine z_if_eq (tgt := 15) hx hb (by omega) dX12_isOpen_10 (by decide) (fun c2 => False.elim (by omega)) (fun c2 => ?_)
    refine lv_iconst (v := zI 0) hx hb dX12_isOpen_13 rfl ?_
    exact e_z F w hr hlocks (by decide) ⟨0, rfl, by omega, Or.inl rfl, rfl⟩ dX12_isOpen_14
  · rw [hMe] at w
    refine z_if_eq (tgt := 15) hx hb (by omega) dX12_isOpen_10 (by decide) (fun c3 => ?_) (fun c3 => False.elim (by omega))
    refine lv_iconst (v := zI 0) hx hb dX12_isOpen_15 rfl ?_
    refine lv_istore_n (lv' := [(3, .int (zI 0)), (0, .ref (B + a)), (1, .int (zI (t : Int))), (2, .int (zI (j : Int)))]) hx hb dX12_isOpen_16 rfl hl (by decide) rfl (fun ls hl => ?_)
    refine lp_X12_isOpenL  F hr hlocks (Nat.le_of_ble_eq_true rfl) (Nat.le_of_ble_eq_true rfl) hk h0 hLL hn hKL ht hj (fun k H locs ls x0 x1 w hl => ?_) n 0 (by omega) (fun u hu => absurd hu (Nat.not_lt_zero u)) (by omega) _ _ ls w (lv_sub hl [0, 1, 2, 3] rfl)
    refine lv_iconst (v := zI 1) hx hb dX12_isOpen_76 rfl ?_
    exact e_z F w hr hlocks (by decide) ⟨1, rfl, by omega, Or.inr (opn_of hI ha h0 hLL hn hj (open_yes (nb (by assumption)) x1)), rfl⟩ dX12_isOpen_77
set_option maxRecDepth 4000 in
theorem lp_X12_copyL {p : Program} {l : Launch} {e : Env} {s : State} {m : MethodId} {args : Array Value} {below : List Frame} {meth : Method} {c : Code} {D : va_G} {B : Nat} {cy : Nat → ClassId} {H0 : Heap} {Q : State → Prop} {M : Mem} {R : Room} {a b : Nat} (F : CallFix p m c cX12_copy 3 s args TB RX12) (hR1 : 0 ≤ R.frames) (hR2 : 0 ≤ R.locals) (hk : kd a = (22, 28, 0)) (hk2 : kd b = (22, 28, 0)) (hab : b ≠ a) (kk : ∀ (k : Nat) (H : Heap) (locs : List Loc) (ls : Array Slot), (k = 28) → Wd D B cy s H0 (cpM M a b k) H locs → lv_has ls 3 [(2, .int (zI (k : Int))), (0, .ref (B + a)), (1, .ref (B + b))] → W p l e R s m args below meth c H locs 0 0 Q (F0 m 20 ls [])) : ∀ (f : Nat) (k : Nat), (k ≤ 28) → (28 ≤ k + f) → ∀ (H : Heap) (locs : List Loc) (ls : Array Slot), Wd D B cy s H0 (cpM M a b k) H locs → lv_has ls 3 [(2, .int (zI (k : Int))), (0, .ref (B + a)), (1, .ref (B + b))] → W p l e R s m args below meth c H locs 0 0 Q (F0 m 2 ls []) := by
  have hx := F.1
  have hb := F.2.1
  intro f
  induction f with
  | zero =>
    intro k i0 hf H locs ls w hl
    refine lv_iload_n hx hb dX12_copy_2 rfl (lv_at hl 0 rfl) ?_
    refine lv_bipush (v := zI 28) hx hb dX12_copy_3 (by decide) ?_
    refine z_icmp_ge (tgt := 20) hx hb (by omega) (by omega) dX12_copy_5 (by decide) (fun c1 => ?_) (fun c1 => False.elim (by omega))
    exact kk k _ _ ls (by omega) w (lv_sub hl [0, 1, 2] rfl)
  | succ f ih =>
    intro k i0 hf H locs ls w hl
    refine lv_iload_n hx hb dX12_copy_2 rfl (lv_at hl 0 rfl) ?_
    refine lv_bipush (v := zI 28) hx hb dX12_copy_3 (by decide) ?_
    refine z_icmp_ge (tgt := 20) hx hb (by omega) (by omega) dX12_copy_5 (by decide) (fun c1 => ?_) (fun c1 => ?_)
    · exact kk k _ _ ls (by omega) w (lv_sub hl [0, 1, 2] rfl)
    · refine lv_aload_n hx hb dX12_copy_8 rfl (lv_at hl 1 rfl) ?_
      refine lv_iload_n hx hb dX12_copy_9 rfl (lv_at hl 0 rfl) ?_
      refine lv_aload_n hx hb dX12_copy_10 rfl (lv_at hl 2 rfl) ?_
      refine lv_iload_n hx hb dX12_copy_11 rfl (lv_at hl 0 rfl) ?_
      refine g_iald F w (a := b) hk2 (j := k) (ix_n (by omega)) (by omega) dX12_copy_12 ?_
      refine r_val (v := (M.1 b k)) (cpM_rd hab) ?_
      refine g_iast F w (a := a) hk (j := k) (ix_n (by omega)) (by omega) dX12_copy_13 (fun H locs w => ?_)
      refine z_iinc (v := (((k + 1) : Nat) : Int)) (lv' := [(2, .int (zI (((k + 1) : Nat) : Int))), (0, .ref (B + a)), (1, .ref (B + b))]) hx hb dX12_copy_14 hl (k := 0) rfl (by omega) (by decide) rfl (fun ls hl => ?_)
      refine lv_goto (tgt := 2) hx hb dX12_copy_17 (by decide) ?_
      rw [cpM_step] at w
      exact ih (k + 1) (by omega) (by omega) _ _ ls w (lv_sub hl [0, 1, 2] rfl)
set_option maxRecDepth 4000 in
theorem s_X12_copyL {l : Launch} {D : va_G} {B : Nat} {cy : Nat → ClassId} {M : Mem} {a b : Nat} (hk : kd a = (22, 28, 0)) (hk2 : kd b = (22, 28, 0)) (hab : b ≠ a) (hI : IvR M) (ha : a = 147 ∨ a = 148 ∨ a = 151) (hb9 : b = 147 ∨ b = 148 ∨ b = 151) : Cv l D B cy yX12_copy cX12_copy 3 0 0 [.ref (B + a), .ref (B + b)] M (fun M1 => M1.1 a 0 = M.1 b 0 ∧ IvR M1 ∧ Fr (fun b9 _ => b9 = a) M1 M) := by
  refine s_any (by decide) (Nat.le_of_ble_eq_true rfl) ?_
  intro p e s m below meth c ls F hr hlocks w hl
  have F : CallFix p m c cX12_copy 3 s _ TB RX12 := F
  have hx := F.1
  have hb := F.2.1
  have hl : lv_has ls 3 [(0, .ref (B + a)), (1, .ref (B + b))] := hl
  refine lv_iconst (v := zI 0) hx hb dX12_copy_0 rfl ?_
  refine lv_istore_n (lv' := [(2, .int (zI 0)), (0, .ref (B + a)), (1, .ref (B + b))]) hx hb dX12_copy_1 rfl hl (by decide) rfl (fun ls hl => ?_)
  rw [← cpM_0 M a b] at w
  refine lp_X12_copyL  F (Nat.le_of_ble_eq_true rfl) (Nat.le_of_ble_eq_true rfl) hk hk2 hab (fun k H locs ls x0 w hl => ?_) 28 0 (by omega) (by omega) _ _ ls w (lv_sub hl [0, 1, 2] rfl)
  subst x0
  exact e_v F w hr hlocks (cp_ok hI ha hb9) dX12_copy_20
set_option maxRecDepth 4000 in
theorem lp_X12_insertL {p : Program} {l : Launch} {e : Env} {s : State} {m : MethodId} {args : Array Value} {below : List Frame} {meth : Method} {c : Code} {D : va_G} {B : Nat} {cy : Nat → ClassId} {H0 : Heap} {Q : State → Prop} {M : Mem} {R : Room} {a n : Nat} {t : Nat} {x : Int} (F : CallFix p m c cX12_insert 4 s args TB RX12) (hR1 : 0 ≤ R.frames) (hR2 : 0 ≤ R.locals) (hk : kd a = (22, 28, 0)) (h0 : M.1 a 0 = zI (n : Int)) (hn : n ≤ 12) (ht : t ≤ n) (hn9 : n < 12) (kk : ∀ (d : Nat) (H : Heap) (locs : List Loc) (ls : Array Slot), (d = 0) → Wd D B cy s H0 (riM M a n (t + d)) H locs → lv_has ls 4 [(3, .int (zI (((t + d) : Nat) : Int))), (0, .ref (B + a)), (1, .int (zI (t : Int))), (2, .int (zI x))] → W p l e R s m args below meth c H locs 0 0 Q (F0 m 41 ls [])) : ∀ (f : Nat) (d : Nat), (t + d ≤ n) → (d ≤ f) → ∀ (H : Heap) (locs : List Loc) (ls : Array Slot), Wd D B cy s H0 (riM M a n (t + d)) H locs → lv_has ls 4 [(3, .int (zI (((t + d) : Nat) : Int))), (0, .ref (B + a)), (1, .int (zI (t : Int))), (2, .int (zI x))] → W p l e R s m args below meth c H locs 0 0 Q (F0 m 4 ls []) := by
  have hx := F.1
  have hb := F.2.1
  intro f
  induction f with
  | zero =>
    intro d i0 hf H locs ls w hl
    refine lv_iload_n hx hb dX12_insert_4 rfl (lv_at hl 0 rfl) ?_
    refine lv_iload_n hx hb dX12_insert_5 rfl (lv_at hl 2 rfl) ?_
    refine z_icmp_le (tgt := 41) hx hb (by omega) (by omega) dX12_insert_6 (by decide) (fun c1 => ?_) (fun c1 => False.elim (by omega))
    exact kk d _ _ ls (by omega) w (lv_sub hl [0, 1, 2, 3] rfl)
  | succ f ih =>
    intro d i0 hf H locs ls w hl
    refine lv_iload_n hx hb dX12_insert_4 rfl (lv_at hl 0 rfl) ?_
    refine lv_iload_n hx hb dX12_insert_5 rfl (lv_at hl 2 rfl) ?_
    refine z_icmp_le (tgt := 41) hx hb (by omega) (by omega) dX12_insert_6 (by decide) (fun c1 => ?_) (fun c1 => ?_)
    · exact kk d _ _ ls (by omega) w (lv_sub hl [0, 1, 2, 3] rfl)
    · refine lv_aload_n hx hb dX12_insert_9 rfl (lv_at hl 1 rfl) ?_
      refine lv_iconst (v := zI 1) hx hb dX12_insert_10 rfl ?_
      refine lv_iload_n hx hb dX12_insert_11 rfl (lv_at hl 0 rfl) ?_
      refine z_iadd (z := (((1 + (t + d)) : Nat) : Int)) hx hb dX12_insert_12 (by omega) ?_
      refine lv_aload_n hx hb dX12_insert_13 rfl (lv_at hl 1 rfl) ?_
      refine lv_iconst (v := zI 1) hx hb dX12_insert_14 rfl ?_
      refine lv_iload_n hx hb dX12_insert_15 rfl (lv_at hl 0 rfl) ?_
      refine z_iadd (z := (((1 + (t + d)) : Nat) : Int)) hx hb dX12_insert_16 (by omega) ?_
      refine lv_iconst (v := zI 1) hx hb dX12_insert_17 rfl ?_
      refine z_isub (z := ((((1 + (t + d)) : Nat) : Int) - 1)) hx hb dX12_insert_18 (by omega) ?_
      refine r_val (v := (zI (((t + d) : Nat) : Int))) (congrArg zI (by omega)) ?_
      refine g_iald F w (a := a) hk (j := (t + d)) (ix_n (by omega)) (by omega) dX12_insert_19 ?_
      refine r_val (v := (M.1 a (t + d))) (riM_1 (by omega) (by omega) hn9) ?_
      refine g_iast F w (a := a) hk (j := (1 + (t + d))) (ix_n (by omega)) (by omega) dX12_insert_20 (fun H locs w => ?_)
      refine lv_aload_n hx hb dX12_insert_21 rfl (lv_at hl 1 rfl) ?_
      refine lv_bipush (v := zI 13) hx hb dX12_insert_22 (by decide) ?_
      refine lv_iload_n hx hb dX12_insert_24 rfl (lv_at hl 0 rfl) ?_
      refine z_iadd (z := (((13 + (t + d)) : Nat) : Int)) hx hb dX12_insert_25 (by omega) ?_
      refine lv_aload_n hx hb dX12_insert_26 rfl (lv_at hl 1 rfl) ?_
      refine lv_bipush (v := zI 13) hx hb dX12_insert_27 (by decide) ?_
      refine lv_iload_n hx hb dX12_insert_29 rfl (lv_at hl 0 rfl) ?_
      refine z_iadd (z := (((13 + (t + d)) : Nat) : Int)) hx hb dX12_insert_30 (by omega) ?_
      refine lv_iconst (v := zI 1) hx hb dX12_insert_31 rfl ?_
      refine z_isub (z := ((((13 + (t + d)) : Nat) : Int) - 1)) hx hb dX12_insert_32 (by omega) ?_
      refine r_val (v := (zI (((12 + (t + d)) : Nat) : Int))) (congrArg zI (by omega)) ?_
      refine g_iald F w (a := a) hk (j := (12 + (t + d))) (ix_n (by omega)) (by omega) dX12_insert_33 ?_
      refine r_val (v := (M.1 a (12 + (t + d)))) ((st_ne (Or.inr (by omega))).trans (riM_2 (by omega) (by omega) hn9 (by omega))) ?_
      refine g_iast F w (a := a) hk (j := (13 + (t + d))) (ix_n (by omega)) (by omega) dX12_insert_34 (fun H locs w => ?_)
      refine z_iinc (v := ((((t + d) : Nat) : Int) - 1)) (lv' := [(3, .int (zI ((((t + d) : Nat) : Int) - 1))), (0, .ref (B + a)), (1, .int (zI (t : Int))), (2, .int (zI x))]) hx hb dX12_insert_35 hl (k := 0) rfl (by omega) (by decide) rfl (fun ls hl => ?_)
      refine lv_goto (tgt := 4) hx hb dX12_insert_38 (by decide) ?_
      rw [show (((t + d : Nat) : Int) - 1) = ((t + (d - 1) : Nat) : Int) by omega] at hl
      rw [riM_step (by omega) (by omega) hn9, show t + d - 1 = t + (d - 1) by omega] at w
      exact ih (d - 1) (by omega) (by omega) _ _ ls w (lv_sub hl [0, 1, 2, 3] rfl)
set_option maxRecDepth 4000 in
theorem s_X12_insertL {l : Launch} {D : va_G} {B : Nat} {cy : Nat → ClassId} {M : Mem} {a n : Nat} (hk : kd a = (22, 28, 0)) (h0 : M.1 a 0 = zI (n : Int)) (hn : n ≤ 12) {t : Nat} {x : Int} (ht : t ≤ n) (hn9 : n < 12) (hx9 : -99 ≤ x ∧ x ≤ 300) (hI : IvR M) (ha : a = 147 ∨ a = 148 ∨ a = 151) : Cv l D B cy yX12_insert cX12_insert 4 0 0 [.ref (B + a), .int (zI (t : Int)), .int (zI x)] M (fun M1 => M1.1 a 0 = zI ((n : Int) + 1) ∧ IvR M1 ∧ Fr (fun b9 _ => b9 = a) M1 M) := by
  refine s_any (by decide) (Nat.le_of_ble_eq_true rfl) ?_
  intro p e s m below meth c ls F hr hlocks w hl
  have F : CallFix p m c cX12_insert 4 s _ TB RX12 := F
  have hx := F.1
  have hb := F.2.1
  have hl : lv_has ls 4 [(0, .ref (B + a)), (1, .int (zI (t : Int))), (2, .int (zI x))] := hl
  refine lv_aload_n hx hb dX12_insert_0 rfl (lv_at hl 0 rfl) ?_
  refine lv_iconst (v := zI 0) hx hb dX12_insert_1 rfl ?_
  refine g_iald F w (a := a) hk (j := 0) ⟨by decide, by decide⟩ (by omega) dX12_insert_2 ?_
  refine r_val (v := (zI (n : Int))) (h0) ?_
  refine lv_istore_n (lv' := [(3, .int (zI (n : Int))), (0, .ref (B + a)), (1, .int (zI (t : Int))), (2, .int (zI x))]) hx hb dX12_insert_3 rfl hl (by decide) rfl (fun ls hl => ?_)
  have hl : lv_has ls 4 [(3, .int (zI ((t + (n - t) : Nat) : Int))), (0, .ref (B + a)), (1, .int (zI (t : Int))), (2, .int (zI x))] := by rw [show t + (n - t) = n by omega]; exact hl
  rw [← riM_n M a n] at w
  rw [show riM M a n n = riM M a n (t + (n - t)) by rw [show t + (n - t) = n by omega]] at w
  refine lp_X12_insertL  F (Nat.le_of_ble_eq_true rfl) (Nat.le_of_ble_eq_true rfl) hk h0 hn ht hn9 (fun d H locs ls x0 w hl => ?_) n (n - t) (by omega) (by omega) _ _ ls w (lv_sub hl [0, 1, 2, 3] rfl)
  subst x0
  refine lv_aload_n hx hb dX12_insert_41 rfl (lv_at hl 1 rfl) ?_
  refine lv_iconst (v := zI 1) hx hb dX12_insert_42 rfl ?_
  refine lv_iload_n hx hb dX12_insert_43 rfl (lv_at hl 2 rfl) ?_
  refine z_iadd (z := (((1 + t) : Nat) : Int)) hx hb dX12_insert_44 (by omega) ?_
  refine lv_iload_n hx hb dX12_insert_45 rfl (lv_at hl 3 rfl) ?_
  refine g_iast F w (a := a) hk (j := (1 + t)) (ix_n (by omega)) (by omega) dX12_insert_46 (fun H locs w => ?_)
  refine lv_aload_n hx hb dX12_insert_47 rfl (lv_at hl 1 rfl) ?_
  refine lv_bipush (v := zI 13) hx hb dX12_insert_48 (by decide) ?_
  refine lv_iload_n hx hb dX12_insert_50 rfl (lv_at hl 2 rfl) ?_
  refine z_iadd (z := (((13 + t) : Nat) : Int)) hx hb dX12_insert_51 (by omega) ?_
  refine lv_iconst (v := zI 0) hx hb dX12_insert_52 rfl ?_
  refine g_iast F w (a := a) hk (j := (13 + t)) (ix_n (by omega)) (by omega) dX12_insert_53 (fun H locs w => ?_)
  refine lv_aload_n hx hb dX12_insert_54 rfl (lv_at hl 1 rfl) ?_
  refine lv_iconst (v := zI 0) hx hb dX12_insert_55 rfl ?_
  refine lv_dup2_11 hx hb dX12_insert_56 rfl rfl ?_
  refine g_iald F w (a := a) hk (j := 0) ⟨by decide, by decide⟩ (by omega) dX12_insert_57 ?_
  refine r_val (v := (zI (n : Int))) ((st_ne (Or.inr (by omega))).trans ((st_ne (Or.inr (by omega))).trans (riM_0.trans h0))) ?_
  refine lv_iconst (v := zI 1) hx hb dX12_insert_58 rfl ?_
  refine z_iadd (z := (((n + 1) : Nat) : Int)) hx hb dX12_insert_59 (by omega) ?_
  refine g_iast F w (a := a) hk (j := 0) ⟨by decide, by decide⟩ (by omega) dX12_insert_60 (fun H locs w => ?_)
  exact e_v F w hr hlocks (ins_ok hI ha h0 ht hn9 hx9) dX12_insert_61
set_option maxRecDepth 4000 in
theorem lp_X12_removeL {p : Program} {l : Launch} {e : Env} {s : State} {m : MethodId} {args : Array Value} {below : List Frame} {meth : Method} {c : Code} {D : va_G} {B : Nat} {cy : Nat → ClassId} {H0 : Heap} {Q : State → Prop} {M : Mem} {R : Room} {a n : Nat} {t : Nat} (F : CallFix p m c cX12_remove 3 s args TB RX12) (hR1 : 0 ≤ R.frames) (hR2 : 0 ≤ R.locals) (hk : kd a = (22, 28, 0)) (h0 : M.1 a 0 = zI (n : Int)) (hn : n ≤ 12) (ht : t < n) (kk : ∀ (u : Nat) (H : Heap) (locs : List Loc) (ls : Array Slot), (u = n - 1) → Wd D B cy s H0 (rrM M a t u) H locs → lv_has ls 3 [(2, .int (zI (u : Int))), (0, .ref (B + a)), (1, .int (zI (t : Int)))] → W p l e R s m args below meth c H locs 0 0 Q (F0 m 43 ls [])) : ∀ (f : Nat) (u : Nat), (t ≤ u) → (u < n) → (n ≤ u + 1 + f) → ∀ (H : Heap) (locs : List Loc) (ls : Array Slot), Wd D B cy s H0 (rrM M a t u) H locs → lv_has ls 3 [(2, .int (zI (u : Int))), (0, .ref (B + a)), (1, .int (zI (t : Int)))] → W p l e R s m args below meth c H locs 0 0 Q (F0 m 2 ls []) := by
  have hx := F.1
  have hb := F.2.1
  intro f
  induction f with
  | zero =>
    intro u i0 i1 hf H locs ls w hl
    refine lv_iload_n hx hb dX12_remove_2 rfl (lv_at hl 0 rfl) ?_
    refine lv_iconst (v := zI 1) hx hb dX12_remove_3 rfl ?_
    refine z_iadd (z := (((u + 1) : Nat) : Int)) hx hb dX12_remove_4 (by omega) ?_
    refine lv_aload_n hx hb dX12_remove_5 rfl (lv_at hl 1 rfl) ?_
    refine lv_iconst (v := zI 0) hx hb dX12_remove_6 rfl ?_
    refine g_iald F w (a := a) hk (j := 0) ⟨by decide, by decide⟩ (by omega) dX12_remove_7 ?_
    refine r_val (v := (zI (n : Int))) (rrM_0.trans h0) ?_
    refine z_icmp_ge (tgt := 43) hx hb (by omega) (by omega) dX12_remove_8 (by decide) (fun c1 => ?_) (fun c1 => False.elim (by omega))
    exact kk u _ _ ls (by omega) w (lv_sub hl [0, 1, 2] rfl)
  | succ f ih =>
    intro u i0 i1 hf H locs ls w hl
    refine lv_iload_n hx hb dX12_remove_2 rfl (lv_at hl 0 rfl) ?_
    refine lv_iconst (v := zI 1) hx hb dX12_remove_3 rfl ?_
    refine z_iadd (z := (((u + 1) : Nat) : Int)) hx hb dX12_remove_4 (by omega) ?_
    refine lv_aload_n hx hb dX12_remove_5 rfl (lv_at hl 1 rfl) ?_
    refine lv_iconst (v := zI 0) hx hb dX12_remove_6 rfl ?_
    refine g_iald F w (a := a) hk (j := 0) ⟨by decide, by decide⟩ (by omega) dX12_remove_7 ?_
    refine r_val (v := (zI (n : Int))) (rrM_0.trans h0) ?_
    refine z_icmp_ge (tgt := 43) hx hb (by omega) (by omega) dX12_remove_8 (by decide) (fun c1 => ?_) (fun c1 => ?_)
    · exact kk u _ _ ls (by omega) w (lv_sub hl [0, 1, 2] rfl)
    · refine lv_aload_n hx hb dX12_remove_11 rfl (lv_at hl 1 rfl) ?_
      refine lv_iconst (v := zI 1) hx hb dX12_remove_12 rfl ?_
      refine lv_iload_n hx hb dX12_remove_13 rfl (lv_at hl 0 rfl) ?_
      refine z_iadd (z := (((1 + u) : Nat) : Int)) hx hb dX12_remove_14 (by omega) ?_
      refine lv_aload_n hx hb dX12_remove_15 rfl (lv_at hl 1 rfl) ?_
      refine lv_iconst (v := zI 1) hx hb dX12_remove_16 rfl ?_
      refine lv_iload_n hx hb dX12_remove_17 rfl (lv_at hl 0 rfl) ?_
      refine z_iadd (z := (((1 + u) : Nat) : Int)) hx hb dX12_remove_18 (by omega) ?_
      refine lv_iconst (v := zI 1) hx hb dX12_remove_19 rfl ?_
      refine z_iadd (z := ((((1 + u) + 1) : Nat) : Int)) hx hb dX12_remove_20 (by omega) ?_
      refine g_iald F w (a := a) hk (j := ((1 + u) + 1)) (ix_n (by omega)) (by omega) dX12_remove_21 ?_
      refine r_val (v := (M.1 a ((1 + u) + 1))) (rrM_1 (by omega) (by omega)) ?_
      refine g_iast F w (a := a) hk (j := (1 + u)) (ix_n (by omega)) (by omega) dX12_remove_22 (fun H locs w => ?_)
      refine lv_aload_n hx hb dX12_remove_23 rfl (lv_at hl 1 rfl) ?_
      refine lv_bipush (v := zI 13) hx hb dX12_remove_24 (by decide) ?_
      refine lv_iload_n hx hb dX12_remove_26 rfl (lv_at hl 0 rfl) ?_
      refine z_iadd (z := (((13 + u) : Nat) : Int)) hx hb dX12_remove_27 (by omega) ?_
      refine lv_aload_n hx hb dX12_remove_28 rfl (lv_at hl 1 rfl) ?_
      refine lv_bipush (v := zI 13) hx hb dX12_remove_29 (by decide) ?_
      refine lv_iload_n hx hb dX12_remove_31 rfl (lv_at hl 0 rfl) ?_
      refine z_iadd (z := (((13 + u) : Nat) : Int)) hx hb dX12_remove_32 (by omega) ?_
      refine lv_iconst (v := zI 1) hx hb dX12_remove_33 rfl ?_
      refine z_iadd (z := ((((13 + u) + 1) : Nat) : Int)) hx hb dX12_remove_34 (by omega) ?_
      refine g_iald F w (a := a) hk (j := ((13 + u) + 1)) (ix_n (by omega)) (by omega) dX12_remove_35 ?_
      refine r_val (v := (M.1 a ((13 + u) + 1))) ((st_ne (Or.inr (by omega))).trans (rrM_2 (by omega))) ?_
      refine g_iast F w (a := a) hk (j := (13 + u)) (ix_n (by omega)) (by omega) dX12_remove_36 (fun H locs w => ?_)
      refine z_iinc (v := (((u + 1) : Nat) : Int)) (lv' := [(2, .int (zI (((u + 1) : Nat) : Int))), (0, .ref (B + a)), (1, .int (zI (t : Int)))]) hx hb dX12_remove_37 hl (k := 0) rfl (by omega) (by decide) rfl (fun ls hl => ?_)
      refine lv_goto (tgt := 2) hx hb dX12_remove_40 (by decide) ?_
      rw [rrM_step (by omega) (by omega)] at w
      exact ih (u + 1) (by omega) (by omega) (by omega) _ _ ls w (lv_sub hl [0, 1, 2] rfl)
set_option maxRecDepth 4000 in
theorem s_X12_removeL {l : Launch} {D : va_G} {B : Nat} {cy : Nat → ClassId} {M : Mem} {a n : Nat} (hk : kd a = (22, 28, 0)) (h0 : M.1 a 0 = zI (n : Int)) (hn : n ≤ 12) {t : Nat} (ht : t < n) (hI : IvR M) (ha : a = 147 ∨ a = 148 ∨ a = 151) : Cv l D B cy yX12_remove cX12_remove 3 0 0 [.ref (B + a), .int (zI (t : Int))] M (fun M1 => M1.1 a 0 = zI ((n : Int) - 1) ∧ IvR M1 ∧ Fr (fun b9 _ => b9 = a) M1 M) := by
  refine s_any (by decide) (Nat.le_of_ble_eq_true rfl) ?_
  intro p e s m below meth c ls F hr hlocks w hl
  have F : CallFix p m c cX12_remove 3 s _ TB RX12 := F
  have hx := F.1
  have hb := F.2.1
  have hl : lv_has ls 3 [(0, .ref (B + a)), (1, .int (zI (t : Int)))] := hl
  refine lv_iload_n hx hb dX12_remove_0 rfl (lv_at hl 1 rfl) ?_
  refine lv_istore_n (lv' := [(2, .int (zI (t : Int))), (0, .ref (B + a)), (1, .int (zI (t : Int)))]) hx hb dX12_remove_1 rfl hl (by decide) rfl (fun ls hl => ?_)
  rw [← rrM_t M a t] at w
  refine lp_X12_removeL  F (Nat.le_of_ble_eq_true rfl) (Nat.le_of_ble_eq_true rfl) hk h0 hn ht (fun u H locs ls x0 w hl => ?_) n t (by omega) (by omega) (by omega) _ _ ls w (lv_sub hl [0, 1, 2] rfl)
  subst x0
  refine lv_aload_n hx hb dX12_remove_43 rfl (lv_at hl 1 rfl) ?_
  refine lv_iconst (v := zI 0) hx hb dX12_remove_44 rfl ?_
  refine lv_dup2_11 hx hb dX12_remove_45 rfl rfl ?_
  refine g_iald F w (a := a) hk (j := 0) ⟨by decide, by decide⟩ (by omega) dX12_remove_46 ?_
  refine r_val (v := (zI (n : Int))) (rrM_0.trans h0) ?_
  refine lv_iconst (v := zI 1) hx hb dX12_remove_47 rfl ?_
  refine z_isub (z := ((n : Int) - 1)) hx hb dX12_remove_48 (by omega) ?_
  refine g_iast F w (a := a) hk (j := 0) ⟨by decide, by decide⟩ (by omega) dX12_remove_49 (fun H locs w => ?_)
  exact e_v F w hr hlocks (rem_ok hI ha h0 ht hn) dX12_remove_50
set_option maxRecDepth 4000 in
theorem s_X12_removeM {l : Launch} {D : va_G} {B : Nat} {cy : Nat → ClassId} {M : Mem} {a n : Nat} (hk : kd a = (22, 28, 0)) (h0 : M.1 a 0 = zI (n : Int)) (hn : n ≤ 12) {t : Nat} (ht : t < n) : Cv l D B cy yX12_remove cX12_remove 3 0 0 [.ref (B + a), .int (zI (t : Int))] M (fun M1 => M1 = st (rrM M a t (n - 1)) a 0 (zI ((n : Int) - 1))) := by
  refine s_any (by decide) (Nat.le_of_ble_eq_true rfl) ?_
  intro p e s m below meth c ls F hr hlocks w hl
  have F : CallFix p m c cX12_remove 3 s _ TB RX12 := F
  have hx := F.1
  have hb := F.2.1
  have hl : lv_has ls 3 [(0, .ref (B + a)), (1, .int (zI (t : Int)))] := hl
  refine lv_iload_n hx hb dX12_remove_0 rfl (lv_at hl 1 rfl) ?_
  refine lv_istore_n (lv' := [(2, .int (zI (t : Int))), (0, .ref (B + a)), (1, .int (zI (t : Int)))]) hx hb dX12_remove_1 rfl hl (by decide) rfl (fun ls hl => ?_)
  rw [← rrM_t M a t] at w
  refine lp_X12_removeL  F (Nat.le_of_ble_eq_true rfl) (Nat.le_of_ble_eq_true rfl) hk h0 hn ht (fun u H locs ls x0 w hl => ?_) n t (by omega) (by omega) (by omega) _ _ ls w (lv_sub hl [0, 1, 2] rfl)
  subst x0
  refine lv_aload_n hx hb dX12_remove_43 rfl (lv_at hl 1 rfl) ?_
  refine lv_iconst (v := zI 0) hx hb dX12_remove_44 rfl ?_
  refine lv_dup2_11 hx hb dX12_remove_45 rfl rfl ?_
  refine g_iald F w (a := a) hk (j := 0) ⟨by decide, by decide⟩ (by omega) dX12_remove_46 ?_
  refine r_val (v := (zI (n : Int))) (rrM_0.trans h0) ?_
  refine lv_iconst (v := zI 1) hx hb dX12_remove_47 rfl ?_
  refine z_isub (z := ((n : Int) - 1)) hx hb dX12_remove_48 (by omega) ?_
  refine g_iast F w (a := a) hk (j := 0) ⟨by decide, by decide⟩ (by omega) dX12_remove_49 (fun H locs w => ?_)
  exact e_v F w hr hlocks rfl dX12_remove_50
