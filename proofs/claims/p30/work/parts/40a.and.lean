-- two memories of one state: they agree at all real slots
def Ag (M M' : Mem) : Prop := (∀ a n b j, kd a = (20, n, b) ∨ kd a = (22, n, b) → j < n → M.1 a j = M'.1 a j) ∧ M.1 1 1 = M'.1 1 1 ∧ M.1 22 2 = M'.1 22 2 ∧ M.1 146 5 = M'.1 146 5 ∧ M.1 146 8 = M'.1 146 8
theorem ag_o {D : va_G} {B : Nat} {cy : Nat → ClassId} {M M' : Mem} {U : State} {a k c9 : Nat} {fs fs' : List Value} (h : Wp D B cy M U) (h' : Wp D B cy M' U) (ha : a < 159) (e1 : shp B cy a (M.1 a) (M.2 a) = .inr (c9, fs)) (e2 : shp B cy a (M'.1 a) (M'.2 a) = .inr (c9, fs')) (hk : (vwCl[c9]?).map (fun q => decide (k < q.2.2)) = some true) : fs.getD k .null = fs'.getD k .null := by
  have h1 := h.2.1 a _ (wl_at ha)
  have h2 := h'.2.1 a _ (wl_at ha)
  rw [e1] at h1
  rw [e2] at h2
  obtain ⟨r, hr, cell, hc, _, _, hs⟩ := h1
  obtain ⟨r2, hr2, cell2, hc2, _, _, hs2⟩ := h2
  cases hr.symm.trans hr2
  cases hc.symm.trans hc2
  have hk2 : k < r.2.2 := by
    rw [hr] at hk
    exact of_decide_eq_true (Option.some.inj hk)
  exact Option.some.inj ((hs k hk2).symm.trans (hs2 k hk2))
theorem ag_a {D : va_G} {B : Nat} {cy : Nat → ClassId} {M M' : Mem} {U : State} {a n j : Nat} {c9 : ClassId} (h : Wp D B cy M U) (h' : Wp D B cy M' U) (ha : a < 159) (e1 : shp B cy a (M.1 a) (M.2 a) = .inl (c9, n, .inl (M.1 a))) (e2 : shp B cy a (M'.1 a) (M'.2 a) = .inl (c9, n, .inl (M'.1 a))) (hj : j < n) : M.1 a j = M'.1 a j := by
  have h1 := h.2.1 a _ (wl_at ha)
  have h2 := h'.2.1 a _ (wl_at ha)
  rw [e1] at h1
  rw [e2] at h2
  have h3 : vp_cell c9 (n, .inl (M.1 a)) = vp_cell c9 (n, .inl (M'.1 a)) := Option.some.inj (Eq.trans (Eq.symm h1) h2)
  have h4 := congrArg (fun q : Cell => q.slots[j]?) h3
  have h5 : some (Value.int (M.1 a j)) = some (Value.int (M'.1 a j)) := by simpa [vp_cell, arrV, hj] using h4
  exact Value.int.inj (Option.some.inj h5)
theorem Ag.of {D : va_G} {B : Nat} {cy : Nat → ClassId} {M M' : Mem} {U : State} (h : Wp D B cy M U) (h' : Wp D B cy M' U) : Ag M M' := by
  refine ⟨fun a n b j hk hj => ?_, ?_, ?_, ?_, ?_⟩
  · rcases hk with hk | hk
    · exact ag_a h h' (kd_lt hk (by decide)) (by first | (simp only [shp, hk]; done) | (simp only [shp, hk]; rfl)) (by first | (simp only [shp, hk]; done) | (simp only [shp, hk]; rfl)) hj
    · exact ag_a h h' (kd_lt hk (by decide)) (by first | (simp only [shp, hk]; done) | (simp only [shp, hk]; rfl)) (by first | (simp only [shp, hk]; done) | (simp only [shp, hk]; rfl)) hj
  · exact Value.int.inj (ag_o (a := 1) (k := 1) h h' (by decide) (sh_8 rfl _ _) (sh_8 rfl _ _) (by decide +kernel))
  · exact Value.int.inj (ag_o (a := 22) (k := 2) h h' (by decide) (sh_0 rfl _ _) (sh_0 rfl _ _) (by decide +kernel))
  · exact Value.int.inj (ag_o (a := 146) (k := 5) h h' (by decide) (sh_12 rfl _ _) (sh_12 rfl _ _) (by decide +kernel))
  · exact Value.int.inj (ag_o (a := 146) (k := 8) h h' (by decide) (sh_12 rfl _ _) (sh_12 rfl _ _) (by decide +kernel))
theorem room_le {s : State} {pl : Platform} {f1 l1 f2 l2 : Nat} (hf : f2 ≤ f1) (hl : l2 ≤ l1) (h : s.hasRoom pl (rmm f1 l1) = true) : s.hasRoom pl (rmm f2 l2) = true := by
  simp only [State.hasRoom, Bool.and_eq_true, decide_eq_true_eq] at h ⊢
  obtain ⟨⟨⟨⟨y, a, b, c, d, e⟩, f⟩, g⟩, i⟩ := h
  exact ⟨⟨⟨⟨by omega, by omega, by omega, by omega, by omega, e⟩, f⟩, g⟩, i⟩
/-- the machine runs one way: what two contracts say of one call holds together -/
theorem Ci_and {l : Launch} {D : va_G} {B : Nat} {cy : Nat → ClassId} {y : MethodName} {cc : ByteArray} {n : Nat} {ret : Option FieldType} {fr lo fr2 lo2 : Nat} {av : List Value} {M : Mem} {post post2 : Int32 → Mem → Prop} (h : Ci l D B cy y cc n ret fr lo av M post) (h2 : Ci l D B cy y cc n ret fr2 lo2 av M post2) (hf : fr2 ≤ fr) (hl : lo2 ≤ lo) : Ci l D B cy y cc n ret fr lo av M (fun r M1 => post r M1 ∧ ∃ M2, Ag M1 M2 ∧ post2 r M2) := by
  intro p e ha hcs hk s m args below hfr happ hP hK
  obtain ⟨a1, a2, a3, a4, a5, a6, a7, a8⟩ := (Spec.appliesLoose_iff hfr).mp happ
  obtain ⟨n0, o0, w0, r0, e0, q0⟩ := h p e ha hcs hk s m args below hfr happ hP hK
  obtain ⟨n1, o1, w1, r1, e1, q1⟩ := h2 p e ha hcs hk s m args below hfr ((Spec.appliesLoose_iff hfr).mpr ⟨a1, a2, a3, a4, a5, a6, room_le hf hl a7, a8⟩) hP hK
  have hn : n1 = n0 := by
    rcases Nat.lt_trichotomy n1 n0 with hlt | heq | hgt
    · exact absurd (w0 n1 hlt) e1.not_within
    · exact heq
    · exact absurd (w1 n0 hgt) e0.not_within
  subst hn
  have ho := e0.outcome_unique e1
  subst ho
  obtain ⟨⟨⟨r, u, ho1, hp1, hw1⟩, hF1⟩, hL1⟩ := q0
  obtain ⟨⟨⟨r9, u9, ho2, hp2, hw2⟩, _⟩, _⟩ := q1
  have hr : r = r9 := by
    have := ho1.symm.trans ho2
    cases this
    rfl
  subst hr
  exact ⟨n1, o0, w0, r0, e0, ⟨⟨r, u, ho1, ⟨hp1, u9, Ag.of hw1 hw2, hp2⟩, hw1⟩, hF1⟩, hL1⟩
theorem isTc.ag {M M2 : Mem} {T : Nat → Nat} {n : Nat} (h : isTc M2 T n) (hA : Ag M M2) (hn : n ≤ 300) : isTc M T n := ⟨hA.2.1.trans h.1, fun i hi => (hA.1 2 300 0 i (Or.inl rfl) (by omega)).trans (h.2 i hi)⟩
theorem isTr.ag {M M2 : Mem} {T : Nat → Nat} {n : Nat} (h : isTr M2 T n) (hA : Ag M M2) (hn : n ≤ 300) : isTr M T n := ⟨hA.2.2.2.2.trans h.1, fun i hi => (hA.1 150 300 0 i (Or.inr rfl) (by omega)).trans (h.2 i hi)⟩
theorem isTc.F {S : Nat → Nat → Prop} {M N : Mem} {T : Nat → Nat} {n : Nat} (h : isTc M T n) (hF : Fr S N M) (h1 : ¬ S 1 1) (h2 : ∀ k, ¬ S 2 k) : isTc N T n := ⟨(hF 1 1 h1).trans h.1, fun i hi => (hF 2 i (h2 i)).trans (h.2 i hi)⟩
theorem isTr.F {S : Nat → Nat → Prop} {M N : Mem} {T : Nat → Nat} {n : Nat} (h : isTr M T n) (hF : Fr S N M) (h1 : ¬ S 146 8) (h2 : ∀ k, ¬ S 150 k) : isTr N T n := ⟨(hF 146 8 h1).trans h.1, fun i hi => (hF 150 i (h2 i)).trans (h.2 i hi)⟩
theorem isTc.B {S : Nat → Nat → Prop} {M N : Mem} {T : Nat → Nat} {n : Nat} {z : Int} (h : isTc M T n) (hF : Fr S N M) (h2 : ∀ k, ¬ S 2 k) (he : N.1 1 1 = zI z) (hz : 0 ≤ z ∧ z ≤ (n : Int)) : isTc N T z.toNat := ⟨he.trans (congrArg zI (by omega)), fun i hi => (hF 2 i (h2 i)).trans (h.2 i (by omega))⟩
theorem isTr.B {S : Nat → Nat → Prop} {M N : Mem} {T : Nat → Nat} {n : Nat} {z : Int} (h : isTr M T n) (hF : Fr S N M) (h2 : ∀ k, ¬ S 150 k) (he : N.1 146 8 = zI z) (hz : 0 ≤ z ∧ z ≤ (n : Int)) : isTr N T z.toNat := ⟨he.trans (congrArg zI (by omega)), fun i hi => (hF 150 i (h2 i)).trans (h.2 i (by omega))⟩
theorem isTc_0 {M : Mem} {T : Nat → Nat} (h : M.1 1 1 = zI 0) : isTc M T 0 := ⟨h, fun i hi => absurd hi (Nat.not_lt_zero i)⟩
theorem isTr_0 {M : Mem} {T : Nat → Nat} (h : M.1 146 8 = zI 0) : isTr M T 0 := ⟨h, fun i hi => absurd hi (Nat.not_lt_zero i)⟩
theorem okT.le {T : Nat → Nat} {n m : Nat} (h : okT T n) (hm : m ≤ 300) : okT T m := ⟨hm, h.2⟩
theorem isWd_of {M : Mem} (h : IvR M) : isWd M := fun k hk => by
  have h1 := h.2.2 k hk
  have h2 : ∀ k, k < 147 → wdT.getD k 0 = ((WB.getD k 0 : Nat) : Int) := by decide +kernel
  rw [h1, h2 k hk]
theorem rlQ_b {T : Nat → Nat} {N : Nat} (hN : N ≤ 300) {z : Int} (h : rlQ T N z) : -304 ≤ z ∧ z ≤ 8 := by
  rcases h with ⟨m9, h1, h2⟩ | ⟨m9, z9, h1, h2⟩
  · have := h1.1; omega
  · have := rlF_rg hN h1; omega
theorem rlQ_e {T : Nat → Nat} {N : Nat} (hN : N ≤ 300) {z1 z2 y1 y2 : Int} (h1 : rlQ T N z1) (h2 : rlQ T N z2) (e1 : zI y1 = zI z1) (e2 : zI y2 = zI z2) (b1 : -2147483648 ≤ y1 ∧ y1 ≤ 2147483647) (b2 : -2147483648 ≤ y2 ∧ y2 ≤ 2147483647) : y1 = y2 := by
  have q1 := rlQ_b hN h1
  have q2 := rlQ_b hN h2
  have e3 := (zI_eq (by constructor <;> omega) (by constructor <;> omega)).mp e1
  have e4 := (zI_eq (by constructor <;> omega) (by constructor <;> omega)).mp e2
  have := rlQ_u h1 h2
  omega
-- between two calls: intervals, and what lies on both tapes
def Jt (M : Mem) (T : Nat → Nat) (n : Nat) (T2 : Nat → Nat) (n2 : Nat) : Prop := Inv M ∧ IvR M ∧ isTc M T n ∧ isTr M T2 n2 ∧ okT T n ∧ okT T2 n2
theorem Jt.eq {M : Mem} {T T2 : Nat → Nat} {n n2 : Nat} (h : Jt M T n T2 n2) (e1 : T = T2) (e2 : n = n2) : Jt M T2 n2 T2 n2 := by subst e1; subst e2; exact h
theorem IvR.fr5 {M M1 : Mem} (h : IvR M) (hf : ∀ b k, 146 ≤ b → M1.1 b k = M.1 b k) : IvR M1 := by
  have e : ∀ b, 146 ≤ b → M1.1 b = M.1 b := fun b hb => funext fun k => hf b k hb
  refine ⟨fun a k ha => by rw [e a ha.1]; exact h.1 a k ha, ⟨⟨by rw [e 147 (by decide)]; exact h.2.1.1.1, by rw [e 148 (by decide)]; exact h.2.1.1.2.1, by rw [e 151 (by decide)]; exact h.2.1.1.2.2⟩, fun i hi => by rw [e 155 (by decide)]; exact h.2.1.2.1 i hi, fun r hr => by rw [e 149 (by decide)]; exact h.2.1.2.2 r hr⟩, fun k hk => by rw [e 152 (by decide)]; exact h.2.2 k hk⟩
theorem Jt.c {S : Nat → Nat → Prop} {M M1 : Mem} {T T2 T1 : Nat → Nat} {n n2 n1 : Nat} (h : Jt M T n T2 n2) (hI : Inv M1) (hF : Fr S M1 M) (hs : ∀ b k, S b k → b < 146) (h1 : isTc M1 T1 n1) (ho : okT T1 n1) : Jt M1 T1 n1 T2 n2 :=
  ⟨hI, h.2.1.fr5 (fun b k hb => hF b k (fun q => by have := hs b k q; omega)), h1, h.2.2.2.1.F hF (fun q => absurd (hs _ _ q) (by decide)) (fun k q => absurd (hs _ _ q) (by decide)), ho, h.2.2.2.2.2⟩
theorem Jt.r {S : Nat → Nat → Prop} {M M1 : Mem} {T T2 T1 : Nat → Nat} {n n2 n1 : Nat} (h : Jt M T n T2 n2) (hI : IvR M1) (hF : Fr S M1 M) (hs : ∀ b k, S b k → 146 ≤ b) (h1 : isTr M1 T1 n1) (ho : okT T1 n1) : Jt M1 T n T1 n1 :=
  ⟨h.1.fr hF hs, hI, h.2.2.1.F hF (fun q => absurd (hs _ _ q) (by decide)) (fun k q => absurd (hs _ _ q) (by decide)), h1, h.2.2.2.2.1, ho⟩
-- what holds of both sides between two calls: how long the two tapes are
def Jq (M : Mem) (a b : Int) : Prop := Inv M ∧ IvR M ∧ M.1 1 1 = zI a ∧ M.1 146 8 = zI b ∧ (0 ≤ a ∧ a ≤ 300) ∧ (0 ≤ b ∧ b ≤ 300)
theorem Jq.eq {M : Mem} {a b : Int} (h : Jq M a b) (e : a = b) : Jq M b b := e ▸ h
theorem IvR.fr {M M1 : Mem} (h : IvR M) (hf : ∀ b k, 146 ≤ b → M1.1 b k = M.1 b k) : IvR M1 := by
  have e : ∀ b, 146 ≤ b → M1.1 b = M.1 b := fun b hb => funext fun k => hf b k hb
  refine ⟨fun a k ha => by rw [e a ha.1]; exact h.1 a k ha, ⟨⟨by rw [e 147 (by decide)]; exact h.2.1.1.1, by rw [e 148 (by decide)]; exact h.2.1.1.2.1, by rw [e 151 (by decide)]; exact h.2.1.1.2.2⟩, fun i hi => by rw [e 155 (by decide)]; exact h.2.1.2.1 i hi, fun r hr => by rw [e 149 (by decide)]; exact h.2.1.2.2 r hr⟩, fun k hk => by rw [e 152 (by decide)]; exact h.2.2 k hk⟩
theorem Jq.c {S : Nat → Nat → Prop} {M M1 : Mem} {a b a1 : Int} (h : Jq M a b) (hI : Inv M1) (hF : Fr S M1 M) (hs : ∀ b k, S b k → b < 146) (h1 : M1.1 1 1 = zI a1) (ha : 0 ≤ a1 ∧ a1 ≤ 300) : Jq M1 a1 b :=
  ⟨hI, h.2.1.fr (fun b k hb => hF b k (fun q => by have := hs b k q; omega)), h1, (hF 146 8 (fun q => absurd (hs 146 8 q) (by decide))).trans h.2.2.2.1, ha, h.2.2.2.2.2⟩
theorem Jq.r {S : Nat → Nat → Prop} {M M1 : Mem} {a b b1 : Int} (h : Jq M a b) (hI : IvR M1) (hF : Fr S M1 M) (hs : ∀ b k, S b k → 146 ≤ b) (h1 : M1.1 146 8 = zI b1) (hb : 0 ≤ b1 ∧ b1 ≤ 300) : Jq M1 a b1 :=
  ⟨h.1.fr hF hs, hI, (hF 1 1 (fun q => absurd (hs 1 1 q) (by decide))).trans h.2.2.1, h1, h.2.2.2.2.1, hb⟩
-- between two calls: the rules, too, as they are kept on both sides
def Kc (M : Mem) (Ps : Nat → Nat → Int) (m : Nat) : Prop := m ≤ 8 ∧ (∀ j, j < m → okX (Ps j)) ∧ isK M Ps m
def Kr (M : Mem) (Ps : Nat → Nat → Int) (m : Nat) : Prop := m ≤ 8 ∧ (∀ j, j < m → okX (Ps j)) ∧ isKr M Ps m
theorem Kc.F {S : Nat → Nat → Prop} {M N : Mem} {Ps : Nat → Nat → Int} {m : Nat} (h : Kc M Ps m) (hF : Fr S N M) (h1 : ¬ S 22 2) (h2 : ∀ a k, 28 ≤ a → a ≤ 43 → ¬ S a k) : Kc N Ps m := ⟨h.1, h.2.1, (hF 22 2 h1).trans h.2.2.1, fun j hj k hk => (hF _ k (h2 _ k (by omega) (by have := h.1; omega))).trans (h.2.2.2 j hj k hk)⟩
theorem Kr.F {S : Nat → Nat → Prop} {M N : Mem} {Ps : Nat → Nat → Int} {m : Nat} (h : Kr M Ps m) (hF : Fr S N M) (h1 : ¬ S 146 5) (h2 : ∀ k, ¬ S 149 k) : Kr N Ps m := ⟨h.1, h.2.1, (hF 146 5 h1).trans h.2.2.1, fun j hj k hk => (hF 149 _ (h2 _)).trans (h.2.2.2 j hj k hk)⟩
theorem kd_lp {j : Nat} (h : j < 8) : kd (28 + 2 * j + 1) = (22, 8, 0) := kd_r1 (kd_lst h)
theorem Kc.ag {M M2 : Mem} {Ps : Nat → Nat → Int} {m : Nat} (h : Kc M2 Ps m) (hA : Ag M M2) : Kc M Ps m := ⟨h.1, h.2.1, hA.2.2.1.trans h.2.2.1, fun j hj k hk => (hA.1 _ 8 0 k (Or.inr (kd_lp (by have := h.1; omega))) hk).trans (h.2.2.2 j hj k hk)⟩
theorem Kr.ag {M M2 : Mem} {Ps : Nat → Nat → Int} {m : Nat} (h : Kr M2 Ps m) (hA : Ag M M2) : Kr M Ps m := ⟨h.1, h.2.1, hA.2.2.2.1.trans h.2.2.1, fun j hj k hk => (hA.1 149 64 0 _ (Or.inr rfl) (by have := h.1; omega)).trans (h.2.2.2 j hj k hk)⟩
theorem Kc.same {M M2 : Mem} {Ps : Nat → Nat → Int} {m : Nat} (h : Kc M Ps m) (hM : ∀ a, 22 ≤ a → M2.1 a = M.1 a) : Kc M2 Ps m := ⟨h.1, h.2.1, by rw [hM 22 (by decide)]; exact h.2.2.1, fun j hj k hk => by rw [hM _ (by omega)]; exact h.2.2.2 j hj k hk⟩
theorem Kr.same {M M2 : Mem} {Ps : Nat → Nat → Int} {m : Nat} (h : Kr M Ps m) (h1 : M2.1 149 = M.1 149) (h2 : M2.1 146 5 = M.1 146 5) : Kr M2 Ps m := ⟨h.1, h.2.1, h2.trans h.2.2.1, fun j hj k hk => by rw [h1]; exact h.2.2.2 j hj k hk⟩
def Jr (M : Mem) (T : Nat → Nat) (n : Nat) (T2 : Nat → Nat) (n2 : Nat) (Ps : Nat → Nat → Int) (m : Nat) (Ps2 : Nat → Nat → Int) (m2 : Nat) : Prop := Jt M T n T2 n2 ∧ Kc M Ps m ∧ Kr M Ps2 m2
theorem Jr.eq {M : Mem} {T T2 : Nat → Nat} {n n2 : Nat} {Ps Ps2 : Nat → Nat → Int} {m m2 : Nat} (h : Jr M T n T2 n2 Ps m Ps2 m2) (e1 : T = T2) (e2 : n = n2) (e3 : Ps = Ps2) (e4 : m = m2) : Jr M T2 n2 T2 n2 Ps2 m2 Ps2 m2 := by subst e1; subst e2; subst e3; subst e4; exact h
theorem Jr.c {S : Nat → Nat → Prop} {M M1 : Mem} {T T2 T1 : Nat → Nat} {n n2 n1 : Nat} {Ps Ps2 Ps1 : Nat → Nat → Int} {m m2 m1 : Nat} (h : Jr M T n T2 n2 Ps m Ps2 m2) (hI : Inv M1) (hF : Fr S M1 M) (hs : ∀ b k, S b k → b < 146) (h1 : isTc M1 T1 n1) (ho : okT T1 n1) (hk : Kc M1 Ps1 m1) : Jr M1 T1 n1 T2 n2 Ps1 m1 Ps2 m2 := ⟨h.1.c hI hF hs h1 ho, hk, h.2.2.F hF (fun q => absurd (hs _ _ q) (by decide)) (fun k q => absurd (hs _ _ q) (by decide))⟩
theorem Jr.r {S : Nat → Nat → Prop} {M M1 : Mem} {T T2 T1 : Nat → Nat} {n n2 n1 : Nat} {Ps Ps2 Ps1 : Nat → Nat → Int} {m m2 m1 : Nat} (h : Jr M T n T2 n2 Ps m Ps2 m2) (hI : IvR M1) (hF : Fr S M1 M) (hs : ∀ b k, S b k → 146 ≤ b) (h1 : isTr M1 T1 n1) (ho : okT T1 n1) (hk : Kr M1 Ps1 m1) : Jr M1 T n T1 n1 Ps m Ps1 m1 := ⟨h.1.r hI hF hs h1 ho, h.2.1.F hF (fun q => absurd (hs _ _ q) (by decide)) (fun a k h1 h2 q => by have := hs _ _ q; omega), hk⟩
