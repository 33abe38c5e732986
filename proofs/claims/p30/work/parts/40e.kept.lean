-- two memories of one state: more slots; what the two sides keep goes over
def Ag2 (M M' : Mem) : Prop := Ag M M' ∧ M.1 22 7 = M'.1 22 7 ∧ M.1 71 1 = M'.1 71 1 ∧ M.1 71 2 = M'.1 71 2 ∧ M.1 146 20 = M'.1 146 20 ∧ ∀ a, kd a = (9, 0, 0) → ∀ k, k < 4 → M.1 a k = M'.1 a k
theorem Ag2.of {D : va_G} {B : Nat} {cy : Nat → ClassId} {M M' : Mem} {U : State} (h : Wp D B cy M U) (h' : Wp D B cy M' U) : Ag2 M M' := by
  refine ⟨Ag.of h h', ?_, ?_, ?_, ?_, fun a hk k hk4 => ?_⟩
  · exact Value.int.inj (ag_o (a := 22) (k := 7) h h' (by decide) (sh_0 rfl _ _) (sh_0 rfl _ _) (by decide +kernel))
  · exact Value.int.inj (ag_o (a := 71) (k := 1) h h' (by decide) (sh_2 rfl _ _) (sh_2 rfl _ _) (by decide +kernel))
  · exact Value.int.inj (ag_o (a := 71) (k := 2) h h' (by decide) (sh_2 rfl _ _) (sh_2 rfl _ _) (by decide +kernel))
  · exact Value.int.inj (ag_o (a := 146) (k := 20) h h' (by decide) (sh_12 rfl _ _) (sh_12 rfl _ _) (by decide +kernel))
  · match k, hk4 with
    | 0, _ => exact Value.int.inj (ag_o (a := a) (k := 0) h h' (kd_lt hk (by decide)) (sh_9 hk _ _) (sh_9 hk _ _) (by decide +kernel))
    | 1, _ => exact Value.int.inj (ag_o (a := a) (k := 1) h h' (kd_lt hk (by decide)) (sh_9 hk _ _) (sh_9 hk _ _) (by decide +kernel))
    | 2, _ => exact Value.int.inj (ag_o (a := a) (k := 2) h h' (kd_lt hk (by decide)) (sh_9 hk _ _) (sh_9 hk _ _) (by decide +kernel))
    | 3, _ => exact Value.int.inj (ag_o (a := a) (k := 3) h h' (kd_lt hk (by decide)) (sh_9 hk _ _) (sh_9 hk _ _) (by decide +kernel))
    | k + 4, h => omega
/-- the machine runs one way: what two contracts say of one call holds together -/
theorem Ci_and2 {l : Launch} {D : va_G} {B : Nat} {cy : Nat → ClassId} {y : MethodName} {cc : ByteArray} {n : Nat} {ret : Option FieldType} {fr lo fr2 lo2 : Nat} {av : List Value} {M : Mem} {post post2 : Int32 → Mem → Prop} (h : Ci l D B cy y cc n ret fr lo av M post) (h2 : Ci l D B cy y cc n ret fr2 lo2 av M post2) (hf : fr2 ≤ fr) (hl : lo2 ≤ lo) : Ci l D B cy y cc n ret fr lo av M (fun r M1 => post r M1 ∧ ∃ M2, Ag2 M1 M2 ∧ post2 r M2) := by
  intro p e ha hcs hk s m args below hfr happ hP hK
  obtain ⟨a1, a2, a3, a4, a5, a6, a7, a8⟩ := (Spec.appliesLoose_iff hfr).mp happ
  obtain ⟨n0, o0, w0, r0, e0, q0⟩ := h p e ha hcs hk s m args below hfr happ hP hK
  obtain ⟨n1, o1, w1, r1, e1, q1⟩ := h2 p e ha hcs hk s m args below hfr ((Spec.appliesLoose_iff hfr).mpr ⟨a1, a2, a3, a4, a5, a6, room_le hf hl a7, a8⟩) hP hK
  have hn : n1 = n0 := by
    rcases Nat.lt_trichotomy n1 n0 with hlt | heq | hgt
    · exact absurd (w0 n1 hlt) e1.not_within
    · exact heq
    · exact absurd (w1 n0 hgt) e0.not_within
  subst hn
  have ho := e0.outcome_unique e1
  subst ho
  obtain ⟨⟨⟨r, u, ho1, hp1, hw1⟩, hF1⟩, hL1⟩ := q0
  obtain ⟨⟨⟨r9, u9, ho2, hp2, hw2⟩, _⟩, _⟩ := q1
  have hr : r = r9 := by
    have := ho1.symm.trans ho2
    cases this
    rfl
  subst hr
  exact ⟨n1, o0, w0, r0, e0, ⟨⟨r, u, ho1, ⟨hp1, u9, Ag2.of hw1 hw2, hp2⟩, hw1⟩, hF1⟩, hL1⟩
theorem Cr_and2 {l : Launch} {D : va_G} {B : Nat} {cy : Nat → ClassId} {y : MethodName} {cc : ByteArray} {n : Nat} {ret : Option FieldType} {fr lo fr2 lo2 : Nat} {av : List Value} {M : Mem} {post post2 : Nat → Mem → Prop} (h : Cr l D B cy y cc n ret fr lo av M post) (h2 : Cr l D B cy y cc n ret fr2 lo2 av M post2) (hf : fr2 ≤ fr) (hl : lo2 ≤ lo) : Cr l D B cy y cc n ret fr lo av M (fun r M1 => post r M1 ∧ ∃ M2, Ag2 M1 M2 ∧ post2 r M2) := by
  intro p e ha hcs hk s m args below hfr happ hP hK
  obtain ⟨a1, a2, a3, a4, a5, a6, a7, a8⟩ := (Spec.appliesLoose_iff hfr).mp happ
  obtain ⟨n0, o0, w0, r0, e0, q0⟩ := h p e ha hcs hk s m args below hfr happ hP hK
  obtain ⟨n1, o1, w1, r1, e1, q1⟩ := h2 p e ha hcs hk s m args below hfr ((Spec.appliesLoose_iff hfr).mpr ⟨a1, a2, a3, a4, a5, a6, room_le hf hl a7, a8⟩) hP hK
  have hn : n1 = n0 := by
    rcases Nat.lt_trichotomy n1 n0 with hlt | heq | hgt
    · exact absurd (w0 n1 hlt) e1.not_within
    · exact heq
    · exact absurd (w1 n0 hgt) e0.not_within
  subst hn
  have ho := e0.outcome_unique e1
  subst ho
  obtain ⟨⟨⟨u, r, ho1, hp1, hw1, hr1⟩, hF1⟩, hL1⟩ := q0
  obtain ⟨⟨⟨u9, r9, ho2, hp2, hw2, hr2⟩, _⟩, _⟩ := q1
  have hr : r = r9 := by
    have := ho1.symm.trans ho2
    cases this
    rfl
  have hu : u.2 = u9.2 := by omega
  exact ⟨n1, o0, w0, r0, e0, ⟨⟨u, r, ho1, ⟨hp1, u9.1, Ag2.of hw1 hw2, by rw [hu]; exact hp2⟩, hw1, hr1⟩, hF1⟩, hL1⟩
theorem CF.ag {M M2 : Mem} {a : Nat} {x : Fw} (hk : kd a = (9, 0, 0)) (h : CF M2 a x) (hA : Ag2 M M2) : CF M a x := by
  obtain ⟨⟨h0, h1, h2, h3, h4, h5⟩, hok, hr⟩ := h
  have hn := hok.1
  exact ⟨⟨(hA.2.2.2.2.2 a hk 0 (by decide)).trans h0, (hA.2.2.2.2.2 a hk 1 (by decide)).trans h1, (hA.2.2.2.2.2 a hk 2 (by decide)).trans h2, (hA.2.2.2.2.2 a hk 3 (by decide)).trans h3, fun k hk1 => (hA.1.1 _ 12 0 k (Or.inr (kd_w1 hk)) (by omega)).trans (h4 k hk1), fun k hk1 => (hA.1.1 _ 12 0 k (Or.inr (kd_w2 hk)) (by omega)).trans (h5 k hk1)⟩, hok, hr⟩
theorem CS.ag {M M2 : Mem} {Ps : Nat → Nat → Int} {m rd k : Nat} {x : Fw} {Hs : Nat → Fw} (h : CS M2 Ps m x rd Hs k) (hA : Ag2 M M2) : CS M Ps m x rd Hs k := by
  obtain ⟨⟨a1, a2, a3⟩, ⟨b1, b2, b3, b4⟩, nx, c1, c2, c3, c4, c5⟩ := h
  refine ⟨⟨hA.1.2.2.1.trans a1, a2, fun j hj => ⟨fun k hk => (hA.1.1 _ 8 0 k (Or.inr (kd_lp (by omega))) hk).trans ((a3 j hj).1 k hk), (a3 j hj).2⟩⟩, ⟨hA.2.1.trans b1, b2, fun i hi => CF.ag (kd_sg (by omega)) (b3 i hi) hA, fun i hi => ?_⟩, nx, hA.2.2.1.trans c1, c2, hA.2.2.2.1.trans c3, c4, fun j hj => CF.ag (kd_rn (Nat.mod_lt _ (by decide))) (c5 j hj) hA⟩
  have h4 := b4 i hi
  exact ⟨(hA.1.1 26 8 0 i (Or.inr rfl) (by omega)).trans h4.1, (hA.1.1 27 8 0 i (Or.inr rfl) (by omega)).trans h4.2.1, h4.2.2⟩
theorem MS.ag {M M2 : Mem} {Ps : Nat → Nat → Int} {m k : Nat} {x : Fw} {Hs : Nat → Fw} (h : MS M2 Ps m x Hs k) (hA : Ag2 M M2) : MS M Ps m x Hs k := by
  obtain ⟨⟨a1, a2⟩, b, ⟨c1, c2⟩, d1, d2, d3⟩ := h
  refine ⟨⟨a1, fun j hj => ⟨fun k hk => (hA.1.1 149 64 0 _ (Or.inr rfl) (by omega)).trans ((a2 j hj).1 k hk), (a2 j hj).2⟩⟩, hA.1.2.2.2.1.trans b, ⟨c1.fr c2 (fun i hi => hA.1.1 147 28 0 i (Or.inr rfl) hi), c2⟩, hA.2.2.2.2.1.trans d1, d2, fun j hj => ⟨(d3 j hj).1.fr (d3 j hj).2 (fun i hi => hA.1.1 155 336 0 _ (Or.inr rfl) (by omega)), (d3 j hj).2⟩⟩
theorem AQ.c {Ps : Nat → Nat → Int} {m k : Nat} {Hs : Nat → Fw} {x : Fw} {ac : Option Fw} {ry rn : Int} {M M1 M2 : Mem} {r : Int32} (h : AQ Ps m Hs k x ac ry rn M r M2) (hA : Ag2 M1 M2) (h0 : ∃ rd, CS M Ps m x rd Hs k) : ∃ x1 H1 k1, (∃ rd, CS M1 Ps m x1 rd H1 k1) ∧ AP ac x Hs k x1 H1 k1 ∧ r = zI (rvO ac ry rn) := by
  rcases h with ⟨z, e, er, hS, _⟩ | ⟨e, er, eM⟩
  · subst e
    exact ⟨z, _, _, ⟨0, hS.ag hA⟩, Or.inl ⟨rfl, rfl, rfl⟩, er⟩
  · subst e
    obtain ⟨rd, h0⟩ := h0
    rw [eM] at hA
    exact ⟨x, Hs, k, ⟨rd, h0.ag hA⟩, Or.inr ⟨rfl, rfl, rfl, rfl⟩, er⟩
theorem AR.c {Ps : Nat → Nat → Int} {m k : Nat} {Hs : Nat → Fw} {x : Fw} {ac : Option Fw} {ry rn : Int} {M M1 M2 : Mem} {r : Int32} (h : AR Ps m Hs k x ac ry rn M r M2) (hA : Ag2 M1 M2) (h0 : MS M Ps m x Hs k) : ∃ x1 H1 k1, MS M1 Ps m x1 H1 k1 ∧ AP ac x Hs k x1 H1 k1 ∧ r = zI (rvO ac ry rn) := by
  rcases h with ⟨z, e, er, hS, _⟩ | ⟨e, er, eM⟩
  · subst e
    exact ⟨z, _, _, hS.ag hA, Or.inl ⟨rfl, rfl, rfl⟩, er⟩
  · subst e
    rw [eM] at hA
    exact ⟨x, Hs, k, h0.ag hA, Or.inr ⟨rfl, rfl, rfl, rfl⟩, er⟩
-- does, derive, undo, word, rules of the class
theorem does_c {Ps : Nat → Nat → Int} {m k q hv ed rd : Nat} {o : Wo} {Hs : Nat → Fw} {M M1 M2 : Mem} {r : Int32} {r9 : Int} (h0 : CS M Ps m (q, hv, ed, o) rd Hs k) (h : (∃ (rn : Nat) (o2 : Wo) (dd pp : Nat), r9 = (rn : Int) ∧ rn < m ∧ pfF (Ps rn) q hv ed 20 o = (o2, dd, pp) ∧ r = zI ((dd : Nat) : Int) ∧ dd ≤ 37680 ∧ ((0 < dd ∧ CS M2 Ps m (q, hv, ed, o2) 0 (phH Hs k (q, hv, ed, o)) (phK k)) ∨ (dd = 0 ∧ CS M2 Ps m (q, hv, ed, o) rd Hs k)) ∧ FA M2 M) ∨ (¬ (0 ≤ r9 ∧ r9 < (m : Int)) ∧ r = zI (-1) ∧ M2 = M)) (hA : Ag2 M1 M2) : ∃ x1 H1 k1, (∃ rd, CS M1 Ps m x1 rd H1 k1) ∧ AP (dsO Ps m r9 (q, hv, ed, o)) (q, hv, ed, o) Hs k x1 H1 k1 ∧ r = zI (dsR Ps m r9 (q, hv, ed, o)) := by
  rcases h with ⟨rn, o2, dd, pp, rfl, hrn, e, er, _, h1 | h1, _⟩ | ⟨h1, er, eM⟩
  · exact ⟨_, _, _, ⟨0, h1.2.ag hA⟩, Or.inl ⟨dsO_y hrn e h1.1, rfl, rfl⟩, er.trans (congrArg zI (dsR_y hrn e).symm)⟩
  · exact ⟨_, _, _, ⟨rd, h1.2.ag hA⟩, Or.inr ⟨dsO_z e h1.1, rfl, rfl, rfl⟩, er.trans (congrArg zI (dsR_y hrn e).symm)⟩
  · rw [eM] at hA
    exact ⟨_, _, _, ⟨rd, h0.ag hA⟩, Or.inr ⟨dsO_n h1, rfl, rfl, rfl⟩, er.trans (congrArg zI (dsR_n h1).symm)⟩
theorem does_r {Ps : Nat → Nat → Int} {m k q hv ed : Nat} {o : Wo} {Hs : Nat → Fw} {M M1 M2 : Mem} {r : Int32} {r9 : Int} (h0 : MS M Ps m (q, hv, ed, o) Hs k) (h : (∃ (rn : Nat) (o2 : Wo) (dd pp : Nat), r9 = (rn : Int) ∧ rn < m ∧ pfF (Ps rn) q hv ed 20 o = (o2, dd, pp) ∧ r = zI ((dd : Nat) : Int) ∧ dd ≤ 37680 ∧ ((0 < dd ∧ MS M2 Ps m (q, hv, ed, o2) (phH Hs k (q, hv, ed, o)) (phK k)) ∨ (dd = 0 ∧ MS M2 Ps m (q, hv, ed, o) Hs k)) ∧ FR M2 M) ∨ (¬ (0 ≤ r9 ∧ r9 < (m : Int)) ∧ r = zI (-1) ∧ M2 = M)) (hA : Ag2 M1 M2) : ∃ x1 H1 k1, MS M1 Ps m x1 H1 k1 ∧ AP (dsO Ps m r9 (q, hv, ed, o)) (q, hv, ed, o) Hs k x1 H1 k1 ∧ r = zI (dsR Ps m r9 (q, hv, ed, o)) := by
  rcases h with ⟨rn, o2, dd, pp, rfl, hrn, e, er, _, h1 | h1, _⟩ | ⟨h1, er, eM⟩
  · exact ⟨_, _, _, h1.2.ag hA, Or.inl ⟨dsO_y hrn e h1.1, rfl, rfl⟩, er.trans (congrArg zI (dsR_y hrn e).symm)⟩
  · exact ⟨_, _, _, h1.2.ag hA, Or.inr ⟨dsO_z e h1.1, rfl, rfl, rfl⟩, er.trans (congrArg zI (dsR_y hrn e).symm)⟩
  · rw [eM] at hA
    exact ⟨_, _, _, h0.ag hA, Or.inr ⟨dsO_n h1, rfl, rfl, rfl⟩, er.trans (congrArg zI (dsR_n h1).symm)⟩
theorem derive_c {Ps : Nat → Nat → Int} {m k q hv ed rd : Nat} {o : Wo} {Hs : Nat → Fw} {M M1 M2 : Mem} {r : Int32} {r9 : Int} (h0 : CS M Ps m (q, hv, ed, o) rd Hs k) (h : (∃ (nn : Nat), r9 = (nn : Int) ∧ nn ≤ m ∧ r = zI ((dv2 Ps (q, hv, ed, o) nn : Nat) : Int) ∧ dv2 Ps (q, hv, ed, o) nn ≤ 400000 ∧ ((0 < dv2 Ps (q, hv, ed, o) nn ∧ CS M2 Ps m (q, hv, ed, sg9 Ps (q, hv, ed, o) nn) 0 (phH Hs k (q, hv, ed, o)) (phK k)) ∨ (dv2 Ps (q, hv, ed, o) nn = 0 ∧ ∃ rd1, CS M2 Ps m (q, hv, ed, o) rd1 Hs k)) ∧ FA M2 M) ∨ (¬ (0 ≤ r9 ∧ r9 ≤ (m : Int)) ∧ r = zI (-1) ∧ M2 = M)) (hA : Ag2 M1 M2) : ∃ x1 H1 k1, (∃ rd, CS M1 Ps m x1 rd H1 k1) ∧ AP (dvO Ps m r9 (q, hv, ed, o)) (q, hv, ed, o) Hs k x1 H1 k1 ∧ r = zI (dvR Ps m r9 (q, hv, ed, o)) := by
  rcases h with ⟨nn, rfl, hnn, er, _, h1 | ⟨h1, rd1, h2⟩, _⟩ | ⟨h1, er, eM⟩
  · exact ⟨_, _, _, ⟨0, h1.2.ag hA⟩, Or.inl ⟨dvO_y hnn h1.1, rfl, rfl⟩, er.trans (congrArg zI (dvR_y hnn).symm)⟩
  · exact ⟨_, _, _, ⟨rd1, h2.ag hA⟩, Or.inr ⟨dvO_z h1, rfl, rfl, rfl⟩, er.trans (congrArg zI (dvR_y hnn).symm)⟩
  · rw [eM] at hA
    exact ⟨_, _, _, ⟨rd, h0.ag hA⟩, Or.inr ⟨dvO_n h1, rfl, rfl, rfl⟩, er.trans (congrArg zI (dvR_n h1).symm)⟩
theorem derive_r {Ps : Nat → Nat → Int} {m k q hv ed : Nat} {o : Wo} {Hs : Nat → Fw} {M M1 M2 : Mem} {r : Int32} {r9 : Int} (h0 : MS M Ps m (q, hv, ed, o) Hs k) (h : (∃ (nn : Nat) (o2 : Wo) (dd : Nat), r9 = (nn : Int) ∧ nn ≤ m ∧ dvF Ps q hv ed nn o = (o2, dd) ∧ r = zI ((dd : Nat) : Int) ∧ dd ≤ 400000 ∧ ((0 < dd ∧ MS M2 Ps m (q, hv, ed, o2) (phH Hs k (q, hv, ed, o)) (phK k)) ∨ (dd = 0 ∧ MS M2 Ps m (q, hv, ed, o) Hs k)) ∧ FR M2 M) ∨ (¬ (0 ≤ r9 ∧ r9 ≤ (m : Int)) ∧ r = zI (-1) ∧ M2 = M)) (hA : Ag2 M1 M2) : ∃ x1 H1 k1, MS M1 Ps m x1 H1 k1 ∧ AP (dvO Ps m r9 (q, hv, ed, o)) (q, hv, ed, o) Hs k x1 H1 k1 ∧ r = zI (dvR Ps m r9 (q, hv, ed, o)) := by
  rcases h with ⟨nn, o2, dd, rfl, hnn, e, er, _, h1, _⟩ | ⟨h1, er, eM⟩
  · have e1 : sg9 Ps (q, hv, ed, o) nn = o2 := congrArg Prod.fst e
    have e2 : dv2 Ps (q, hv, ed, o) nn = dd := congrArg Prod.snd e
    subst e1; subst e2
    rcases h1 with h1 | h1
    · exact ⟨_, _, _, h1.2.ag hA, Or.inl ⟨dvO_y hnn h1.1, rfl, rfl⟩, er.trans (congrArg zI (dvR_y hnn).symm)⟩
    · exact ⟨_, _, _, h1.2.ag hA, Or.inr ⟨dvO_z h1.1, rfl, rfl, rfl⟩, er.trans (congrArg zI (dvR_y hnn).symm)⟩
  · rw [eM] at hA
    exact ⟨_, _, _, h0.ag hA, Or.inr ⟨dvO_n h1, rfl, rfl, rfl⟩, er.trans (congrArg zI (dvR_n h1).symm)⟩
theorem undo_c {Ps : Nat → Nat → Int} {m k rd : Nat} {x : Fw} {Hs : Nat → Fw} {M M1 M2 : Mem} {r : Int32} (h0 : CS M Ps m x rd Hs k) (h : (1 ≤ k ∧ r = zI ((k - 1 : Nat) : Int) ∧ CS M2 Ps m (Hs (k - 1)) 0 Hs (k - 1) ∧ FA M2 M) ∨ (k = 0 ∧ r = zI (-1) ∧ M2 = M)) (hA : Ag2 M1 M2) : ∃ x1 k1, (∃ rd, CS M1 Ps m x1 rd Hs k1) ∧ UP x Hs k x1 k1 r := by
  rcases h with ⟨h1, er, hS, _⟩ | ⟨h1, er, eM⟩
  · exact ⟨_, _, ⟨0, hS.ag hA⟩, Or.inl ⟨h1, rfl, rfl, er⟩⟩
  · rw [eM] at hA
    exact ⟨_, _, ⟨rd, h0.ag hA⟩, Or.inr ⟨h1, rfl, rfl, er⟩⟩
theorem undo_r {Ps : Nat → Nat → Int} {m k : Nat} {x : Fw} {Hs : Nat → Fw} {M M1 M2 : Mem} {r : Int32} (h0 : MS M Ps m x Hs k) (h : (1 ≤ k ∧ r = zI ((k - 1 : Nat) : Int) ∧ MS M2 Ps m (Hs (k - 1)) Hs (k - 1) ∧ FR M2 M) ∨ (k = 0 ∧ r = zI (-1) ∧ M2 = M)) (hA : Ag2 M1 M2) : ∃ x1 k1, MS M1 Ps m x1 Hs k1 ∧ UP x Hs k x1 k1 r := by
  rcases h with ⟨h1, er, hS, _⟩ | ⟨h1, er, eM⟩
  · exact ⟨_, _, hS.ag hA, Or.inl ⟨h1, rfl, rfl, er⟩⟩
  · rw [eM] at hA
    exact ⟨_, _, h0.ag hA, Or.inr ⟨h1, rfl, rfl, er⟩⟩
theorem word_c {T : Nat → Nat} {n : Nat} {Ps : Nat → Nat → Int} {m k rd : Nat} {x : Fw} {Hs : Nat → Fw} {M1 M2 : Mem} (h : (∃ y, wdF T n = some y ∧ CS M2 Ps m y 0 Hs 0) ∨ (wdF T n = none ∧ CS M2 Ps m x rd Hs k)) (hA : Ag2 M1 M2) : ∃ x1 k1, (∃ rd, CS M1 Ps m x1 rd Hs k1) ∧ WP T n x k x1 k1 := by
  rcases h with ⟨y, e, hS⟩ | ⟨e, hS⟩
  · exact ⟨y, 0, ⟨0, hS.ag hA⟩, Or.inl ⟨e, rfl⟩⟩
  · exact ⟨x, k, ⟨rd, hS.ag hA⟩, Or.inr ⟨e, rfl, rfl⟩⟩
theorem word_r {T : Nat → Nat} {n : Nat} {Ps : Nat → Nat → Int} {m k : Nat} {x : Fw} {Hs : Nat → Fw} {M1 M2 : Mem} (h : (∃ y, wdF T n = some y ∧ MS M2 Ps m y Hs 0) ∨ (wdF T n = none ∧ MS M2 Ps m x Hs k)) (hA : Ag2 M1 M2) : ∃ x1 k1, MS M1 Ps m x1 Hs k1 ∧ WP T n x k x1 k1 := by
  rcases h with ⟨y, e, hS⟩ | ⟨e, hS⟩
  · exact ⟨y, 0, hS.ag hA, Or.inl ⟨e, rfl⟩⟩
  · exact ⟨x, k, hS.ag hA, Or.inr ⟨e, rfl, rfl⟩⟩
theorem CS.rules {M M2 : Mem} {Ps P9 : Nat → Nat → Int} {m m9 rd k : Nat} {x : Fw} {Hs : Nat → Fw} (h : CS M Ps m x rd Hs k) (hm : m9 ≤ 8) (hG : ∀ j, j < m9 → okG (P9 j)) (hK : isK M2 P9 m9) (h7 : M2.1 22 7 = zI 0) (hf : ∀ a, 44 ≤ a → a ≠ 109 → a ≠ 135 → M2.1 a = M.1 a) : CS M2 P9 m9 x 0 Hs k := by
  obtain ⟨_, h2, nx, h3⟩ := h
  refine ⟨⟨hK.1, hm, fun j hj => ⟨hK.2 j hj, hG j hj⟩⟩, ⟨h7, Nat.zero_le _, fun i hi => ?_, fun i hi => absurd hi (Nat.not_lt_zero i)⟩, nx, h3.fr (fun b a1 a2 => hf b (by omega) (by omega) (by omega))⟩
  obtain rfl : i = 0 := by omega
  exact (h2.2.2.1 0 (Nat.zero_le _)).fr (hf _ (by decide) (by decide) (by decide)) (hf _ (by decide) (by decide) (by decide)) (hf _ (by decide) (by decide) (by decide))
theorem rules_c {T : Nat → Nat} {n : Nat} {Ps : Nat → Nat → Int} {m k rd : Nat} {x : Fw} {Hs : Nat → Fw} {M M1 M2 : Mem} (h0 : CS M Ps m x rd Hs k) (h : (∃ m9 : Nat, rlE T n m9 ∧ isK M2 (fun j => (rdR T n (bI T n j)).2.2) m9 ∧ M2.1 22 7 = zI 0 ∧ ∀ a, 44 ≤ a → a ≠ 109 → a ≠ 135 → M2.1 a = M.1 a) ∨ (∃ (m9 : Nat) (z9 : Int), rlF T n m9 z9 ∧ ∀ a, 22 ≤ a → M2.1 a = M.1 a)) (hA : Ag2 M1 M2) : ∃ P1 m1, (∃ rd, CS M1 P1 m1 x rd Hs k) ∧ RP T n Ps m P1 m1 := by
  rcases h with ⟨m9, hE, hK, h7, hf⟩ | ⟨m9, z9, hW, hf⟩
  · exact ⟨_, m9, ⟨0, (h0.rules hE.1 (okG_E hE) hK h7 hf).ag hA⟩, Or.inl ⟨hE, rfl⟩⟩
  · exact ⟨Ps, m, ⟨rd, (h0.fr (hf 22 (by decide)) (fun b a1 a2 => hf b (by omega))).ag hA⟩, Or.inr ⟨⟨m9, z9, hW⟩, rfl, rfl⟩⟩
theorem rules_r {T : Nat → Nat} {n : Nat} {Ps : Nat → Nat → Int} {m k : Nat} {x : Fw} {Hs : Nat → Fw} {M M1 M2 : Mem} (h0 : MS M Ps m x Hs k) (h : (∃ m9 : Nat, rlE T n m9 ∧ isKr M2 (fun j => (rdR T n (bI T n j)).2.2) m9) ∨ (∃ (m9 : Nat) (z9 : Int), rlF T n m9 z9 ∧ M2.1 149 = M.1 149 ∧ M2.1 146 5 = M.1 146 5)) (hf : ∀ a, a < 146 ∨ a = 147 ∨ a = 150 ∨ a = 152 ∨ a = 155 → M2.1 a = M.1 a) (h20 : M2.1 146 20 = M.1 146 20) (hA : Ag2 M1 M2) : ∃ P1 m1, MS M1 P1 m1 x Hs k ∧ RP T n Ps m P1 m1 := by
  rcases h with ⟨m9, hE, hK⟩ | ⟨m9, z9, hW, h1, h2⟩
  · refine ⟨_, m9, MS.ag ?_ hA, Or.inl ⟨hE, rfl⟩⟩
    exact ⟨⟨hE.1, fun j hj => ⟨fun k hk => hK.2 j hj k hk, okG_E hE j hj⟩⟩, hK.1, ⟨by rw [hf 147 (by decide)]; exact h0.2.2.1.1, h0.2.2.1.2⟩, h20.trans h0.2.2.2.1, h0.2.2.2.2.1, fun j hj => ⟨by rw [hf 155 (by decide)]; exact (h0.2.2.2.2.2 j hj).1, (h0.2.2.2.2.2 j hj).2⟩⟩
  · exact ⟨Ps, m, (h0.fr (hf 147 (by decide)) h1 (hf 155 (by decide)) h2 h20).ag hA, Or.inr ⟨⟨m9, z9, hW⟩, rfl, rfl⟩⟩
-- what both sides keep between two calls
def Jg (M : Mem) (T : Nat → Nat) (n : Nat) (T2 : Nat → Nat) (n2 : Nat) (Ps : Nat → Nat → Int) (m : Nat) (Ps2 : Nat → Nat → Int) (m2 : Nat) (x : Fw) (Hs : Nat → Fw) (k : Nat) (y : Fw) (Gs : Nat → Fw) (k2 : Nat) : Prop := Jt M T n T2 n2 ∧ (∃ rd, CS M Ps m x rd Hs k) ∧ MS M Ps2 m2 y Gs k2
theorem Fr.row {S : Nat → Nat → Prop} {M1 M : Mem} (h : Fr S M1 M) {a : Nat} (ha : ∀ k, ¬ S a k) : M1.1 a = M.1 a := funext fun k => h a k (ha k)
theorem Jg.c {S : Nat → Nat → Prop} {M M1 : Mem} {T T2 T1 : Nat → Nat} {n n2 n1 : Nat} {Ps Ps2 Ps1 : Nat → Nat → Int} {m m2 m1 : Nat} {x x1 y : Fw} {Hs H1 Gs : Nat → Fw} {k k1 k2 : Nat} (h : Jg M T n T2 n2 Ps m Ps2 m2 x Hs k y Gs k2) (hI : Inv M1) (hF : Fr S M1 M) (hs : ∀ b k, S b k → b < 146) (h1 : isTc M1 T1 n1) (ho : okT T1 n1) (hc : ∃ rd, CS M1 Ps1 m1 x1 rd H1 k1) : Jg M1 T1 n1 T2 n2 Ps1 m1 Ps2 m2 x1 H1 k1 y Gs k2 :=
  ⟨h.1.c hI hF hs h1 ho, hc, h.2.2.fr (hF.row (fun k q => absurd (hs _ _ q) (by decide))) (hF.row (fun k q => absurd (hs _ _ q) (by decide))) (hF.row (fun k q => absurd (hs _ _ q) (by decide))) (hF 146 5 (fun q => absurd (hs _ _ q) (by decide))) (hF 146 20 (fun q => absurd (hs _ _ q) (by decide)))⟩
theorem Jg.r {S : Nat → Nat → Prop} {M M1 : Mem} {T T2 T1 : Nat → Nat} {n n2 n1 : Nat} {Ps Ps2 Ps1 : Nat → Nat → Int} {m m2 m1 : Nat} {x y y1 : Fw} {Hs G1 Gs : Nat → Fw} {k k1 k2 : Nat} (h : Jg M T n T2 n2 Ps m Ps2 m2 x Hs k y Gs k2) (hI : IvR M1) (hF : Fr S M1 M) (hs : ∀ b k, S b k → 146 ≤ b) (h1 : isTr M1 T1 n1) (ho : okT T1 n1) (hc : MS M1 Ps1 m1 y1 G1 k1) : Jg M1 T n T1 n1 Ps m Ps1 m1 x Hs k y1 G1 k1 := by
  obtain ⟨h0, ⟨rd, hC⟩, _⟩ := h
  refine ⟨h0.r hI hF hs h1 ho, ⟨rd, hC.fr (hF.row (fun k q => absurd (hs _ _ q) (by decide))) (fun b a1 a2 => hF.row (fun k q => by have := hs _ _ q; omega))⟩, hc⟩
/-- a call of the class that keeps to the tape -/
theorem CS.tape {S : Nat → Nat → Prop} {M M1 : Mem} {Ps : Nat → Nat → Int} {m k : Nat} {x : Fw} {Hs : Nat → Fw} (h : ∃ rd, CS M Ps m x rd Hs k) (hF : Fr S M1 M) (hs : ∀ b k, S b k → b < 22) : ∃ rd, CS M1 Ps m x rd Hs k := by
  obtain ⟨rd, h⟩ := h
  exact ⟨rd, h.fr (hF.row (fun k q => absurd (hs _ _ q) (by decide))) (fun b a1 a2 => hF.row (fun k q => by have := hs _ _ q; omega))⟩
/-- a call of the reference that asks -/
theorem MS.F {S : Nat → Nat → Prop} {M M1 : Mem} {Ps : Nat → Nat → Int} {m k : Nat} {x : Fw} {Hs : Nat → Fw} (h : MS M Ps m x Hs k) (hF : Fr S M1 M) (h1 : ∀ k, ¬ S 147 k) (h2 : ∀ k, ¬ S 149 k) (h3 : ∀ k, ¬ S 155 k) (h4 : ¬ S 146 5) (h5 : ¬ S 146 20) : MS M1 Ps m x Hs k := h.fr (hF.row h1) (hF.row h2) (hF.row h3) (hF 146 5 h4) (hF 146 20 h5)
/-- the whole: what holds at the head of the law's loop -/
def Jx (M : Mem) : Prop := ∃ (T : Nat → Nat) (n : Nat) (Ps : Nat → Nat → Int) (m : Nat) (x : Fw) (Hs : Nat → Fw) (k : Nat) (y : Fw) (Gs : Nat → Fw), Jg M T n T n Ps m Ps m x Hs k y Gs k ∧ alF x y ∧ alH k Hs Gs
theorem Jx.of {M : Mem} {T T2 : Nat → Nat} {n n2 : Nat} {Ps Ps2 : Nat → Nat → Int} {m m2 : Nat} {x y : Fw} {Hs Gs : Nat → Fw} {k k2 : Nat} (h : Jg M T n T2 n2 Ps m Ps2 m2 x Hs k y Gs k2) (e1 : T = T2) (e2 : n = n2) (e3 : Ps = Ps2) (e4 : m = m2) (e5 : k = k2) (hx : alF x y) (hh : alH k Hs Gs) : Jx M := by
  subst e1; subst e2; subst e3; subst e4; subst e5
  exact ⟨T, n, Ps, m, x, Hs, k, y, Gs, h, hx, hh⟩
-- the class between two calls: intervals and what it keeps
def IvG (Ps : Nat → Nat → Int) (m : Nat) (x : Fw) (Hs : Nat → Fw) (k : Nat) (M : Mem) : Prop := Inv M ∧ ∃ rd, CS M Ps m x rd Hs k
theorem IvG.ld {Ps : Nat → Nat → Int} {m k9 : Nat} {x : Fw} {Hs : Nat → Fw} {M : Mem} (h : IvG Ps m x Hs k9 M) {a k : Nat} {lo hi : Int} (hv : iv a k = (lo, hi)) (ha : a < 146) : ∃ z : Int, (lo ≤ z ∧ z ≤ hi) ∧ M.1 a k = zI z := h.1.ld hv ha
theorem IvG.call {S : Nat → Nat → Prop} {Ps : Nat → Nat → Int} {m k9 : Nat} {x : Fw} {Hs : Nat → Fw} {M M1 : Mem} (h : IvG Ps m x Hs k9 M) (hI : Inv M1) (hF : Fr S M1 M) (hs : ∀ b k, S b k → b ≠ 22 ∧ (b < 26 ∨ 109 ≤ b)) : IvG Ps m x Hs k9 M1 := by
  obtain ⟨_, rd, hC⟩ := h
  exact ⟨hI, rd, hC.fr (hF.row (fun k q => (hs _ _ q).1 rfl)) (fun b a1 a2 => hF.row (fun k q => by have := (hs _ _ q).2; omega))⟩
