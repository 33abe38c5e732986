-- the gate once more, with what the class keeps of orders and sources
def Ag3 (M M' : Mem) : Prop := Ag2 M M' ∧ M.1 135 0 = M'.1 135 0 ∧ M.1 109 0 = M'.1 109 0 ∧ M.1 109 1 = M'.1 109 1 ∧ M.1 109 2 = M'.1 109 2
theorem Ag3.of {D : va_G} {B : Nat} {cy : Nat → ClassId} {M M' : Mem} {U : State} (h : Wp D B cy M U) (h' : Wp D B cy M' U) : Ag3 M M' := by
  refine ⟨Ag2.of h h', ?_, ?_, ?_, ?_⟩
  · exact Value.int.inj (ag_o (a := 135) (k := 0) h h' (by decide) (sh_6 rfl _ _) (sh_6 rfl _ _) (by decide +kernel))
  · exact Value.int.inj (ag_o (a := 109) (k := 0) h h' (by decide) (sh_3 rfl _ _) (sh_3 rfl _ _) (by decide +kernel))
  · exact Value.int.inj (ag_o (a := 109) (k := 1) h h' (by decide) (sh_3 rfl _ _) (sh_3 rfl _ _) (by decide +kernel))
  · exact Value.int.inj (ag_o (a := 109) (k := 2) h h' (by decide) (sh_3 rfl _ _) (sh_3 rfl _ _) (by decide +kernel))
theorem Ci_and3 {l : Launch} {D : va_G} {B : Nat} {cy : Nat → ClassId} {y : MethodName} {cc : ByteArray} {n : Nat} {ret : Option FieldType} {fr lo fr2 lo2 : Nat} {av : List Value} {M : Mem} {post post2 : Int32 → Mem → Prop} (h : Ci l D B cy y cc n ret fr lo av M post) (h2 : Ci l D B cy y cc n ret fr2 lo2 av M post2) (hf : fr2 ≤ fr) (hl : lo2 ≤ lo) : Ci l D B cy y cc n ret fr lo av M (fun r M1 => post r M1 ∧ ∃ M2, Ag3 M1 M2 ∧ post2 r M2) := by
  intro p e ha hcs hk s m args below hfr happ hP hK
  obtain ⟨a1, a2, a3, a4, a5, a6, a7, a8⟩ := (Spec.appliesLoose_iff hfr).mp happ
  obtain ⟨n0, o0, w0, r0, e0, q0⟩ := h p e ha hcs hk s m args below hfr happ hP hK
  obtain ⟨n1, o1, w1, r1, e1, q1⟩ := h2 p e ha hcs hk s m args below hfr ((Spec.appliesLoose_iff hfr).mpr ⟨a1, a2, a3, a4, a5, a6, room_le hf hl a7, a8⟩) hP hK
  have hn : n1 = n0 := by
    rcases Nat.lt_trichotomy n1 n0 with hlt | heq | hgt
    · exact absurd (w0 n1 hlt) e1.not_within
    · exact heq
    · exact absurd (w1 n0 hgt) e0.not_within
  subst hn
  have ho := e0.outcome_unique e1
  subst ho
  obtain ⟨⟨⟨r, u, ho1, hp1, hw1⟩, hF1⟩, hL1⟩ := q0
  obtain ⟨⟨⟨r9, u9, ho2, hp2, hw2⟩, _⟩, _⟩ := q1
  have hr : r = r9 := by
    have := ho1.symm.trans ho2
    cases this
    rfl
  subst hr
  exact ⟨n1, o0, w0, r0, e0, ⟨⟨r, u, ho1, ⟨hp1, u9, Ag3.of hw1 hw2, hp2⟩, hw1⟩, hF1⟩, hL1⟩
theorem AQ.c3 {Ps : Nat → Nat → Int} {m k : Nat} {Hs : Nat → Fw} {x : Fw} {ac : Option Fw} {ry rn : Int} {M M1 M2 : Mem} {r : Int32} (h : AQ Ps m Hs k x ac ry rn M r M2) (hA : Ag2 M1 M2) (h0 : ∃ rd, CS M Ps m x rd Hs k) : ∃ x1 H1 k1, (∃ rd, CS M1 Ps m x1 rd H1 k1) ∧ AP ac x Hs k x1 H1 k1 ∧ r = zI (rvO ac ry rn) ∧ (ZM M2 ∨ (x1 = x ∧ KM9 M2 M)) := by
  rcases h with ⟨z, e, er, hS, hz⟩ | ⟨e, er, eM⟩
  · subst e
    exact ⟨z, _, _, ⟨0, hS.ag hA⟩, Or.inl ⟨rfl, rfl, rfl⟩, er, Or.inl hz.2⟩
  · subst e
    obtain ⟨rd, h0⟩ := h0
    rw [eM] at hA
    exact ⟨x, Hs, k, ⟨rd, h0.ag hA⟩, Or.inr ⟨rfl, rfl, rfl, rfl⟩, er, Or.inr ⟨rfl, by rw [eM]; exact KM9.rf⟩⟩
theorem does_c3 {Ps : Nat → Nat → Int} {m k q hv ed rd : Nat} {o : Wo} {Hs : Nat → Fw} {M M1 M2 : Mem} {r : Int32} {r9 : Int} (h0 : CS M Ps m (q, hv, ed, o) rd Hs k) (h : (∃ (rn : Nat) (o2 : Wo) (dd pp : Nat), r9 = (rn : Int) ∧ rn < m ∧ pfF (Ps rn) q hv ed 20 o = (o2, dd, pp) ∧ r = zI ((dd : Nat) : Int) ∧ dd ≤ 37680 ∧ ((0 < dd ∧ CS M2 Ps m (q, hv, ed, o2) 0 (phH Hs k (q, hv, ed, o)) (phK k) ∧ ZM M2) ∨ (dd = 0 ∧ CS M2 Ps m (q, hv, ed, o) rd Hs k ∧ KM9 M2 M)) ∧ FA M2 M) ∨ (¬ (0 ≤ r9 ∧ r9 < (m : Int)) ∧ r = zI (-1) ∧ M2 = M)) (hA : Ag2 M1 M2) : ∃ x1 H1 k1, (∃ rd, CS M1 Ps m x1 rd H1 k1) ∧ AP (dsO Ps m r9 (q, hv, ed, o)) (q, hv, ed, o) Hs k x1 H1 k1 ∧ r = zI (dsR Ps m r9 (q, hv, ed, o)) ∧ (ZM M2 ∨ (x1 = (q, hv, ed, o) ∧ KM9 M2 M)) := by
  rcases h with ⟨rn, o2, dd, pp, rfl, hrn, e, er, _, h1 | h1, _⟩ | ⟨h1, er, eM⟩
  · exact ⟨_, _, _, ⟨0, h1.2.1.ag hA⟩, Or.inl ⟨dsO_y hrn e h1.1, rfl, rfl⟩, er.trans (congrArg zI (dsR_y hrn e).symm), Or.inl h1.2.2⟩
  · exact ⟨_, _, _, ⟨rd, h1.2.1.ag hA⟩, Or.inr ⟨dsO_z e h1.1, rfl, rfl, rfl⟩, er.trans (congrArg zI (dsR_y hrn e).symm), Or.inr ⟨rfl, h1.2.2⟩⟩
  · rw [eM] at hA
    exact ⟨_, _, _, ⟨rd, h0.ag hA⟩, Or.inr ⟨dsO_n h1, rfl, rfl, rfl⟩, er.trans (congrArg zI (dsR_n h1).symm), Or.inr ⟨rfl, by rw [eM]; exact KM9.rf⟩⟩
theorem derive_c3 {Ps : Nat → Nat → Int} {m k q hv ed rd : Nat} {o : Wo} {Hs : Nat → Fw} {M M1 M2 : Mem} {r : Int32} {r9 : Int} (h0 : CS M Ps m (q, hv, ed, o) rd Hs k) (h : (∃ (nn : Nat), r9 = (nn : Int) ∧ nn ≤ m ∧ r = zI ((dv2 Ps (q, hv, ed, o) nn : Nat) : Int) ∧ dv2 Ps (q, hv, ed, o) nn ≤ 400000 ∧ ((0 < dv2 Ps (q, hv, ed, o) nn ∧ CS M2 Ps m (q, hv, ed, sg9 Ps (q, hv, ed, o) nn) 0 (phH Hs k (q, hv, ed, o)) (phK k) ∧ ZM M2) ∨ (dv2 Ps (q, hv, ed, o) nn = 0 ∧ ∃ rd1, CS M2 Ps m (q, hv, ed, o) rd1 Hs k ∧ KM9 M2 M)) ∧ FA M2 M) ∨ (¬ (0 ≤ r9 ∧ r9 ≤ (m : Int)) ∧ r = zI (-1) ∧ M2 = M)) (hA : Ag2 M1 M2) : ∃ x1 H1 k1, (∃ rd, CS M1 Ps m x1 rd H1 k1) ∧ AP (dvO Ps m r9 (q, hv, ed, o)) (q, hv, ed, o) Hs k x1 H1 k1 ∧ r = zI (dvR Ps m r9 (q, hv, ed, o)) ∧ (ZM M2 ∨ (x1 = (q, hv, ed, o) ∧ KM9 M2 M)) := by
  rcases h with ⟨nn, rfl, hnn, er, _, h1 | ⟨h1, rd1, h2⟩, _⟩ | ⟨h1, er, eM⟩
  · exact ⟨_, _, _, ⟨0, h1.2.1.ag hA⟩, Or.inl ⟨dvO_y hnn h1.1, rfl, rfl⟩, er.trans (congrArg zI (dvR_y hnn).symm), Or.inl h1.2.2⟩
  · exact ⟨_, _, _, ⟨rd1, h2.1.ag hA⟩, Or.inr ⟨dvO_z h1, rfl, rfl, rfl⟩, er.trans (congrArg zI (dvR_y hnn).symm), Or.inr ⟨rfl, h2.2⟩⟩
  · rw [eM] at hA
    exact ⟨_, _, _, ⟨rd, h0.ag hA⟩, Or.inr ⟨dvO_n h1, rfl, rfl, rfl⟩, er.trans (congrArg zI (dvR_n h1).symm), Or.inr ⟨rfl, by rw [eM]; exact KM9.rf⟩⟩
theorem undo_c3 {Ps : Nat → Nat → Int} {m k rd : Nat} {x : Fw} {Hs : Nat → Fw} {M M1 M2 : Mem} {r : Int32} (h0 : CS M Ps m x rd Hs k) (h : (1 ≤ k ∧ r = zI ((k - 1 : Nat) : Int) ∧ CS M2 Ps m (Hs (k - 1)) 0 Hs (k - 1) ∧ FZ M2 M) ∨ (k = 0 ∧ r = zI (-1) ∧ M2 = M)) (hA : Ag2 M1 M2) : ∃ x1 k1, (∃ rd, CS M1 Ps m x1 rd Hs k1) ∧ UP x Hs k x1 k1 r ∧ (ZM M2 ∨ (x1 = x ∧ KM9 M2 M)) := by
  rcases h with ⟨h1, er, hS, hz⟩ | ⟨h1, er, eM⟩
  · exact ⟨_, _, ⟨0, hS.ag hA⟩, Or.inl ⟨h1, rfl, rfl, er⟩, Or.inl hz.2⟩
  · rw [eM] at hA
    exact ⟨_, _, ⟨rd, h0.ag hA⟩, Or.inr ⟨h1, rfl, rfl, er⟩, Or.inr ⟨rfl, by rw [eM]; exact KM9.rf⟩⟩
theorem word_c3 {T : Nat → Nat} {n : Nat} {Ps : Nat → Nat → Int} {m k rd : Nat} {x : Fw} {Hs : Nat → Fw} {M M1 M2 : Mem} (h : (∃ y, wdF T n = some y ∧ CS M2 Ps m y 0 Hs 0 ∧ ZM M2) ∨ (wdF T n = none ∧ CS M2 Ps m x rd Hs k ∧ KM9 M2 M)) (hA : Ag2 M1 M2) : ∃ x1 k1, (∃ rd, CS M1 Ps m x1 rd Hs k1) ∧ WP T n x k x1 k1 ∧ (ZM M2 ∨ (x1 = x ∧ KM9 M2 M)) := by
  rcases h with ⟨y, e, hS, hz⟩ | ⟨e, hS, hz⟩
  · exact ⟨y, 0, ⟨0, hS.ag hA⟩, Or.inl ⟨e, rfl⟩, Or.inl hz⟩
  · exact ⟨x, k, ⟨rd, hS.ag hA⟩, Or.inr ⟨e, rfl, rfl⟩, Or.inr ⟨rfl, hz⟩⟩
theorem rules_c3 {T : Nat → Nat} {n : Nat} {Ps : Nat → Nat → Int} {m k rd : Nat} {x : Fw} {Hs : Nat → Fw} {M M1 M2 : Mem} (h0 : CS M Ps m x rd Hs k) (h : (∃ m9 : Nat, rlE T n m9 ∧ isK M2 (fun j => (rdR T n (bI T n j)).2.2) m9 ∧ M2.1 22 7 = zI 0 ∧ (M2.1 109 0 = zI 0 ∧ M2.1 135 0 = zI 0) ∧ ∀ a, 44 ≤ a → a ≠ 109 → a ≠ 135 → M2.1 a = M.1 a) ∨ (∃ (m9 : Nat) (z9 : Int), rlF T n m9 z9 ∧ ∀ a, 22 ≤ a → M2.1 a = M.1 a)) (hA : Ag2 M1 M2) : ∃ P1 m1, (∃ rd, CS M1 P1 m1 x rd Hs k) ∧ RP T n Ps m P1 m1 ∧ (ZM M2 ∨ ((P1 = Ps ∧ m1 = m) ∧ KM9 M2 M)) := by
  rcases h with ⟨m9, hE, hK, h7, hz, hf⟩ | ⟨m9, z9, hW, hf⟩
  · exact ⟨_, m9, ⟨0, (h0.rules hE.1 (okG_E hE) hK h7 hf).ag hA⟩, Or.inl ⟨hE, rfl⟩, Or.inl hz⟩
  · exact ⟨Ps, m, ⟨rd, (h0.fr (hf 22 (by decide)) (fun b a1 a2 => hf b (by omega))).ag hA⟩, Or.inr ⟨⟨m9, z9, hW⟩, rfl, rfl⟩, Or.inr ⟨⟨rfl, rfl⟩, KM9.of (fun b hb => hf b (by omega))⟩⟩
theorem JO9.ag {M M2 : Mem} {Ps : Nat → Nat → Int} {m : Nat} {x : Fw} (h : JO9 M2 Ps m x) (hA : Ag3 M M2) : JO9 M Ps m x := by
  unfold JO9
  rw [hA.2.2.1, hA.2.2.2.1, hA.2.2.2.2]
  exact h
def JZ (M : Mem) (Ps : Nat → Nat → Int) (m : Nat) (x : Fw) : Prop := JO9 M Ps m x
theorem JZ.nx {M M1 M2 : Mem} {Ps : Nat → Nat → Int} {m : Nat} {x x1 : Fw} (h : JZ M Ps m x) (hz : ZM M2 ∨ (x1 = x ∧ KM9 M2 M)) (hA : Ag3 M1 M2) : JZ M1 Ps m x1 := by
  rcases hz with hz | ⟨e, hk⟩
  · exact Or.inl (hA.2.2.1.trans hz.1)
  · rw [e]; exact JO9.ag (JO9.fr h hk.1) hA
theorem JZ.nr {M M1 M2 : Mem} {Ps P1 : Nat → Nat → Int} {m m1 : Nat} {x : Fw} (h : JZ M Ps m x) (hz : ZM M2 ∨ ((P1 = Ps ∧ m1 = m) ∧ KM9 M2 M)) (hA : Ag3 M1 M2) : JZ M1 P1 m1 x := by
  rcases hz with hz | ⟨⟨e1, e2⟩, hk⟩
  · exact Or.inl (hA.2.2.1.trans hz.1)
  · rw [e1, e2]; exact JO9.ag (JO9.fr h hk.1) hA
theorem JZ.F {S : Nat → Nat → Prop} {M M1 : Mem} {Ps : Nat → Nat → Int} {m : Nat} {x : Fw} (h : JZ M Ps m x) (hF : Fr S M1 M) (hs : ∀ b k, S b k → b ≠ 109) : JZ M1 Ps m x := JO9.fr h (hF.row (fun k q => hs _ _ q rfl))
theorem JZ.z {M : Mem} {Ps : Nat → Nat → Int} {m : Nat} {x : Fw} (h : M.1 109 0 = zI 0) (h1 : M.1 135 0 = zI 0) : JZ M Ps m x := Or.inl h
/-- the whole, with that -/
def Jy (M : Mem) : Prop := ∃ (T : Nat → Nat) (n : Nat) (Ps : Nat → Nat → Int) (m : Nat) (x : Fw) (Hs : Nat → Fw) (k : Nat) (y : Fw) (Gs : Nat → Fw), Jg M T n T n Ps m Ps m x Hs k y Gs k ∧ alF x y ∧ alH k Hs Gs ∧ JZ M Ps m x
theorem Jy.of {M : Mem} {T T2 : Nat → Nat} {n n2 : Nat} {Ps Ps2 : Nat → Nat → Int} {m m2 : Nat} {x y : Fw} {Hs Gs : Nat → Fw} {k k2 : Nat} (h : Jg M T n T2 n2 Ps m Ps2 m2 x Hs k y Gs k2) (e1 : T = T2) (e2 : n = n2) (e3 : Ps = Ps2) (e4 : m = m2) (e5 : k = k2) (hx : alF x y) (hh : alH k Hs Gs) (hz : JZ M Ps m x) : Jy M := by
  subst e1; subst e2; subst e3; subst e4; subst e5
  exact ⟨T, n, Ps, m, x, Hs, k, y, Gs, h, hx, hh, hz⟩
