-- a word at work: how many tones, their kinds, their lines
abbrev Wo : Type := Nat × (Nat → Nat) × (Nat → Nat)
def okW (q : Nat) (o : Wo) : Prop := o.1 ≤ 12 ∧ q ≤ 12 ∧ ∀ k, k < o.1 → o.2.1 k ≤ 2 ∧ o.2.2 k < 2 ^ q
theorem okW.lt {q : Nat} {o : Wo} (h : okW q o) {k : Nat} (hk : k < o.1) : o.2.2 k < 4096 := Nat.lt_of_lt_of_le (h.2.2 k hk).2 (p2_le h.2.1).2
def CW (M : Mem) (a q hv ed : Nat) (o : Wo) : Prop := isW M a o.1 q hv ed o.2.1 o.2.2 ∧ okW q o ∧ hv < 4096 ∧ ed < 4096
theorem CW.wf {M : Mem} {a q hv ed : Nat} {o : Wo} (h : CW M a q hv ed o) : wf o.1 q hv ed o.2.1 o.2.2 := ⟨h.2.1.1, h.2.1.2.1, h.2.2.1, h.2.2.2, fun k hk => ⟨(h.2.1.2.2 k hk).1, h.2.1.lt hk⟩⟩
def RW (M : Mem) (q hv ed : Nat) (o : Wo) (z : Int) : Prop := isR M 148 o.1 q hv ed o.2.1 o.2.2 ∧ okW q o ∧ hv < 4096 ∧ ed < 4096 ∧ M.1 146 3 = zI z
theorem RW.wf {M : Mem} {q hv ed : Nat} {o : Wo} {z : Int} (h : RW M q hv ed o z) : wf o.1 q hv ed o.2.1 o.2.2 := ⟨h.2.1.1, h.2.1.2.1, h.2.2.1, h.2.2.2.1, fun k hk => ⟨(h.2.1.2.2 k hk).1, h.2.1.lt hk⟩⟩
-- the tests of a tone
def tsP (P : Nat → Int) (q hv : Nat) (o : Wo) (t : Nat) : Prop := (P 5 = 0 ∧ lowI (o.2.2 t) = 0) ∨ (P 5 = 1 ∧ o.2.2 t ≠ 0 ∧ higI (o.2.2 t) = (q : Int) - 1) ∨ (P 5 = 2 ∧ ∃ k : Nat, higI (o.2.2 t) = (k : Int) ∧ k < q ∧ hv.testBit k = true) ∨ (P 5 = 3 ∧ 2 ≤ pop (o.2.2 t)) ∨ (P 5 = 4 ∧ o.2.2 t = 0) ∨ (P 5 = 5 ∧ t + 1 < o.1 ∧ (P 7 = 3 ∨ P 7 = (o.2.1 (t + 1) : Int))) ∨ (P 5 = 6 ∧ 0 < t ∧ (P 7 = 3 ∨ P 7 = (o.2.1 (t - 1) : Int)))
theorem ts_0 {P : Nat → Int} {q hv t : Nat} {o : Wo} (h : P 5 = 0) : tsP P q hv o t ↔ lowI (o.2.2 t) = 0 := by
  unfold tsP
  constructor
  · rintro (h1 | h1 | h1 | h1 | h1 | h1 | h1) <;> first | exact h1.2 | (have := h1.1; omega)
  · intro h1; exact Or.inl ⟨h, h1⟩
theorem ts_1 {P : Nat → Int} {q hv t : Nat} {o : Wo} (h : P 5 = 1) : tsP P q hv o t ↔ (o.2.2 t ≠ 0 ∧ higI (o.2.2 t) = (q : Int) - 1) := by
  unfold tsP
  constructor
  · rintro (h1 | h1 | h1 | h1 | h1 | h1 | h1) <;> first | exact h1.2 | (have := h1.1; omega)
  · intro h1; exact Or.inr (Or.inl ⟨h, h1⟩)
theorem ts_2 {P : Nat → Int} {q hv t : Nat} {o : Wo} (h : P 5 = 2) : tsP P q hv o t ↔ (∃ k : Nat, higI (o.2.2 t) = (k : Int) ∧ k < q ∧ hv.testBit k = true) := by
  unfold tsP
  constructor
  · rintro (h1 | h1 | h1 | h1 | h1 | h1 | h1) <;> first | exact h1.2 | (have := h1.1; omega)
  · intro h1; exact Or.inr (Or.inr (Or.inl ⟨h, h1⟩))
theorem ts_3 {P : Nat → Int} {q hv t : Nat} {o : Wo} (h : P 5 = 3) : tsP P q hv o t ↔ 2 ≤ pop (o.2.2 t) := by
  unfold tsP
  constructor
  · rintro (h1 | h1 | h1 | h1 | h1 | h1 | h1) <;> first | exact h1.2 | (have := h1.1; omega)
  · intro h1; exact Or.inr (Or.inr (Or.inr (Or.inl ⟨h, h1⟩)))
theorem ts_4 {P : Nat → Int} {q hv t : Nat} {o : Wo} (h : P 5 = 4) : tsP P q hv o t ↔ o.2.2 t = 0 := by
  unfold tsP
  constructor
  · rintro (h1 | h1 | h1 | h1 | h1 | h1 | h1) <;> first | exact h1.2 | (have := h1.1; omega)
  · intro h1; exact Or.inr (Or.inr (Or.inr (Or.inr (Or.inl ⟨h, h1⟩))))
theorem ts_5 {P : Nat → Int} {q hv t : Nat} {o : Wo} (h : P 5 = 5) : tsP P q hv o t ↔ (t + 1 < o.1 ∧ (P 7 = 3 ∨ P 7 = (o.2.1 (t + 1) : Int))) := by
  unfold tsP
  constructor
  · rintro (h1 | h1 | h1 | h1 | h1 | h1 | h1) <;> first | exact h1.2 | (have := h1.1; omega)
  · intro h1; exact Or.inr (Or.inr (Or.inr (Or.inr (Or.inr (Or.inl ⟨h, h1⟩)))))
theorem ts_6 {P : Nat → Int} {q hv t : Nat} {o : Wo} (h : P 5 = 6) : tsP P q hv o t ↔ (0 < t ∧ (P 7 = 3 ∨ P 7 = (o.2.1 (t - 1) : Int))) := by
  unfold tsP
  constructor
  · rintro (h1 | h1 | h1 | h1 | h1 | h1 | h1) <;> first | exact h1.2 | (have := h1.1; omega)
  · intro h1; exact Or.inr (Or.inr (Or.inr (Or.inr (Or.inr (Or.inr ⟨h, h1⟩)))))
/-- whether a tone takes its turn, by its test -/
def adP (P : Nat → Int) (q hv : Nat) (o : Wo) (t : Nat) : Prop := P 5 = -2 ∨ (tsP P q hv o t ↔ ¬ P 6 = 1)
theorem ad_n {P : Nat → Int} {q hv t : Nat} {o : Wo} (h5 : P 5 ≠ -2) (h : tsP P q hv o t) (h6 : P 6 = 1) : ¬ adP P q hv o t := fun q9 => q9.elim h5 (fun q8 => (q8.mp h) h6)
theorem ad_y {P : Nat → Int} {q hv t : Nat} {o : Wo} (h : tsP P q hv o t) (h6 : ¬ P 6 = 1) : adP P q hv o t := Or.inr ⟨fun _ => h6, fun _ => h⟩
theorem ad_y2 {P : Nat → Int} {q hv t : Nat} {o : Wo} (h : ¬ tsP P q hv o t) (h6 : P 6 = 1) : adP P q hv o t := Or.inr ⟨fun q9 => absurd q9 h, fun q9 => absurd h6 q9⟩
theorem ad_n2 {P : Nat → Int} {q hv t : Nat} {o : Wo} (h5 : P 5 ≠ -2) (h : ¬ tsP P q hv o t) (h6 : ¬ P 6 = 1) : ¬ adP P q hv o t := fun q9 => q9.elim h5 (fun q8 => h (q8.mpr h6))
-- lines one to one: fuse
/-- the next tone is of the same kind: its lines come, it goes; so on -/
def fuF : Nat → Nat → Wo → Wo × Nat
  | 0, _, o => (o, 0)
  | k + 1, t, o => if t + 1 < o.1 ∧ o.2.1 (t + 1) = o.2.1 t then ((fuF k t (o.1 - 1, remF o.2.1 (t + 1), remF (updF o.2.2 t (o.2.2 t ||| andn (o.2.2 (t + 1)) (o.2.2 t))) (t + 1))).1, (fuF k t (o.1 - 1, remF o.2.1 (t + 1), remF (updF o.2.2 t (o.2.2 t ||| andn (o.2.2 (t + 1)) (o.2.2 t))) (t + 1))).2 + pop (andn (o.2.2 (t + 1)) (o.2.2 t)) + 1) else (o, 0)
/-- the nearest tone with lines, on one side -/
def dkU (o : Wo) (t x u : Nat) : Prop := u < o.1 ∧ o.2.2 u ≠ 0 ∧ ((x = 0 ∧ t < u ∧ ∀ i, t < i → i < u → o.2.2 i = 0) ∨ (x = 1 ∧ u < t ∧ ∀ i, u < i → i < t → o.2.2 i = 0))
theorem dkU_u {o : Wo} {t x u1 u2 : Nat} (h1 : dkU o t x u1) (h2 : dkU o t x u2) : u1 = u2 := by
  obtain ⟨a1, b1, c1 | c1⟩ := h1 <;> obtain ⟨a2, b2, c2 | c2⟩ := h2
  · rcases Nat.lt_trichotomy u1 u2 with h | h | h
    · exact absurd (c2.2.2 u1 c1.2.1 h) b1
    · exact h
    · exact absurd (c1.2.2 u2 c2.2.1 h) b2
  · omega
  · omega
  · rcases Nat.lt_trichotomy u1 u2 with h | h | h
    · exact absurd (c1.2.2 u2 h c2.2.1) b2
    · exact h
    · exact absurd (c2.2.2 u1 h c1.2.1) b1
def dkC (q : Nat) (o : Wo) (t x s9 : Nat) : Prop := ∃ u, dkU o t x u ∧ s9 = (if x = 1 then hig (o.2.2 u) else low (o.2.2 u)) ∧ openP o.1 o.2.2 t s9
theorem dkC_u {q : Nat} {o : Wo} {t x s1 s2 : Nat} (h1 : dkC q o t x s1) (h2 : dkC q o t x s2) : s1 = s2 := by
  obtain ⟨u1, a1, b1, _⟩ := h1
  obtain ⟨u2, a2, b2, _⟩ := h2
  have := dkU_u a1 a2
  subst this
  rw [b1, b2]
noncomputable def dkF (q t x : Nat) (o : Wo) : Wo × Nat := @dite (Wo × Nat) (∃ s9, dkC q o t x s9) (Classical.propDecidable _) (fun h => ((o.1, o.2.1, updF o.2.2 t (o.2.2 t ||| 2 ^ (Classical.choose h))), 1)) (fun _ => (o, 0))
theorem dkF_y {q t x s9 : Nat} {o : Wo} (h : dkC q o t x s9) : dkF q t x o = ((o.1, o.2.1, updF o.2.2 t (o.2.2 t ||| 2 ^ s9)), 1) := by
  have he : ∃ s9, dkC q o t x s9 := ⟨s9, h⟩
  unfold dkF
  rw [@dif_pos _ (Classical.propDecidable _) he, dkC_u (Classical.choose_spec he) h]
theorem dkF_n {q t x : Nat} {o : Wo} (h : ∀ s9, ¬ dkC q o t x s9) : dkF q t x o = (o, 0) := by
  unfold dkF
  rw [@dif_neg _ (Classical.propDecidable _) (fun ⟨s9, q9⟩ => h s9 q9)]
theorem wdX4_admits_0 : decode cX4_admits 0 = .ok (.aload_n 1, 1) := dq0 kk_43 (by decide +kernel)
theorem wdX4_admits_1 : decode cX4_admits 1 = .ok (.iload_n 2, 1) := dq0 kk_28 (by decide +kernel)
theorem wdX4_admits_2 : decode cX4_admits 2 = .ok (.invokevirtual 27, 3) := dqV kk_182 (by decide +kernel)
theorem wtk_X9_linesFrom : Cond.code yX9_linesFrom cX9_linesFrom 2 (some .int) ∈ TB := tk_X9_linesFrom
theorem wgc_X9_linesFrom : GoodIn TB (cw yX9_linesFrom cX9_linesFrom 2 (some .int)) := goodIn_c2 wtk_X9_linesFrom
theorem wtb_0 : Cond.methodLink "ToneLines$Rule" 27 yX9_linesFrom ∈ TB := tbm (tc4 (List.mem_of_getElem? (i := 49) rfl)) rfl
theorem wtb_1 : Cond.instanceMethod yX9_linesFrom ∈ TB := tb_64
theorem wtb_2 : Cond.selects "ToneLines$Word" yX9_linesFrom yX9_linesFrom ∈ TB := tb_65
theorem wtb_3 : Cond.initialized "ToneLines$Word" ∈ TB := tb_5
theorem wgv_X4_27 : GoodIn TB (wsV RX4 27 RX9 yX9_linesFrom (cw yX9_linesFrom cX9_linesFrom 2 (some .int))) := goodIn_4 wtb_0 wtb_1 wtb_2 wtb_3 wgc_X9_linesFrom
theorem whv_X9_linesFrom : yX9_linesFrom.cls = RX9 ∧ yX9_linesFrom.cls ≠ "java/lang/invoke/MethodHandle" ∧ yX9_linesFrom.cls ≠ "java/lang/invoke/VarHandle" ∧ (parseMethodDescriptor yX9_linesFrom.desc).map (fun d => d.parameters.length) = some 1 := hv_X9_linesFrom
theorem wdX4_admits_5 : decode cX4_admits 5 = .ok (.istore_n 3, 1) := dq0 kk_62 (by decide +kernel)
theorem wdX4_admits_6 : decode cX4_admits 6 = .ok (.aload_n 0, 1) := dq0 kk_42 (by decide +kernel)
theorem wdX4_admits_7 : decode cX4_admits 7 = .ok (.getfield 9, 3) := dqV kk_180 (by decide +kernel)
theorem wtb_4 : Cond.fieldLink "ToneLines$Rule" 9 "ToneLines$Rule" "parts" "[I" ∈ TB := rtb_58
theorem wdX4_admits_10 : decode cX4_admits 10 = .ok (.iconst 5, 1) := dq0 kk_8 (by decide +kernel)
theorem wdX4_admits_11 : decode cX4_admits 11 = .ok (.iaload, 1) := dq0 kk_46 (by decide +kernel)
theorem wdX4_admits_12 : decode cX4_admits 12 = .ok (.tableswitch 165 0 6 #[44, 61, 88, 101, 119, 133, 149], 44) := by decide +kernel
theorem wdX4_admits_56 : decode cX4_admits 56 = .ok (.iload_n 3, 1) := dq0 kk_29 (by decide +kernel)
theorem wdX4_admits_57 : decode cX4_admits 57 = .ok (.invokestatic 33, 3) := dqV kk_184 (by decide +kernel)
theorem wtk_X11_lowest : Cond.code yX11_lowest cX11_lowest 1 (some .int) ∈ TB := tk_X11_lowest
theorem wgc_X11_lowest : GoodIn TB (cw yX11_lowest cX11_lowest 1 (some .int)) := goodIn_c2 wtk_X11_lowest
theorem whs_X11_lowest : yX11_lowest.cls ≠ "java/lang/invoke/MethodHandle" ∧ yX11_lowest.cls ≠ "java/lang/invoke/VarHandle" ∧ (parseMethodDescriptor yX11_lowest.desc).map (fun d => d.parameters.length) = some 1 := hs_X11_lowest
theorem wtb_5 : Cond.initialized "ToneLines" ∈ TB := rtb_28
theorem wtb_6 : Cond.static yX11_lowest ∈ TB := tb_96
theorem wdX4_admits_60 : decode cX4_admits 60 = .ok (.ifCond .ne 7, 3) := dqT kk_154 (by decide +kernel)
theorem wdX4_admits_67 : decode cX4_admits 67 = .ok (.iconst 0, 1) := dq0 kk_3 (by decide +kernel)
theorem wdX4_admits_68 : decode cX4_admits 68 = .ok (.istore 4, 2) := dqU kk_54 (by decide +kernel)
theorem wdX4_admits_70 : decode cX4_admits 70 = .ok (.goto 109, 3) := dqT kk_167 (by decide +kernel)
theorem wdX4_admits_179 : decode cX4_admits 179 = .ok (.iload 4, 2) := dqU kk_21 (by decide +kernel)
theorem wdX4_admits_181 : decode cX4_admits 181 = .ok (.aload_n 0, 1) := dq0 kk_42 (by decide +kernel)
theorem wdX4_admits_182 : decode cX4_admits 182 = .ok (.getfield 9, 3) := dqV kk_180 (by decide +kernel)
theorem wdX4_admits_185 : decode cX4_admits 185 = .ok (.bipush 6, 2) := dqS kk_16 (by decide +kernel)
theorem wdX4_admits_187 : decode cX4_admits 187 = .ok (.iaload, 1) := dq0 kk_46 (by decide +kernel)
theorem wdX4_admits_188 : decode cX4_admits 188 = .ok (.iconst 1, 1) := dq0 kk_4 (by decide +kernel)
theorem wdX4_admits_189 : decode cX4_admits 189 = .ok (.if_icmp .ne 7, 3) := dqT kk_160 (by decide +kernel)
theorem wdX4_admits_196 : decode cX4_admits 196 = .ok (.iconst 0, 1) := dq0 kk_3 (by decide +kernel)
theorem wdX4_admits_197 : decode cX4_admits 197 = .ok (.if_icmp .eq 7, 3) := dqT kk_159 (by decide +kernel)
theorem wdX4_admits_204 : decode cX4_admits 204 = .ok (.iconst 0, 1) := dq0 kk_3 (by decide +kernel)
theorem wdX4_admits_205 : decode cX4_admits 205 = .ok (.ireturn, 1) := dq0 kk_172 (by decide +kernel)
theorem wdX4_admits_192 : decode cX4_admits 192 = .ok (.iconst 1, 1) := dq0 kk_4 (by decide +kernel)
theorem wdX4_admits_193 : decode cX4_admits 193 = .ok (.goto 4, 3) := dqT kk_167 (by decide +kernel)
theorem wdX4_admits_200 : decode cX4_admits 200 = .ok (.iconst 1, 1) := dq0 kk_4 (by decide +kernel)
theorem wdX4_admits_201 : decode cX4_admits 201 = .ok (.goto 4, 3) := dqT kk_167 (by decide +kernel)
theorem wdX4_admits_63 : decode cX4_admits 63 = .ok (.iconst 1, 1) := dq0 kk_4 (by decide +kernel)
theorem wdX4_admits_64 : decode cX4_admits 64 = .ok (.goto 4, 3) := dqT kk_167 (by decide +kernel)
theorem wdX4_admits_73 : decode cX4_admits 73 = .ok (.iload_n 3, 1) := dq0 kk_29 (by decide +kernel)
theorem wdX4_admits_74 : decode cX4_admits 74 = .ok (.ifCond .eq 20, 3) := dqT kk_153 (by decide +kernel)
theorem wdX4_admits_94 : decode cX4_admits 94 = .ok (.iconst 0, 1) := dq0 kk_3 (by decide +kernel)
theorem wdX4_admits_95 : decode cX4_admits 95 = .ok (.istore 4, 2) := dqU kk_54 (by decide +kernel)
theorem wdX4_admits_97 : decode cX4_admits 97 = .ok (.goto 82, 3) := dqT kk_167 (by decide +kernel)
theorem wdX4_admits_77 : decode cX4_admits 77 = .ok (.iload_n 3, 1) := dq0 kk_29 (by decide +kernel)
theorem wdX4_admits_78 : decode cX4_admits 78 = .ok (.invokestatic 36, 3) := dqV kk_184 (by decide +kernel)
theorem wtk_X11_highest : Cond.code yX11_highest cX11_highest 2 (some .int) ∈ TB := tk_X11_highest
theorem wgc_X11_highest : GoodIn TB (cw yX11_highest cX11_highest 2 (some .int)) := goodIn_c2 wtk_X11_highest
theorem whs_X11_highest : yX11_highest.cls ≠ "java/lang/invoke/MethodHandle" ∧ yX11_highest.cls ≠ "java/lang/invoke/VarHandle" ∧ (parseMethodDescriptor yX11_highest.desc).map (fun d => d.parameters.length) = some 1 := hs_X11_highest
theorem wtb_7 : Cond.static yX11_highest ∈ TB := tb_97
theorem wdX4_admits_81 : decode cX4_admits 81 = .ok (.aload_n 1, 1) := dq0 kk_43 (by decide +kernel)
theorem wdX4_admits_82 : decode cX4_admits 82 = .ok (.getfield 39, 3) := dqV kk_180 (by decide +kernel)
theorem wtb_8 : Cond.fieldLink "ToneLines$Rule" 39 "ToneLines$Word" "syllables" "I" ∈ TB := tbm (tc1 (List.mem_of_getElem? (i := 138) rfl)) rfl
theorem wdX4_admits_85 : decode cX4_admits 85 = .ok (.iconst 1, 1) := dq0 kk_4 (by decide +kernel)
theorem wdX4_admits_86 : decode cX4_admits 86 = .ok (.isub, 1) := dq0 kk_100 (by decide +kernel)
theorem wdX4_admits_87 : decode cX4_admits 87 = .ok (.if_icmp .ne 7, 3) := dqT kk_160 (by decide +kernel)
theorem wdX4_admits_90 : decode cX4_admits 90 = .ok (.iconst 1, 1) := dq0 kk_4 (by decide +kernel)
theorem wdX4_admits_91 : decode cX4_admits 91 = .ok (.goto 4, 3) := dqT kk_167 (by decide +kernel)
theorem wdX4_admits_100 : decode cX4_admits 100 = .ok (.aload_n 1, 1) := dq0 kk_43 (by decide +kernel)
theorem wdX4_admits_101 : decode cX4_admits 101 = .ok (.iload_n 3, 1) := dq0 kk_29 (by decide +kernel)
theorem wdX4_admits_102 : decode cX4_admits 102 = .ok (.invokestatic 36, 3) := dqV kk_184 (by decide +kernel)
theorem wdX4_admits_105 : decode cX4_admits 105 = .ok (.invokevirtual 43, 3) := dqV kk_182 (by decide +kernel)
theorem wtk_X9_isHeavy : Cond.code yX9_isHeavy cX9_isHeavy 2 (some .boolean) ∈ TB := tbm (tc3 (List.mem_of_getElem? (i := 198) rfl)) rfl
theorem wgc_X9_isHeavy : GoodIn TB (cw yX9_isHeavy cX9_isHeavy 2 (some .boolean)) := goodIn_c2 wtk_X9_isHeavy
theorem wtb_9 : Cond.methodLink "ToneLines$Rule" 43 yX9_isHeavy ∈ TB := tbm (tc4 (List.mem_of_getElem? (i := 52) rfl)) rfl
theorem wtb_10 : Cond.instanceMethod yX9_isHeavy ∈ TB := tbm (tc3 (List.mem_of_getElem? (i := 196) rfl)) rfl
theorem wtb_11 : Cond.selects "ToneLines$Word" yX9_isHeavy yX9_isHeavy ∈ TB := tbm (tc3 (List.mem_of_getElem? (i := 197) rfl)) rfl
theorem wgv_X4_43 : GoodIn TB (wsV RX4 43 RX9 yX9_isHeavy (cw yX9_isHeavy cX9_isHeavy 2 (some .boolean))) := goodIn_4 wtb_9 wtb_10 wtb_11 wtb_3 wgc_X9_isHeavy
theorem whv_X9_isHeavy : yX9_isHeavy.cls = RX9 ∧ yX9_isHeavy.cls ≠ "java/lang/invoke/MethodHandle" ∧ yX9_isHeavy.cls ≠ "java/lang/invoke/VarHandle" ∧ (parseMethodDescriptor yX9_isHeavy.desc).map (fun d => d.parameters.length) = some 1 := by decide +kernel
theorem wdX4_admits_108 : decode cX4_admits 108 = .ok (.istore 4, 2) := dqU kk_54 (by decide +kernel)
theorem wdX4_admits_110 : decode cX4_admits 110 = .ok (.goto 69, 3) := dqT kk_167 (by decide +kernel)
theorem wdX4_admits_113 : decode cX4_admits 113 = .ok (.iload_n 3, 1) := dq0 kk_29 (by decide +kernel)
theorem wdX4_admits_114 : decode cX4_admits 114 = .ok (.invokestatic 47, 3) := dqV kk_184 (by decide +kernel)
theorem wtk_J6_bitCount_0f7a4 : Cond.code yJ6_bitCount_0f7a4 cJ6_bitCount_0f7a4 1 (some .int) ∈ TB := tk_J6_bitCount_0f7a4
theorem wgc_J6_bitCount_0f7a4 : GoodIn TB (cw yJ6_bitCount_0f7a4 cJ6_bitCount_0f7a4 1 (some .int)) := goodIn_c2 wtk_J6_bitCount_0f7a4
theorem wtb_12 : Cond.methodLink "ToneLines$Rule" 47 yJ6_bitCount_0f7a4 ∈ TB := tbm (tc4 (List.mem_of_getElem? (i := 53) rfl)) rfl
theorem wtb_13 : Cond.static yJ6_bitCount_0f7a4 ∈ TB := tb_23
theorem wtb_14 : Cond.initialized "java/lang/Integer" ∈ TB := tb_24
theorem wgs_X4_47 : GoodIn TB (va_wsS RX4 47 yJ6_bitCount_0f7a4 (cw yJ6_bitCount_0f7a4 cJ6_bitCount_0f7a4 1 (some .int))) := goodIn_3 wtb_12 wtb_13 wtb_14 wgc_J6_bitCount_0f7a4
theorem whs_J6_bitCount_0f7a4 : yJ6_bitCount_0f7a4.cls ≠ "java/lang/invoke/MethodHandle" ∧ yJ6_bitCount_0f7a4.cls ≠ "java/lang/invoke/VarHandle" ∧ (parseMethodDescriptor yJ6_bitCount_0f7a4.desc).map (fun d => d.parameters.length) = some 1 := hs_J6_bitCount_0f7a4
theorem wdX4_admits_117 : decode cX4_admits 117 = .ok (.iconst 2, 1) := dq0 kk_5 (by decide +kernel)
theorem wdX4_admits_118 : decode cX4_admits 118 = .ok (.if_icmp .lt 7, 3) := dqT kk_161 (by decide +kernel)
theorem wdX4_admits_125 : decode cX4_admits 125 = .ok (.iconst 0, 1) := dq0 kk_3 (by decide +kernel)
theorem wdX4_admits_126 : decode cX4_admits 126 = .ok (.istore 4, 2) := dqU kk_54 (by decide +kernel)
theorem wdX4_admits_128 : decode cX4_admits 128 = .ok (.goto 51, 3) := dqT kk_167 (by decide +kernel)
theorem wdX4_admits_121 : decode cX4_admits 121 = .ok (.iconst 1, 1) := dq0 kk_4 (by decide +kernel)
theorem wdX4_admits_122 : decode cX4_admits 122 = .ok (.goto 4, 3) := dqT kk_167 (by decide +kernel)
theorem wdX4_admits_131 : decode cX4_admits 131 = .ok (.iload_n 3, 1) := dq0 kk_29 (by decide +kernel)
theorem wdX4_admits_132 : decode cX4_admits 132 = .ok (.ifCond .ne 7, 3) := dqT kk_154 (by decide +kernel)
theorem wdX4_admits_139 : decode cX4_admits 139 = .ok (.iconst 0, 1) := dq0 kk_3 (by decide +kernel)
theorem wdX4_admits_140 : decode cX4_admits 140 = .ok (.istore 4, 2) := dqU kk_54 (by decide +kernel)
theorem wdX4_admits_142 : decode cX4_admits 142 = .ok (.goto 37, 3) := dqT kk_167 (by decide +kernel)
theorem wdX4_admits_135 : decode cX4_admits 135 = .ok (.iconst 1, 1) := dq0 kk_4 (by decide +kernel)
theorem wdX4_admits_136 : decode cX4_admits 136 = .ok (.goto 4, 3) := dqT kk_167 (by decide +kernel)
theorem wdX4_admits_145 : decode cX4_admits 145 = .ok (.aload_n 0, 1) := dq0 kk_42 (by decide +kernel)
theorem wdX4_admits_146 : decode cX4_admits 146 = .ok (.aload_n 1, 1) := dq0 kk_43 (by decide +kernel)
theorem wdX4_admits_147 : decode cX4_admits 147 = .ok (.iload_n 2, 1) := dq0 kk_28 (by decide +kernel)
theorem wdX4_admits_148 : decode cX4_admits 148 = .ok (.iconst 1, 1) := dq0 kk_4 (by decide +kernel)
theorem wdX4_admits_149 : decode cX4_admits 149 = .ok (.iadd, 1) := dq0 kk_96 (by decide +kernel)
theorem wdX4_admits_150 : decode cX4_admits 150 = .ok (.invokevirtual 52, 3) := dqV kk_182 (by decide +kernel)
theorem wtk_X9_kindOf : Cond.code yX9_kindOf cX9_kindOf 2 (some .int) ∈ TB := tk_X9_kindOf
theorem wgc_X9_kindOf : GoodIn TB (cw yX9_kindOf cX9_kindOf 2 (some .int)) := goodIn_c2 wtk_X9_kindOf
theorem wtb_15 : Cond.methodLink "ToneLines$Rule" 52 yX9_kindOf ∈ TB := tbm (tc4 (List.mem_of_getElem? (i := 54) rfl)) rfl
theorem wtb_16 : Cond.instanceMethod yX9_kindOf ∈ TB := tb_83
theorem wtb_17 : Cond.selects "ToneLines$Word" yX9_kindOf yX9_kindOf ∈ TB := tb_84
theorem wgv_X4_52 : GoodIn TB (wsV RX4 52 RX9 yX9_kindOf (cw yX9_kindOf cX9_kindOf 2 (some .int))) := goodIn_4 wtb_15 wtb_16 wtb_17 wtb_3 wgc_X9_kindOf
theorem whv_X9_kindOf : yX9_kindOf.cls = RX9 ∧ yX9_kindOf.cls ≠ "java/lang/invoke/MethodHandle" ∧ yX9_kindOf.cls ≠ "java/lang/invoke/VarHandle" ∧ (parseMethodDescriptor yX9_kindOf.desc).map (fun d => d.parameters.length) = some 1 := hv_X9_kindOf
theorem wdX4_admits_153 : decode cX4_admits 153 = .ok (.invokevirtual 55, 3) := dqV kk_182 (by decide +kernel)
theorem wtk_X4_isTestKind : Cond.code yX4_isTestKind cX4_isTestKind 2 (some .boolean) ∈ TB := tbm (tc4 (List.mem_of_getElem? (i := 58) rfl)) rfl
theorem wgc_X4_isTestKind : GoodIn TB (cw yX4_isTestKind cX4_isTestKind 2 (some .boolean)) := goodIn_c2 wtk_X4_isTestKind
theorem wtb_18 : Cond.methodLink "ToneLines$Rule" 55 yX4_isTestKind ∈ TB := tbm (tc4 (List.mem_of_getElem? (i := 55) rfl)) rfl
theorem wtb_19 : Cond.instanceMethod yX4_isTestKind ∈ TB := tbm (tc4 (List.mem_of_getElem? (i := 57) rfl)) rfl
theorem wtb_20 : Cond.selects "ToneLines$Rule" yX4_isTestKind yX4_isTestKind ∈ TB := tbp (List.mem_of_getElem? (i := 21) rfl) rfl
theorem wtb_21 : Cond.initialized "ToneLines$Rule" ∈ TB := rtb_68
theorem wgv_X4_55 : GoodIn TB (wsV RX4 55 RX4 yX4_isTestKind (cw yX4_isTestKind cX4_isTestKind 2 (some .boolean))) := goodIn_4 wtb_18 wtb_19 wtb_20 wtb_21 wgc_X4_isTestKind
theorem whv_X4_isTestKind : yX4_isTestKind.cls = RX4 ∧ yX4_isTestKind.cls ≠ "java/lang/invoke/MethodHandle" ∧ yX4_isTestKind.cls ≠ "java/lang/invoke/VarHandle" ∧ (parseMethodDescriptor yX4_isTestKind.desc).map (fun d => d.parameters.length) = some 1 := by decide +kernel
theorem wdX4_admits_156 : decode cX4_admits 156 = .ok (.istore 4, 2) := dqU kk_54 (by decide +kernel)
theorem wdX4_admits_158 : decode cX4_admits 158 = .ok (.goto 21, 3) := dqT kk_167 (by decide +kernel)
theorem wdX4_admits_161 : decode cX4_admits 161 = .ok (.aload_n 0, 1) := dq0 kk_42 (by decide +kernel)
theorem wdX4_admits_162 : decode cX4_admits 162 = .ok (.aload_n 1, 1) := dq0 kk_43 (by decide +kernel)
theorem wdX4_admits_163 : decode cX4_admits 163 = .ok (.iload_n 2, 1) := dq0 kk_28 (by decide +kernel)
theorem wdX4_admits_164 : decode cX4_admits 164 = .ok (.iconst 1, 1) := dq0 kk_4 (by decide +kernel)
theorem wdX4_admits_165 : decode cX4_admits 165 = .ok (.isub, 1) := dq0 kk_100 (by decide +kernel)
theorem wdX4_admits_166 : decode cX4_admits 166 = .ok (.invokevirtual 52, 3) := dqV kk_182 (by decide +kernel)
theorem wdX4_admits_169 : decode cX4_admits 169 = .ok (.invokevirtual 55, 3) := dqV kk_182 (by decide +kernel)
theorem wdX4_admits_172 : decode cX4_admits 172 = .ok (.istore 4, 2) := dqU kk_54 (by decide +kernel)
theorem wdX4_admits_174 : decode cX4_admits 174 = .ok (.goto 5, 3) := dqT kk_167 (by decide +kernel)
theorem wdX4_admits_177 : decode cX4_admits 177 = .ok (.iconst 1, 1) := dq0 kk_4 (by decide +kernel)
theorem wdX4_admits_178 : decode cX4_admits 178 = .ok (.ireturn, 1) := dq0 kk_172 (by decide +kernel)
set_option maxRecDepth 4000 in
theorem s_X4_admits {l : Launch} {D : va_G} {B : Nat} {cy : Nat → ClassId} {M : Mem} {a q hv ed : Nat} {o : Wo} (hk : kd a = (9, 0, 0)) (hC : CW M a q hv ed o) {ru : Nat} {P : Nat → Int} (hku : kd ru = (4, 0, 0)) (hU : isU M ru P) (hP : okP P) {t : Nat} (ht : t < o.1) (hP5 : P 5 = -2 ∨ (0 ≤ P 5 ∧ P 5 ≤ 6)) : Ci l D B cy yX4_admits cX4_admits 5 (some .boolean) 2 42 [.ref (B + ru), .ref (B + a), .int (zI (t : Int))] M (fun r M1 => ((adP P q hv o t) ∧ r = zI 1 ∨ ¬ (adP P q hv o t) ∧ r = zI 0) ∧ M1 = M) := by
  refine s_any (by decide) (Nat.le_of_ble_eq_true rfl) ?_
  intro p e s m below meth c ls F hr hlocks w hl
  have F : CallFix p m c cX4_admits 5 s _ TB RX4 := F
  have hx := F.1
  have hb := F.2.1
  have hl : lv_has ls 5 [(0, .ref (B + ru)), (1, .ref (B + a)), (2, .int (zI (t : Int)))] := hl
  have hW := hC.1
  have hwf := hC.wf
  have hKL := hwf.2.2.2.2
  have hn12 := hwf.1
  have hq12 := hwf.2.1
  have hP0 := hP 0 (by decide)
  have hP1 := hP 1 (by decide)
  have hP2 := hP 2 (by decide)
  have hP3 := hP 3 (by decide)
  have hP4 := hP 4 (by decide)
  have hP5 := hP 5 (by decide)
  have hP6 := hP 6 (by decide)
  have hP7 := hP 7 (by decide)
  refine lv_aload_n hx hb wdX4_admits_0 rfl (lv_at hl 1 rfl) ?_
  refine lv_iload_n hx hb wdX4_admits_1 rfl (lv_at hl 2 rfl) ?_
  refine k_Vi F w (As := [.int (zI (t : Int))]) (rest := []) (a := a) (kd_lt (a := a) hk (by decide)) (sh_9 hk _ _) rfl (s_X9_linesFrom hk hW hwf (by omega)) wgv_X4_27 whv_X9_linesFrom ⟨(Nat.le_of_ble_eq_true rfl), (Nat.le_of_ble_eq_true rfl)⟩ hl.1 rfl (Nat.le_of_ble_eq_true rfl) ⟨Nat.zero_le _, Nat.zero_le _⟩ wdX4_admits_2 (fun r Ma2 H locs hp w => ?_)
  rcases hp with ⟨⟨k1, ek1, hk1, rfl⟩ | ⟨nk1, rfl⟩, hMe⟩
  · obtain rfl : t = k1 := by omega
    rw [hMe] at w
    have gk1 := (hKL t (by omega)).2
    refine lv_istore_n (lv' := [(3, .int (zI (((o.2.2 t) : Nat) : Int))), (0, .ref (B + ru)), (1, .ref (B + a)), (2, .int (zI (t : Int)))]) hx hb wdX4_admits_5 rfl hl (by decide) rfl (fun ls hl => ?_)
    refine lv_aload_n hx hb wdX4_admits_6 rfl (lv_at hl 1 rfl) ?_
    refine f_4_0 F w (a := ru) hku wtb_4 wdX4_admits_7 ?_
    refine lv_iconst (v := zI 5) hx hb wdX4_admits_10 rfl ?_
    refine g_iald F w (a := (ru + 1)) (kd_r1 hku) (j := 5) ⟨by decide, by decide⟩ (by omega) wdX4_admits_11 ?_
    refine r_val (v := (zI (P 5))) (hU 5 (by decide)) ?_
    rcases (show ((P 5) : Int) = 0 ∨ ((P 5) : Int) = 1 ∨ ((P 5) : Int) = 2 ∨ ((P 5) : Int) = 3 ∨ ((P 5) : Int) = 4 ∨ ((P 5) : Int) = 5 ∨ ((P 5) : Int) = 6 ∨ ((P 5) ≠ 0 ∧ (P 5) ≠ 1 ∧ (P 5) ≠ 2 ∧ (P 5) ≠ 3 ∧ (P 5) ≠ 4 ∧ (P 5) ≠ 5 ∧ (P 5) ≠ 6) by omega) with c3 | c3 | c3 | c3 | c3 | c3 | c3 | c3
    · refine r_val (v := zI 0) (congrArg zI c3) ?_
      refine lv_tableIn (tgt := 56) hx hb wdX4_admits_12 (by decide) (by decide) (off := 44) rfl (by decide) ?_
      refine lv_iload_n hx hb wdX4_admits_56 rfl (lv_at hl 0 rfl) ?_
      refine x_Ni F w (As := [.int (zI (((o.2.2 t) : Nat) : Int))]) (rest := []) (s_X11_lowest (m9 := (o.2.2 t)) (by omega)) wgc_X11_lowest wtb_5 wtb_6 (by decide) whs_X11_lowest ⟨(Nat.le_of_ble_eq_true rfl), (Nat.le_of_ble_eq_true rfl)⟩ hl.1 rfl (Nat.le_of_ble_eq_true rfl) ⟨Nat.zero_le _, Nat.zero_le _⟩ wdX4_admits_57 (fun H locs w => ?_)
      have hw3 := lowI_rg (o.2.2 t) (by omega)
      refine z_if_ne (tgt := 67) hx hb (by omega) wdX4_admits_60 (by decide) (fun c5 => ?_) (fun c5 => ?_)
      · refine lv_iconst (v := zI 0) hx hb wdX4_admits_67 rfl ?_
        have hts : ¬ tsP P q hv o t := fun h9 => absurd ((ts_0 (by omega)).mp h9) (by omega)
        refine lv_istore (lv' := [(4, .int (zI 0)), (3, .int (zI (((o.2.2 t) : Nat) : Int))), (0, .ref (B + ru)), (1, .ref (B + a)), (2, .int (zI (t : Int)))]) hx hb wdX4_admits_68 hl (by decide) rfl (fun ls hl => ?_)
        refine lv_goto (tgt := 179) hx hb wdX4_admits_70 (by decide) ?_
        refine lv_iload hx hb wdX4_admits_179 (lv_at hl 0 rfl) ?_
        refine lv_aload_n hx hb wdX4_admits_181 rfl (lv_at hl 2 rfl) ?_
        refine f_4_0 F w (a := ru) hku wtb_4 wdX4_admits_182 ?_
        refine lv_bipush (v := zI 6) hx hb wdX4_admits_185 (by decide) ?_
        refine g_iald F w (a := (ru + 1)) (kd_r1 hku) (j := 6) ⟨by decide, by decide⟩ (by omega) wdX4_admits_187 ?_
        refine r_val (v := (zI (P 6))) (hU 6 (by decide)) ?_
        refine lv_iconst (v := zI 1) hx hb wdX4_admits_188 rfl ?_
        refine z_icmp_ne (tgt := 196) hx hb (by omega) (by omega) wdX4_admits_189 (by decide) (fun c6 => ?_) (fun c6 => ?_)
        · refine lv_iconst (v := zI 0) hx hb wdX4_admits_196 rfl ?_
          refine z_icmp_eq (tgt := 204) hx hb (by omega) (by omega) wdX4_admits_197 (by decide) (fun c7 => ?_) (fun c7 => False.elim (by omega))
          refine lv_iconst (v := zI 0) hx hb wdX4_admits_204 rfl ?_
          exact e_z F w hr hlocks (nar_z (by omega)) ⟨Or.inr ⟨ad_n2 (by omega) hts (by omega), rfl⟩, rfl⟩ wdX4_admits_205
        · refine lv_iconst (v := zI 1) hx hb wdX4_admits_192 rfl ?_
          refine lv_goto (tgt := 197) hx hb wdX4_admits_193 (by decide) ?_
          refine z_icmp_eq (tgt := 204) hx hb (by omega) (by omega) wdX4_admits_197 (by decide) (fun c8 => False.elim (by omega)) (fun c8 => ?_)
          refine lv_iconst (v := zI 1) hx hb wdX4_admits_200 rfl ?_
          refine lv_goto (tgt := 205) hx hb wdX4_admits_201 (by decide) ?_
          exact e_z F w hr hlocks (nar_z (by omega)) ⟨Or.inl ⟨ad_y2 hts (by omega), rfl⟩, rfl⟩ wdX4_admits_205
      · refine lv_iconst (v := zI 1) hx hb wdX4_admits_63 rfl ?_
        refine lv_goto (tgt := 68) hx hb wdX4_admits_64 (by decide) ?_
        have hts :  tsP P q hv o t := (ts_0 (by omega)).mpr (by omega)
        refine lv_istore (lv' := [(4, .int (zI 1)), (3, .int (zI (((o.2.2 t) : Nat) : Int))), (0, .ref (B + ru)), (1, .ref (B + a)), (2, .int (zI (t : Int)))]) hx hb wdX4_admits_68 hl (by decide) rfl (fun ls hl => ?_)
        refine lv_goto (tgt := 179) hx hb wdX4_admits_70 (by decide) ?_
        refine lv_iload hx hb wdX4_admits_179 (lv_at hl 0 rfl) ?_
        refine lv_aload_n hx hb wdX4_admits_181 rfl (lv_at hl 2 rfl) ?_
        refine f_4_0 F w (a := ru) hku wtb_4 wdX4_admits_182 ?_
        refine lv_bipush (v := zI 6) hx hb wdX4_admits_185 (by decide) ?_
        refine g_iald F w (a := (ru + 1)) (kd_r1 hku) (j := 6) ⟨by decide, by decide⟩ (by omega) wdX4_admits_187 ?_
        refine r_val (v := (zI (P 6))) (hU 6 (by decide)) ?_
        refine lv_iconst (v := zI 1) hx hb wdX4_admits_188 rfl ?_
        refine z_icmp_ne (tgt := 196) hx hb (by omega) (by omega) wdX4_admits_189 (by decide) (fun c9 => ?_) (fun c9 => ?_)
        · refine lv_iconst (v := zI 0) hx hb wdX4_admits_196 rfl ?_
          refine z_icmp_eq (tgt := 204) hx hb (by omega) (by omega) wdX4_admits_197 (by decide) (fun c10 => False.elim (by omega)) (fun c10 => ?_)
          refine lv_iconst (v := zI 1) hx hb wdX4_admits_200 rfl ?_
          refine lv_goto (tgt := 205) hx hb wdX4_admits_201 (by decide) ?_
          exact e_z F w hr hlocks (nar_z (by omega)) ⟨Or.inl ⟨ad_y hts (by omega), rfl⟩, rfl⟩ wdX4_admits_205
        · refine lv_iconst (v := zI 1) hx hb wdX4_admits_192 rfl ?_
          refine lv_goto (tgt := 197) hx hb wdX4_admits_193 (by decide) ?_
          refine z_icmp_eq (tgt := 204) hx hb (by omega) (by omega) wdX4_admits_197 (by decide) (fun c11 => ?_) (fun c11 => False.elim (by omega))
          refine lv_iconst (v := zI 0) hx hb wdX4_admits_204 rfl ?_
          exact e_z F w hr hlocks (nar_z (by omega)) ⟨Or.inr ⟨ad_n (by omega) hts (by omega), rfl⟩, rfl⟩ wdX4_admits_205
    · refine r_val (v := zI 1) (congrArg zI c3) ?_
      refine lv_tableIn (tgt := 73) hx hb wdX4_admits_12 (by decide) (by decide) (off := 61) rfl (by decide) ?_
      refine lv_iload_n hx hb wdX4_admits_73 rfl (lv_at hl 0 rfl) ?_
      refine z_if_eq (tgt := 94) hx hb (by omega) wdX4_admits_74 (by decide) (fun c12 => ?_) (fun c12 => ?_)
      · refine lv_iconst (v := zI 0) hx hb wdX4_admits_94 rfl ?_
        have hts : ¬ tsP P q hv o t := fun h9 => absurd ((ts_1 (by omega)).mp h9) (by omega)
        refine lv_istore (lv' := [(4, .int (zI 0)), (3, .int (zI (((o.2.2 t) : Nat) : Int))), (0, .ref (B + ru)), (1, .ref (B + a)), (2, .int (zI (t : Int)))]) hx hb wdX4_admits_95 hl (by decide) rfl (fun ls hl => ?_)
        refine lv_goto (tgt := 179) hx hb wdX4_admits_97 (by decide) ?_
        refine lv_iload hx hb wdX4_admits_179 (lv_at hl 0 rfl) ?_
        refine lv_aload_n hx hb wdX4_admits_181 rfl (lv_at hl 2 rfl) ?_
        refine f_4_0 F w (a := ru) hku wtb_4 wdX4_admits_182 ?_
        refine lv_bipush (v := zI 6) hx hb wdX4_admits_185 (by decide) ?_
        refine g_iald F w (a := (ru + 1)) (kd_r1 hku) (j := 6) ⟨by decide, by decide⟩ (by omega) wdX4_admits_187 ?_
        refine r_val (v := (zI (P 6))) (hU 6 (by decide)) ?_
        refine lv_iconst (v := zI 1) hx hb wdX4_admits_188 rfl ?_
        refine z_icmp_ne (tgt := 196) hx hb (by omega) (by omega) wdX4_admits_189 (by decide) (fun c13 => ?_) (fun c13 => ?_)
        · refine lv_iconst (v := zI 0) hx hb wdX4_admits_196 rfl ?_
          refine z_icmp_eq (tgt := 204) hx hb (by omega) (by omega) wdX4_admits_197 (by decide) (fun c14 => ?_) (fun c14 => False.elim (by omega))
          refine lv_iconst (v := zI 0) hx hb wdX4_admits_204 rfl ?_
          exact e_z F w hr hlocks (nar_z (by omega)) ⟨Or.inr ⟨ad_n2 (by omega) hts (by omega), rfl⟩, rfl⟩ wdX4_admits_205
        · refine lv_iconst (v := zI 1) hx hb wdX4_admits_192 rfl ?_
          refine lv_goto (tgt := 197) hx hb wdX4_admits_193 (by decide) ?_
          refine z_icmp_eq (tgt := 204) hx hb (by omega) (by omega) wdX4_admits_197 (by decide) (fun c15 => False.elim (by omega)) (fun c15 => ?_)
          refine lv_iconst (v := zI 1) hx hb wdX4_admits_200 rfl ?_
          refine lv_goto (tgt := 205) hx hb wdX4_admits_201 (by decide) ?_
          exact e_z F w hr hlocks (nar_z (by omega)) ⟨Or.inl ⟨ad_y2 hts (by omega), rfl⟩, rfl⟩ wdX4_admits_205
      · refine lv_iload_n hx hb wdX4_admits_77 rfl (lv_at hl 0 rfl) ?_
        refine x_Ni F w (As := [.int (zI (((o.2.2 t) : Nat) : Int))]) (rest := []) (s_X11_highest (m9 := (o.2.2 t)) (by omega)) wgc_X11_highest wtb_5 wtb_7 (by decide) whs_X11_highest ⟨(Nat.le_of_ble_eq_true rfl), (Nat.le_of_ble_eq_true rfl)⟩ hl.1 rfl (Nat.le_of_ble_eq_true rfl) ⟨Nat.zero_le _, Nat.zero_le _⟩ wdX4_admits_78 (fun H locs w => ?_)
        have hw15 := higI_rg (o.2.2 t) (by omega)
        refine lv_aload_n hx hb wdX4_admits_81 rfl (lv_at hl 2 rfl) ?_
        refine f_9_1 F w (a := a) hk wtb_8 wdX4_admits_82 ?_
        refine r_val (v := (zI (q : Int))) (hW.2.1) ?_
        refine lv_iconst (v := zI 1) hx hb wdX4_admits_85 rfl ?_
        refine z_isub (z := ((q : Int) - 1)) hx hb wdX4_admits_86 (by omega) ?_
        refine z_icmp_ne (tgt := 94) hx hb (by omega) (by omega) wdX4_admits_87 (by decide) (fun c17 => ?_) (fun c17 => ?_)
        · refine lv_iconst (v := zI 0) hx hb wdX4_admits_94 rfl ?_
          have hts : ¬ tsP P q hv o t := fun h9 => absurd ((ts_1 (by omega)).mp h9) (by omega)
          refine lv_istore (lv' := [(4, .int (zI 0)), (3, .int (zI (((o.2.2 t) : Nat) : Int))), (0, .ref (B + ru)), (1, .ref (B + a)), (2, .int (zI (t : Int)))]) hx hb wdX4_admits_95 hl (by decide) rfl (fun ls hl => ?_)
          refine lv_goto (tgt := 179) hx hb wdX4_admits_97 (by decide) ?_
          refine lv_iload hx hb wdX4_admits_179 (lv_at hl 0 rfl) ?_
          refine lv_aload_n hx hb wdX4_admits_181 rfl (lv_at hl 2 rfl) ?_
          refine f_4_0 F w (a := ru) hku wtb_4 wdX4_admits_182 ?_
          refine lv_bipush (v := zI 6) hx hb wdX4_admits_185 (by decide) ?_
          refine g_iald F w (a := (ru + 1)) (kd_r1 hku) (j := 6) ⟨by decide, by decide⟩ (by omega) wdX4_admits_187 ?_
          refine r_val (v := (zI (P 6))) (hU 6 (by decide)) ?_
          refine lv_iconst (v := zI 1) hx hb wdX4_admits_188 rfl ?_
          refine z_icmp_ne (tgt := 196) hx hb (by omega) (by omega) wdX4_admits_189 (by decide) (fun c18 => ?_) (fun c18 => ?_)
          · refine lv_iconst (v := zI 0) hx hb wdX4_admits_196 rfl ?_
            refine z_icmp_eq (tgt := 204) hx hb (by omega) (by omega) wdX4_admits_197 (by decide) (fun c19 => ?_) (fun c19 => False.elim (by omega))
            refine lv_iconst (v := zI 0) hx hb wdX4_admits_204 rfl ?_
            exact e_z F w hr hlocks (nar_z (by omega)) ⟨Or.inr ⟨ad_n2 (by omega) hts (by omega), rfl⟩, rfl⟩ wdX4_admits_205
          · refine lv_iconst (v := zI 1) hx hb wdX4_admits_192 rfl ?_
            refine lv_goto (tgt := 197) hx hb wdX4_admits_193 (by decide) ?_
            refine z_icmp_eq (tgt := 204) hx hb (by omega) (by omega) wdX4_admits_197 (by decide) (fun c20 => False.elim (by omega)) (fun c20 => ?_)
            refine lv_iconst (v := zI 1) hx hb wdX4_admits_200 rfl ?_
            refine lv_goto (tgt := 205) hx hb wdX4_admits_201 (by decide) ?_
            exact e_z F w hr hlocks (nar_z (by omega)) ⟨Or.inl ⟨ad_y2 hts (by omega), rfl⟩, rfl⟩ wdX4_admits_205
        · refine lv_iconst (v := zI 1) hx hb wdX4_admits_90 rfl ?_
          refine lv_goto (tgt := 95) hx hb wdX4_admits_91 (by decide) ?_
          have hts :  tsP P q hv o t := (ts_1 (by omega)).mpr (by omega)
          refine lv_istore (lv' := [(4, .int (zI 1)), (3, .int (zI (((o.2.2 t) : Nat) : Int))), (0, .ref (B + ru)), (1, .ref (B + a)), (2, .int (zI (t : Int)))]) hx hb wdX4_admits_95 hl (by decide) rfl (fun ls hl => ?_)
          refine lv_goto (tgt := 179) hx hb wdX4_admits_97 (by decide) ?_
          refine lv_iload hx hb wdX4_admits_179 (lv_at hl 0 rfl) ?_
          refine lv_aload_n hx hb wdX4_admits_181 rfl (lv_at hl 2 rfl) ?_
          refine f_4_0 F w (a := ru) hku wtb_4 wdX4_admits_182 ?_
          refine lv_bipush (v := zI 6) hx hb wdX4_admits_185 (by decide) ?_
          refine g_iald F w (a := (ru + 1)) (kd_r1 hku) (j := 6) ⟨by decide, by decide⟩ (by omega) wdX4_admits_187 ?_
          refine r_val (v := (zI (P 6))) (hU 6 (by decide)) ?_
          refine lv_iconst (v := zI 1) hx hb wdX4_admits_188 rfl ?_
          refine z_icmp_ne (tgt := 196) hx hb (by omega) (by omega) wdX4_admits_189 (by decide) (fun c21 => ?_) (fun c21 => ?_)
          · refine lv_iconst (v := zI 0) hx hb wdX4_admits_196 rfl ?_
            refine z_icmp_eq (tgt := 204) hx hb (by omega) (by omega) wdX4_admits_197 (by decide) (fun c22 => False.elim (by omega)) (fun c22 => ?_)
            refine lv_iconst (v := zI 1) hx hb wdX4_admits_200 rfl ?_
            refine lv_goto (tgt := 205) hx hb wdX4_admits_201 (by decide) ?_
            exact e_z F w hr hlocks (nar_z (by omega)) ⟨Or.inl ⟨ad_y hts (by omega), rfl⟩, rfl⟩ wdX4_admits_205
          · refine lv_iconst (v := zI 1) hx hb wdX4_admits_192 rfl ?_
            refine lv_goto (tgt := 197) hx hb wdX4_admits_193 (by decide) ?_
            refine z_icmp_eq (tgt := 204) hx hb (by omega) (by omega) wdX4_admits_197 (by decide) (fun c23 => ?_) (fun c23 => False.elim (by omega))
            refine lv_iconst (v := zI 0) hx hb wdX4_admits_204 rfl ?_
            exact e_z F w hr hlocks (nar_z (by omega)) ⟨Or.inr ⟨ad_n (by omega) hts (by omega), rfl⟩, rfl⟩ wdX4_admits_205
    · refine r_val (v := zI 2) (congrArg zI c3) ?_
      refine lv_tableIn (tgt := 100) hx hb wdX4_admits_12 (by decide) (by decide) (off := 88) rfl (by decide) ?_
      refine lv_aload_n hx hb wdX4_admits_100 rfl (lv_at hl 2 rfl) ?_
      refine lv_iload_n hx hb wdX4_admits_101 rfl (lv_at hl 0 rfl) ?_
      refine x_Ni F w (As := [.int (zI (((o.2.2 t) : Nat) : Int))]) (rest := [.ref (B + a)]) (s_X11_highest (m9 := (o.2.2 t)) (by omega)) wgc_X11_highest wtb_5 wtb_7 (by decide) whs_X11_highest ⟨(Nat.le_of_ble_eq_true rfl), (Nat.le_of_ble_eq_true rfl)⟩ hl.1 rfl (Nat.le_of_ble_eq_true rfl) ⟨Nat.zero_le _, Nat.zero_le _⟩ wdX4_admits_102 (fun H locs w => ?_)
      have hw23 := higI_rg (o.2.2 t) (by omega)
      refine k_Vi F w (As := [.int (zI (higI (o.2.2 t)))]) (rest := []) (a := a) (kd_lt (a := a) hk (by decide)) (sh_9 hk _ _) rfl (s_X9_isHeavy hk hW hwf (by omega)) wgv_X4_43 whv_X9_isHeavy ⟨(Nat.le_of_ble_eq_true rfl), (Nat.le_of_ble_eq_true rfl)⟩ hl.1 rfl (Nat.le_of_ble_eq_true rfl) ⟨Nat.zero_le _, Nat.zero_le _⟩ wdX4_admits_105 (fun r Ma25 H locs hp w => ?_)
      rcases hp with ⟨⟨k7, e7, h7, b7, rfl⟩ | ⟨nh7, rfl⟩, hMe⟩
      · rw [hMe] at w
        have hts :  tsP P q hv o t := (ts_2 (by omega)).mpr ⟨k7, e7, h7, b7⟩
        refine lv_istore (lv' := [(4, .int (zI 1)), (3, .int (zI (((o.2.2 t) : Nat) : Int))), (0, .ref (B + ru)), (1, .ref (B + a)), (2, .int (zI (t : Int)))]) hx hb wdX4_admits_108 hl (by decide) rfl (fun ls hl => ?_)
        refine lv_goto (tgt := 179) hx hb wdX4_admits_110 (by decide) ?_
        refine lv_iload hx hb wdX4_admits_179 (lv_at hl 0 rfl) ?_
        refine lv_aload_n hx hb wdX4_admits_181 rfl (lv_at hl 2 rfl) ?_
        refine f_4_0 F w (a := ru) hku wtb_4 wdX4_admits_182 ?_
        refine lv_bipush (v := zI 6) hx hb wdX4_admits_185 (by decide) ?_
        refine g_iald F w (a := (ru + 1)) (kd_r1 hku) (j := 6) ⟨by decide, by decide⟩ (by omega) wdX4_admits_187 ?_
        refine r_val (v := (zI (P 6))) (hU 6 (by decide)) ?_
        refine lv_iconst (v := zI 1) hx hb wdX4_admits_188 rfl ?_
        refine z_icmp_ne (tgt := 196) hx hb (by omega) (by omega) wdX4_admits_189 (by decide) (fun c26 => ?_) (fun c26 => ?_)
        · refine lv_iconst (v := zI 0) hx hb wdX4_admits_196 rfl ?_
          refine z_icmp_eq (tgt := 204) hx hb (by omega) (by omega) wdX4_admits_197 (by decide) (fun c27 => False.elim (by omega)) (fun c27 => ?_)
          refine lv_iconst (v := zI 1) hx hb wdX4_admits_200 rfl ?_
          refine lv_goto (tgt := 205) hx hb wdX4_admits_201 (by decide) ?_
          exact e_z F w hr hlocks (nar_z (by omega)) ⟨Or.inl ⟨ad_y hts (by omega), rfl⟩, rfl⟩ wdX4_admits_205
        · refine lv_iconst (v := zI 1) hx hb wdX4_admits_192 rfl ?_
          refine lv_goto (tgt := 197) hx hb wdX4_admits_193 (by decide) ?_
          refine z_icmp_eq (tgt := 204) hx hb (by omega) (by omega) wdX4_admits_197 (by decide) (fun c28 => ?_) (fun c28 => False.elim (by omega))
          refine lv_iconst (v := zI 0) hx hb wdX4_admits_204 rfl ?_
          exact e_z F w hr hlocks (nar_z (by omega)) ⟨Or.inr ⟨ad_n (by omega) hts (by omega), rfl⟩, rfl⟩ wdX4_admits_205
      · rw [hMe] at w
        have hts : ¬ tsP P q hv o t := fun h9 => nh7 ((ts_2 (by omega)).mp h9)
        refine lv_istore (lv' := [(4, .int (zI 0)), (3, .int (zI (((o.2.2 t) : Nat) : Int))), (0, .ref (B + ru)), (1, .ref (B + a)), (2, .int (zI (t : Int)))]) hx hb wdX4_admits_108 hl (by decide) rfl (fun ls hl => ?_)
        refine lv_goto (tgt := 179) hx hb wdX4_admits_110 (by decide) ?_
        refine lv_iload hx hb wdX4_admits_179 (lv_at hl 0 rfl) ?_
        refine lv_aload_n hx hb wdX4_admits_181 rfl (lv_at hl 2 rfl) ?_
        refine f_4_0 F w (a := ru) hku wtb_4 wdX4_admits_182 ?_
        refine lv_bipush (v := zI 6) hx hb wdX4_admits_185 (by decide) ?_
        refine g_iald F w (a := (ru + 1)) (kd_r1 hku) (j := 6) ⟨by decide, by decide⟩ (by omega) wdX4_admits_187 ?_
        refine r_val (v := (zI (P 6))) (hU 6 (by decide)) ?_
        refine lv_iconst (v := zI 1) hx hb wdX4_admits_188 rfl ?_
        refine z_icmp_ne (tgt := 196) hx hb (by omega) (by omega) wdX4_admits_189 (by decide) (fun c29 => ?_) (fun c29 => ?_)
        · refine lv_iconst (v := zI 0) hx hb wdX4_admits_196 rfl ?_
          refine z_icmp_eq (tgt := 204) hx hb (by omega) (by omega) wdX4_admits_197 (by decide) (fun c30 => ?_) (fun c30 => False.elim (by omega))
          refine lv_iconst (v := zI 0) hx hb wdX4_admits_204 rfl ?_
          exact e_z F w hr hlocks (nar_z (by omega)) ⟨Or.inr ⟨ad_n2 (by omega) hts (by omega), rfl⟩, rfl⟩ wdX4_admits_205
        · refine lv_iconst (v := zI 1) hx hb wdX4_admits_192 rfl ?_
          refine lv_goto (tgt := 197) hx hb wdX4_admits_193 (by decide) ?_
          refine z_icmp_eq (tgt := 204) hx hb (by omega) (by omega) wdX4_admits_197 (by decide) (fun c31 => False.elim (by omega)) (fun c31 => ?_)
          refine lv_iconst (v := zI 1) hx hb wdX4_admits_200 rfl ?_
          refine lv_goto (tgt := 205) hx hb wdX4_admits_201 (by decide) ?_
          exact e_z F w hr hlocks (nar_z (by omega)) ⟨Or.inl ⟨ad_y2 hts (by omega), rfl⟩, rfl⟩ wdX4_admits_205
    · refine r_val (v := zI 3) (congrArg zI c3) ?_
      refine lv_tableIn (tgt := 113) hx hb wdX4_admits_12 (by decide) (by decide) (off := 101) rfl (by decide) ?_
      refine lv_iload_n hx hb wdX4_admits_113 rfl (lv_at hl 0 rfl) ?_
      refine x_Si F w (As := [.int (zI (((o.2.2 t) : Nat) : Int))]) (rest := []) (s_bitCountN (m := (o.2.2 t)) (by omega)) wgs_X4_47 whs_J6_bitCount_0f7a4 ⟨(Nat.le_of_ble_eq_true rfl), (Nat.le_of_ble_eq_true rfl)⟩ hl.1 rfl (Nat.le_of_ble_eq_true rfl) ⟨Nat.zero_le _, Nat.zero_le _⟩ wdX4_admits_114 (fun H locs w => ?_)
      have hp31 := (pop_le (o.2.2 t) (by omega)).1
      refine lv_iconst (v := zI 2) hx hb wdX4_admits_117 rfl ?_
      refine z_icmp_lt (tgt := 125) hx hb (by omega) (by omega) wdX4_admits_118 (by decide) (fun c33 => ?_) (fun c33 => ?_)
      · refine lv_iconst (v := zI 0) hx hb wdX4_admits_125 rfl ?_
        have hts : ¬ tsP P q hv o t := fun h9 => absurd ((ts_3 (by omega)).mp h9) (by omega)
        refine lv_istore (lv' := [(4, .int (zI 0)), (3, .int (zI (((o.2.2 t) : Nat) : Int))), (0, .ref (B + ru)), (1, .ref (B + a)), (2, .int (zI (t : Int)))]) hx hb wdX4_admits_126 hl (by decide) rfl (fun ls hl => ?_)
        refine lv_goto (tgt := 179) hx hb wdX4_admits_128 (by decide) ?_
        refine lv_iload hx hb wdX4_admits_179 (lv_at hl 0 rfl) ?_
        refine lv_aload_n hx hb wdX4_admits_181 rfl (lv_at hl 2 rfl) ?_
        refine f_4_0 F w (a := ru) hku wtb_4 wdX4_admits_182 ?_
        refine lv_bipush (v := zI 6) hx hb wdX4_admits_185 (by decide) ?_
        refine g_iald F w (a := (ru + 1)) (kd_r1 hku) (j := 6) ⟨by decide, by decide⟩ (by omega) wdX4_admits_187 ?_
        refine r_val (v := (zI (P 6))) (hU 6 (by decide)) ?_
        refine lv_iconst (v := zI 1) hx hb wdX4_admits_188 rfl ?_
        refine z_icmp_ne (tgt := 196) hx hb (by omega) (by omega) wdX4_admits_189 (by decide) (fun c34 => ?_) (fun c34 => ?_)
        · refine lv_iconst (v := zI 0) hx hb wdX4_admits_196 rfl ?_
          refine z_icmp_eq (tgt := 204) hx hb (by omega) (by omega) wdX4_admits_197 (by decide) (fun c35 => ?_) (fun c35 => False.elim (by omega))
          refine lv_iconst (v := zI 0) hx hb wdX4_admits_204 rfl ?_
          exact e_z F w hr hlocks (nar_z (by omega)) ⟨Or.inr ⟨ad_n2 (by omega) hts (by omega), rfl⟩, rfl⟩ wdX4_admits_205
        · refine lv_iconst (v := zI 1) hx hb wdX4_admits_192 rfl ?_
          refine lv_goto (tgt := 197) hx hb wdX4_admits_193 (by decide) ?_
          refine z_icmp_eq (tgt := 204) hx hb (by omega) (by omega) wdX4_admits_197 (by decide) (fun c36 => False.elim (by omega)) (fun c36 => ?_)
          refine lv_iconst (v := zI 1) hx hb wdX4_admits_200 rfl ?_
          refine lv_goto (tgt := 205) hx hb wdX4_admits_201 (by decide) ?_
          exact e_z F w hr hlocks (nar_z (by omega)) ⟨Or.inl ⟨ad_y2 hts (by omega), rfl⟩, rfl⟩ wdX4_admits_205
      · refine lv_iconst (v := zI 1) hx hb wdX4_admits_121 rfl ?_
        refine lv_goto (tgt := 126) hx hb wdX4_admits_122 (by decide) ?_
        have hts :  tsP P q hv o t := (ts_3 (by omega)).mpr (by omega)
        refine lv_istore (lv' := [(4, .int (zI 1)), (3, .int (zI (((o.2.2 t) : Nat) : Int))), (0, .ref (B + ru)), (1, .ref (B + a)), (2, .int (zI (t : Int)))]) hx hb wdX4_admits_126 hl (by decide) rfl (fun ls hl => ?_)
        refine lv_goto (tgt := 179) hx hb wdX4_admits_128 (by decide) ?_
        refine lv_iload hx hb wdX4_admits_179 (lv_at hl 0 rfl) ?_
        refine lv_aload_n hx hb wdX4_admits_181 rfl (lv_at hl 2 rfl) ?_
        refine f_4_0 F w (a := ru) hku wtb_4 wdX4_admits_182 ?_
        refine lv_bipush (v := zI 6) hx hb wdX4_admits_185 (by decide) ?_
        refine g_iald F w (a := (ru + 1)) (kd_r1 hku) (j := 6) ⟨by decide, by decide⟩ (by omega) wdX4_admits_187 ?_
        refine r_val (v := (zI (P 6))) (hU 6 (by decide)) ?_
        refine lv_iconst (v := zI 1) hx hb wdX4_admits_188 rfl ?_
        refine z_icmp_ne (tgt := 196) hx hb (by omega) (by omega) wdX4_admits_189 (by decide) (fun c37 => ?_) (fun c37 => ?_)
        · refine lv_iconst (v := zI 0) hx hb wdX4_admits_196 rfl ?_
          refine z_icmp_eq (tgt := 204) hx hb (by omega) (by omega) wdX4_admits_197 (by decide) (fun c38 => False.elim (by omega)) (fun c38 => ?_)
          refine lv_iconst (v := zI 1) hx hb wdX4_admits_200 rfl ?_
          refine lv_goto (tgt := 205) hx hb wdX4_admits_201 (by decide) ?_
          exact e_z F w hr hlocks (nar_z (by omega)) ⟨Or.inl ⟨ad_y hts (by omega), rfl⟩, rfl⟩ wdX4_admits_205
        · refine lv_iconst (v := zI 1) hx hb wdX4_admits_192 rfl ?_
          refine lv_goto (tgt := 197) hx hb wdX4_admits_193 (by decide) ?_
          refine z_icmp_eq (tgt := 204) hx hb (by omega) (by omega) wdX4_admits_197 (by decide) (fun c39 => ?_) (fun c39 => False.elim (by omega))
          refine lv_iconst (v := zI 0) hx hb wdX4_admits_204 rfl ?_
          exact e_z F w hr hlocks (nar_z (by omega)) ⟨Or.inr ⟨ad_n (by omega) hts (by omega), rfl⟩, rfl⟩ wdX4_admits_205
    · refine r_val (v := zI 4) (congrArg zI c3) ?_
      refine lv_tableIn (tgt := 131) hx hb wdX4_admits_12 (by decide) (by decide) (off := 119) rfl (by decide) ?_
      refine lv_iload_n hx hb wdX4_admits_131 rfl (lv_at hl 0 rfl) ?_
      refine z_if_ne (tgt := 139) hx hb (by omega) wdX4_admits_132 (by decide) (fun c40 => ?_) (fun c40 => ?_)
      · refine lv_iconst (v := zI 0) hx hb wdX4_admits_139 rfl ?_
        have hts : ¬ tsP P q hv o t := fun h9 => absurd ((ts_4 (by omega)).mp h9) (by omega)
        refine lv_istore (lv' := [(4, .int (zI 0)), (3, .int (zI (((o.2.2 t) : Nat) : Int))), (0, .ref (B + ru)), (1, .ref (B + a)), (2, .int (zI (t : Int)))]) hx hb wdX4_admits_140 hl (by decide) rfl (fun ls hl => ?_)
        refine lv_goto (tgt := 179) hx hb wdX4_admits_142 (by decide) ?_
        refine lv_iload hx hb wdX4_admits_179 (lv_at hl 0 rfl) ?_
        refine lv_aload_n hx hb wdX4_admits_181 rfl (lv_at hl 2 rfl) ?_
        refine f_4_0 F w (a := ru) hku wtb_4 wdX4_admits_182 ?_
        refine lv_bipush (v := zI 6) hx hb wdX4_admits_185 (by decide) ?_
        refine g_iald F w (a := (ru + 1)) (kd_r1 hku) (j := 6) ⟨by decide, by decide⟩ (by omega) wdX4_admits_187 ?_
        refine r_val (v := (zI (P 6))) (hU 6 (by decide)) ?_
        refine lv_iconst (v := zI 1) hx hb wdX4_admits_188 rfl ?_
        refine z_icmp_ne (tgt := 196) hx hb (by omega) (by omega) wdX4_admits_189 (by decide) (fun c41 => ?_) (fun c41 => ?_)
        · refine lv_iconst (v := zI 0) hx hb wdX4_admits_196 rfl ?_
          refine z_icmp_eq (tgt := 204) hx hb (by omega) (by omega) wdX4_admits_197 (by decide) (fun c42 => ?_) (fun c42 => False.elim (by omega))
          refine lv_iconst (v := zI 0) hx hb wdX4_admits_204 rfl ?_
          exact e_z F w hr hlocks (nar_z (by omega)) ⟨Or.inr ⟨ad_n2 (by omega) hts (by omega), rfl⟩, rfl⟩ wdX4_admits_205
        · refine lv_iconst (v := zI 1) hx hb wdX4_admits_192 rfl ?_
          refine lv_goto (tgt := 197) hx hb wdX4_admits_193 (by decide) ?_
          refine z_icmp_eq (tgt := 204) hx hb (by omega) (by omega) wdX4_admits_197 (by decide) (fun c43 => False.elim (by omega)) (fun c43 => ?_)
          refine lv_iconst (v := zI 1) hx hb wdX4_admits_200 rfl ?_
          refine lv_goto (tgt := 205) hx hb wdX4_admits_201 (by decide) ?_
          exact e_z F w hr hlocks (nar_z (by omega)) ⟨Or.inl ⟨ad_y2 hts (by omega), rfl⟩, rfl⟩ wdX4_admits_205
      · refine lv_iconst (v := zI 1) hx hb wdX4_admits_135 rfl ?_
        refine lv_goto (tgt := 140) hx hb wdX4_admits_136 (by decide) ?_
        have hts :  tsP P q hv o t := (ts_4 (by omega)).mpr (by omega)
        refine lv_istore (lv' := [(4, .int (zI 1)), (3, .int (zI (((o.2.2 t) : Nat) : Int))), (0, .ref (B + ru)), (1, .ref (B + a)), (2, .int (zI (t : Int)))]) hx hb wdX4_admits_140 hl (by decide) rfl (fun ls hl => ?_)
        refine lv_goto (tgt := 179) hx hb wdX4_admits_142 (by decide) ?_
        refine lv_iload hx hb wdX4_admits_179 (lv_at hl 0 rfl) ?_
        refine lv_aload_n hx hb wdX4_admits_181 rfl (lv_at hl 2 rfl) ?_
        refine f_4_0 F w (a := ru) hku wtb_4 wdX4_admits_182 ?_
        refine lv_bipush (v := zI 6) hx hb wdX4_admits_185 (by decide) ?_
        refine g_iald F w (a := (ru + 1)) (kd_r1 hku) (j := 6) ⟨by decide, by decide⟩ (by omega) wdX4_admits_187 ?_
        refine r_val (v := (zI (P 6))) (hU 6 (by decide)) ?_
        refine lv_iconst (v := zI 1) hx hb wdX4_admits_188 rfl ?_
        refine z_icmp_ne (tgt := 196) hx hb (by omega) (by omega) wdX4_admits_189 (by decide) (fun c44 => ?_) (fun c44 => ?_)
        · refine lv_iconst (v := zI 0) hx hb wdX4_admits_196 rfl ?_
          refine z_icmp_eq (tgt := 204) hx hb (by omega) (by omega) wdX4_admits_197 (by decide) (fun c45 => False.elim (by omega)) (fun c45 => ?_)
          refine lv_iconst (v := zI 1) hx hb wdX4_admits_200 rfl ?_
          refine lv_goto (tgt := 205) hx hb wdX4_admits_201 (by decide) ?_
          exact e_z F w hr hlocks (nar_z (by omega)) ⟨Or.inl ⟨ad_y hts (by omega), rfl⟩, rfl⟩ wdX4_admits_205
        · refine lv_iconst (v := zI 1) hx hb wdX4_admits_192 rfl ?_
          refine lv_goto (tgt := 197) hx hb wdX4_admits_193 (by decide) ?_
          refine z_icmp_eq (tgt := 204) hx hb (by omega) (by omega) wdX4_admits_197 (by decide) (fun c46 => ?_) (fun c46 => False.elim (by omega))
          refine lv_iconst (v := zI 0) hx hb wdX4_admits_204 rfl ?_
          exact e_z F w hr hlocks (nar_z (by omega)) ⟨Or.inr ⟨ad_n (by omega) hts (by omega), rfl⟩, rfl⟩ wdX4_admits_205
    · refine r_val (v := zI 5) (congrArg zI c3) ?_
      refine lv_tableIn (tgt := 145) hx hb wdX4_admits_12 (by decide) (by decide) (off := 133) rfl (by decide) ?_
      refine lv_aload_n hx hb wdX4_admits_145 rfl (lv_at hl 1 rfl) ?_
      refine lv_aload_n hx hb wdX4_admits_146 rfl (lv_at hl 2 rfl) ?_
      refine lv_iload_n hx hb wdX4_admits_147 rfl (lv_at hl 3 rfl) ?_
      refine lv_iconst (v := zI 1) hx hb wdX4_admits_148 rfl ?_
      refine z_iadd (z := (((t + 1) : Nat) : Int)) hx hb wdX4_admits_149 (by omega) ?_
      refine k_Vi F w (As := [.int (zI (((t + 1) : Nat) : Int))]) (rest := [.ref (B + ru)]) (a := a) (kd_lt (a := a) hk (by decide)) (sh_9 hk _ _) rfl (s_X9_kindOf hk hW hwf (by omega)) wgv_X4_52 whv_X9_kindOf ⟨(Nat.le_of_ble_eq_true rfl), (Nat.le_of_ble_eq_true rfl)⟩ hl.1 rfl (Nat.le_of_ble_eq_true rfl) ⟨Nat.zero_le _, Nat.zero_le _⟩ wdX4_admits_150 (fun r Ma48 H locs hp w => ?_)
      rcases hp with ⟨⟨k47, ek47, hk47, rfl⟩ | ⟨nk47, rfl⟩, hMe⟩
      · obtain rfl : (t + 1) = k47 := by omega
        rw [hMe] at w
        have gk47 := (hKL (t + 1) (by omega)).1
        refine k_Vi F w (As := [.int (zI (((o.2.1 (t + 1)) : Nat) : Int))]) (rest := []) (a := ru) (kd_lt (a := ru) hku (by decide)) (sh_4 hku _ _) rfl (s_X4_isTestKind hku hU hP (z := (((o.2.1 (t + 1)) : Nat) : Int)) (by omega)) wgv_X4_55 whv_X4_isTestKind ⟨(Nat.le_of_ble_eq_true rfl), (Nat.le_of_ble_eq_true rfl)⟩ hl.1 rfl (Nat.le_of_ble_eq_true rfl) ⟨Nat.zero_le _, Nat.zero_le _⟩ wdX4_admits_153 (fun r Ma50 H locs hp w => ?_)
        rcases hp with ⟨⟨hb49, rfl⟩ | ⟨hb49, rfl⟩, hMe⟩
        · rw [hMe] at w
          have hts :  tsP P q hv o t := (ts_5 (by omega)).mpr (by omega)
          refine lv_istore (lv' := [(4, .int (zI 1)), (3, .int (zI (((o.2.2 t) : Nat) : Int))), (0, .ref (B + ru)), (1, .ref (B + a)), (2, .int (zI (t : Int)))]) hx hb wdX4_admits_156 hl (by decide) rfl (fun ls hl => ?_)
          refine lv_goto (tgt := 179) hx hb wdX4_admits_158 (by decide) ?_
          refine lv_iload hx hb wdX4_admits_179 (lv_at hl 0 rfl) ?_
          refine lv_aload_n hx hb wdX4_admits_181 rfl (lv_at hl 2 rfl) ?_
          refine f_4_0 F w (a := ru) hku wtb_4 wdX4_admits_182 ?_
          refine lv_bipush (v := zI 6) hx hb wdX4_admits_185 (by decide) ?_
          refine g_iald F w (a := (ru + 1)) (kd_r1 hku) (j := 6) ⟨by decide, by decide⟩ (by omega) wdX4_admits_187 ?_
          refine r_val (v := (zI (P 6))) (hU 6 (by decide)) ?_
          refine lv_iconst (v := zI 1) hx hb wdX4_admits_188 rfl ?_
          refine z_icmp_ne (tgt := 196) hx hb (by omega) (by omega) wdX4_admits_189 (by decide) (fun c51 => ?_) (fun c51 => ?_)
          · refine lv_iconst (v := zI 0) hx hb wdX4_admits_196 rfl ?_
            refine z_icmp_eq (tgt := 204) hx hb (by omega) (by omega) wdX4_admits_197 (by decide) (fun c52 => False.elim (by omega)) (fun c52 => ?_)
            refine lv_iconst (v := zI 1) hx hb wdX4_admits_200 rfl ?_
            refine lv_goto (tgt := 205) hx hb wdX4_admits_201 (by decide) ?_
            exact e_z F w hr hlocks (nar_z (by omega)) ⟨Or.inl ⟨ad_y hts (by omega), rfl⟩, rfl⟩ wdX4_admits_205
          · refine lv_iconst (v := zI 1) hx hb wdX4_admits_192 rfl ?_
            refine lv_goto (tgt := 197) hx hb wdX4_admits_193 (by decide) ?_
            refine z_icmp_eq (tgt := 204) hx hb (by omega) (by omega) wdX4_admits_197 (by decide) (fun c53 => ?_) (fun c53 => False.elim (by omega))
            refine lv_iconst (v := zI 0) hx hb wdX4_admits_204 rfl ?_
            exact e_z F w hr hlocks (nar_z (by omega)) ⟨Or.inr ⟨ad_n (by omega) hts (by omega), rfl⟩, rfl⟩ wdX4_admits_205
        · rw [hMe] at w
          have hts : ¬ tsP P q hv o t := fun h9 => absurd ((ts_5 (by omega)).mp h9) (by omega)
          refine lv_istore (lv' := [(4, .int (zI 0)), (3, .int (zI (((o.2.2 t) : Nat) : Int))), (0, .ref (B + ru)), (1, .ref (B + a)), (2, .int (zI (t : Int)))]) hx hb wdX4_admits_156 hl (by decide) rfl (fun ls hl => ?_)
          refine lv_goto (tgt := 179) hx hb wdX4_admits_158 (by decide) ?_
          refine lv_iload hx hb wdX4_admits_179 (lv_at hl 0 rfl) ?_
          refine lv_aload_n hx hb wdX4_admits_181 rfl (lv_at hl 2 rfl) ?_
          refine f_4_0 F w (a := ru) hku wtb_4 wdX4_admits_182 ?_
          refine lv_bipush (v := zI 6) hx hb wdX4_admits_185 (by decide) ?_
          refine g_iald F w (a := (ru + 1)) (kd_r1 hku) (j := 6) ⟨by decide, by decide⟩ (by omega) wdX4_admits_187 ?_
          refine r_val (v := (zI (P 6))) (hU 6 (by decide)) ?_
          refine lv_iconst (v := zI 1) hx hb wdX4_admits_188 rfl ?_
          refine z_icmp_ne (tgt := 196) hx hb (by omega) (by omega) wdX4_admits_189 (by decide) (fun c54 => ?_) (fun c54 => ?_)
          · refine lv_iconst (v := zI 0) hx hb wdX4_admits_196 rfl ?_
            refine z_icmp_eq (tgt := 204) hx hb (by omega) (by omega) wdX4_admits_197 (by decide) (fun c55 => ?_) (fun c55 => False.elim (by omega))
            refine lv_iconst (v := zI 0) hx hb wdX4_admits_204 rfl ?_
            exact e_z F w hr hlocks (nar_z (by omega)) ⟨Or.inr ⟨ad_n2 (by omega) hts (by omega), rfl⟩, rfl⟩ wdX4_admits_205
          · refine lv_iconst (v := zI 1) hx hb wdX4_admits_192 rfl ?_
            refine lv_goto (tgt := 197) hx hb wdX4_admits_193 (by decide) ?_
            refine z_icmp_eq (tgt := 204) hx hb (by omega) (by omega) wdX4_admits_197 (by decide) (fun c56 => False.elim (by omega)) (fun c56 => ?_)
            refine lv_iconst (v := zI 1) hx hb wdX4_admits_200 rfl ?_
            refine lv_goto (tgt := 205) hx hb wdX4_admits_201 (by decide) ?_
            exact e_z F w hr hlocks (nar_z (by omega)) ⟨Or.inl ⟨ad_y2 hts (by omega), rfl⟩, rfl⟩ wdX4_admits_205
      · rw [hMe] at w
        refine k_Vi F w (As := [.int (zI (-1))]) (rest := []) (a := ru) (kd_lt (a := ru) hku (by decide)) (sh_4 hku _ _) rfl (s_X4_isTestKind hku hU hP (z := (-1)) (by omega)) wgv_X4_55 whv_X4_isTestKind ⟨(Nat.le_of_ble_eq_true rfl), (Nat.le_of_ble_eq_true rfl)⟩ hl.1 rfl (Nat.le_of_ble_eq_true rfl) ⟨Nat.zero_le _, Nat.zero_le _⟩ wdX4_admits_153 (fun r Ma58 H locs hp w => ?_)
        rcases hp with ⟨⟨hb57, rfl⟩ | ⟨hb57, rfl⟩, hMe⟩
        · rw [hMe] at w
          have hts :  tsP P q hv o t := (ts_5 (by omega)).mpr (by omega)
          refine lv_istore (lv' := [(4, .int (zI 1)), (3, .int (zI (((o.2.2 t) : Nat) : Int))), (0, .ref (B + ru)), (1, .ref (B + a)), (2, .int (zI (t : Int)))]) hx hb wdX4_admits_156 hl (by decide) rfl (fun ls hl => ?_)
          refine lv_goto (tgt := 179) hx hb wdX4_admits_158 (by decide) ?_
          refine lv_iload hx hb wdX4_admits_179 (lv_at hl 0 rfl) ?_
          refine lv_aload_n hx hb wdX4_admits_181 rfl (lv_at hl 2 rfl) ?_
          refine f_4_0 F w (a := ru) hku wtb_4 wdX4_admits_182 ?_
          refine lv_bipush (v := zI 6) hx hb wdX4_admits_185 (by decide) ?_
          refine g_iald F w (a := (ru + 1)) (kd_r1 hku) (j := 6) ⟨by decide, by decide⟩ (by omega) wdX4_admits_187 ?_
          refine r_val (v := (zI (P 6))) (hU 6 (by decide)) ?_
          refine lv_iconst (v := zI 1) hx hb wdX4_admits_188 rfl ?_
          refine z_icmp_ne (tgt := 196) hx hb (by omega) (by omega) wdX4_admits_189 (by decide) (fun c59 => ?_) (fun c59 => ?_)
          · refine lv_iconst (v := zI 0) hx hb wdX4_admits_196 rfl ?_
            refine z_icmp_eq (tgt := 204) hx hb (by omega) (by omega) wdX4_admits_197 (by decide) (fun c60 => False.elim (by omega)) (fun c60 => ?_)
            refine lv_iconst (v := zI 1) hx hb wdX4_admits_200 rfl ?_
            refine lv_goto (tgt := 205) hx hb wdX4_admits_201 (by decide) ?_
            exact e_z F w hr hlocks (nar_z (by omega)) ⟨Or.inl ⟨ad_y hts (by omega), rfl⟩, rfl⟩ wdX4_admits_205
          · refine lv_iconst (v := zI 1) hx hb wdX4_admits_192 rfl ?_
            refine lv_goto (tgt := 197) hx hb wdX4_admits_193 (by decide) ?_
            refine z_icmp_eq (tgt := 204) hx hb (by omega) (by omega) wdX4_admits_197 (by decide) (fun c61 => ?_) (fun c61 => False.elim (by omega))
            refine lv_iconst (v := zI 0) hx hb wdX4_admits_204 rfl ?_
            exact e_z F w hr hlocks (nar_z (by omega)) ⟨Or.inr ⟨ad_n (by omega) hts (by omega), rfl⟩, rfl⟩ wdX4_admits_205
        · rw [hMe] at w
          have hts : ¬ tsP P q hv o t := fun h9 => absurd ((ts_5 (by omega)).mp h9) (by omega)
          refine lv_istore (lv' := [(4, .int (zI 0)), (3, .int (zI (((o.2.2 t) : Nat) : Int))), (0, .ref (B + ru)), (1, .ref (B + a)), (2, .int (zI (t : Int)))]) hx hb wdX4_admits_156 hl (by decide) rfl (fun ls hl => ?_)
          refine lv_goto (tgt := 179) hx hb wdX4_admits_158 (by decide) ?_
          refine lv_iload hx hb wdX4_admits_179 (lv_at hl 0 rfl) ?_
          refine lv_aload_n hx hb wdX4_admits_181 rfl (lv_at hl 2 rfl) ?_
          refine f_4_0 F w (a := ru) hku wtb_4 wdX4_admits_182 ?_
          refine lv_bipush (v := zI 6) hx hb wdX4_admits_185 (by decide) ?_
          refine g_iald F w (a := (ru + 1)) (kd_r1 hku) (j := 6) ⟨by decide, by decide⟩ (by omega) wdX4_admits_187 ?_
          refine r_val (v := (zI (P 6))) (hU 6 (by decide)) ?_
          refine lv_iconst (v := zI 1) hx hb wdX4_admits_188 rfl ?_
          refine z_icmp_ne (tgt := 196) hx hb (by omega) (by omega) wdX4_admits_189 (by decide) (fun c62 => ?_) (fun c62 => ?_)
          · refine lv_iconst (v := zI 0) hx hb wdX4_admits_196 rfl ?_
            refine z_icmp_eq (tgt := 204) hx hb (by omega) (by omega) wdX4_admits_197 (by decide) (fun c63 => ?_) (fun c63 => False.elim (by omega))
            refine lv_iconst (v := zI 0) hx hb wdX4_admits_204 rfl ?_
            exact e_z F w hr hlocks (nar_z (by omega)) ⟨Or.inr ⟨ad_n2 (by omega) hts (by omega), rfl⟩, rfl⟩ wdX4_admits_205
          · refine lv_iconst (v := zI 1) hx hb wdX4_admits_192 rfl ?_
            refine lv_goto (tgt := 197) hx hb wdX4_admits_193 (by decide) ?_
            refine z_icmp_eq (tgt := 204) hx hb (by omega) (by omega) wdX4_admits_197 (by decide) (fun c64 => False.elim (by omega)) (fun c64 => ?_)
            refine lv_iconst (v := zI 1) hx hb wdX4_admits_200 rfl ?_
            refine lv_goto (tgt := 205) hx hb wdX4_admits_201 (by decide) ?_
            exact e_z F w hr hlocks (nar_z (by omega)) ⟨Or.inl ⟨ad_y2 hts (by omega), rfl⟩, rfl⟩ wdX4_admits_205
    · refine r_val (v := zI 6) (congrArg zI c3) ?_
      refine lv_tableIn (tgt := 161) hx hb wdX4_admits_12 (by decide) (by decide) (off := 149) rfl (by decide) ?_
      refine lv_aload_n hx hb wdX4_admits_161 rfl (lv_at hl 1 rfl) ?_
      refine lv_aload_n hx hb wdX4_admits_162 rfl (lv_at hl 2 rfl) ?_
      refine lv_iload_n hx hb wdX4_admits_163 rfl (lv_at hl 3 rfl) ?_
      refine lv_iconst (v := zI 1) hx hb wdX4_admits_164 rfl ?_
      refine z_isub (z := ((t : Int) - 1)) hx hb wdX4_admits_165 (by omega) ?_
      refine k_Vi F w (As := [.int (zI ((t : Int) - 1))]) (rest := [.ref (B + ru)]) (a := a) (kd_lt (a := a) hk (by decide)) (sh_9 hk _ _) rfl (s_X9_kindOf hk hW hwf (by omega)) wgv_X4_52 whv_X9_kindOf ⟨(Nat.le_of_ble_eq_true rfl), (Nat.le_of_ble_eq_true rfl)⟩ hl.1 rfl (Nat.le_of_ble_eq_true rfl) ⟨Nat.zero_le _, Nat.zero_le _⟩ wdX4_admits_166 (fun r Ma66 H locs hp w => ?_)
      rcases hp with ⟨⟨k65, ek65, hk65, rfl⟩ | ⟨nk65, rfl⟩, hMe⟩
      · obtain rfl : (t - 1) = k65 := by omega
        rw [hMe] at w
        have gk65 := (hKL (t - 1) (by omega)).1
        refine k_Vi F w (As := [.int (zI (((o.2.1 (t - 1)) : Nat) : Int))]) (rest := []) (a := ru) (kd_lt (a := ru) hku (by decide)) (sh_4 hku _ _) rfl (s_X4_isTestKind hku hU hP (z := (((o.2.1 (t - 1)) : Nat) : Int)) (by omega)) wgv_X4_55 whv_X4_isTestKind ⟨(Nat.le_of_ble_eq_true rfl), (Nat.le_of_ble_eq_true rfl)⟩ hl.1 rfl (Nat.le_of_ble_eq_true rfl) ⟨Nat.zero_le _, Nat.zero_le _⟩ wdX4_admits_169 (fun r Ma68 H locs hp w => ?_)
        rcases hp with ⟨⟨hb67, rfl⟩ | ⟨hb67, rfl⟩, hMe⟩
        · rw [hMe] at w
          have hts :  tsP P q hv o t := (ts_6 (by omega)).mpr (by omega)
          refine lv_istore (lv' := [(4, .int (zI 1)), (3, .int (zI (((o.2.2 t) : Nat) : Int))), (0, .ref (B + ru)), (1, .ref (B + a)), (2, .int (zI (t : Int)))]) hx hb wdX4_admits_172 hl (by decide) rfl (fun ls hl => ?_)
          refine lv_goto (tgt := 179) hx hb wdX4_admits_174 (by decide) ?_
          refine lv_iload hx hb wdX4_admits_179 (lv_at hl 0 rfl) ?_
          refine lv_aload_n hx hb wdX4_admits_181 rfl (lv_at hl 2 rfl) ?_
          refine f_4_0 F w (a := ru) hku wtb_4 wdX4_admits_182 ?_
          refine lv_bipush (v := zI 6) hx hb wdX4_admits_185 (by decide) ?_
          refine g_iald F w (a := (ru + 1)) (kd_r1 hku) (j := 6) ⟨by decide, by decide⟩ (by omega) wdX4_admits_187 ?_
          refine r_val (v := (zI (P 6))) (hU 6 (by decide)) ?_
          refine lv_iconst (v := zI 1) hx hb wdX4_admits_188 rfl ?_
          refine z_icmp_ne (tgt := 196) hx hb (by omega) (by omega) wdX4_admits_189 (by decide) (fun c69 => ?_) (fun c69 => ?_)
          · refine lv_iconst (v := zI 0) hx hb wdX4_admits_196 rfl ?_
            refine z_icmp_eq (tgt := 204) hx hb (by omega) (by omega) wdX4_admits_197 (by decide) (fun c70 => False.elim (by omega)) (fun c70 => ?_)
            refine lv_iconst (v := zI 1) hx hb wdX4_admits_200 rfl ?_
            refine lv_goto (tgt := 205) hx hb wdX4_admits_201 (by decide) ?_
            exact e_z F w hr hlocks (nar_z (by omega)) ⟨Or.inl ⟨ad_y hts (by omega), rfl⟩, rfl⟩ wdX4_admits_205
          · refine lv_iconst (v := zI 1) hx hb wdX4_admits_192 rfl ?_
            refine lv_goto (tgt := 197) hx hb wdX4_admits_193 (by decide) ?_
            refine z_icmp_eq (tgt := 204) hx hb (by omega) (by omega) wdX4_admits_197 (by decide) (fun c71 => ?_) (fun c71 => False.elim (by omega))
            refine lv_iconst (v := zI 0) hx hb wdX4_admits_204 rfl ?_
            exact e_z F w hr hlocks (nar_z (by omega)) ⟨Or.inr ⟨ad_n (by omega) hts (by omega), rfl⟩, rfl⟩ wdX4_admits_205
        · rw [hMe] at w
          have hts : ¬ tsP P q hv o t := fun h9 => absurd ((ts_6 (by omega)).mp h9) (by omega)
          refine lv_istore (lv' := [(4, .int (zI 0)), (3, .int (zI (((o.2.2 t) : Nat) : Int))), (0, .ref (B + ru)), (1, .ref (B + a)), (2, .int (zI (t : Int)))]) hx hb wdX4_admits_172 hl (by decide) rfl (fun ls hl => ?_)
          refine lv_goto (tgt := 179) hx hb wdX4_admits_174 (by decide) ?_
          refine lv_iload hx hb wdX4_admits_179 (lv_at hl 0 rfl) ?_
          refine lv_aload_n hx hb wdX4_admits_181 rfl (lv_at hl 2 rfl) ?_
          refine f_4_0 F w (a := ru) hku wtb_4 wdX4_admits_182 ?_
          refine lv_bipush (v := zI 6) hx hb wdX4_admits_185 (by decide) ?_
          refine g_iald F w (a := (ru + 1)) (kd_r1 hku) (j := 6) ⟨by decide, by decide⟩ (by omega) wdX4_admits_187 ?_
          refine r_val (v := (zI (P 6))) (hU 6 (by decide)) ?_
          refine lv_iconst (v := zI 1) hx hb wdX4_admits_188 rfl ?_
          refine z_icmp_ne (tgt := 196) hx hb (by omega) (by omega) wdX4_admits_189 (by decide) (fun c72 => ?_) (fun c72 => ?_)
          · refine lv_iconst (v := zI 0) hx hb wdX4_admits_196 rfl ?_
            refine z_icmp_eq (tgt := 204) hx hb (by omega) (by omega) wdX4_admits_197 (by decide) (fun c73 => ?_) (fun c73 => False.elim (by omega))
            refine lv_iconst (v := zI 0) hx hb wdX4_admits_204 rfl ?_
            exact e_z F w hr hlocks (nar_z (by omega)) ⟨Or.inr ⟨ad_n2 (by omega) hts (by omega), rfl⟩, rfl⟩ wdX4_admits_205
          · refine lv_iconst (v := zI 1) hx hb wdX4_admits_192 rfl ?_
            refine lv_goto (tgt := 197) hx hb wdX4_admits_193 (by decide) ?_
            refine z_icmp_eq (tgt := 204) hx hb (by omega) (by omega) wdX4_admits_197 (by decide) (fun c74 => False.elim (by omega)) (fun c74 => ?_)
            refine lv_iconst (v := zI 1) hx hb wdX4_admits_200 rfl ?_
            refine lv_goto (tgt := 205) hx hb wdX4_admits_201 (by decide) ?_
            exact e_z F w hr hlocks (nar_z (by omega)) ⟨Or.inl ⟨ad_y2 hts (by omega), rfl⟩, rfl⟩ wdX4_admits_205
      · rw [hMe] at w
        refine k_Vi F w (As := [.int (zI (-1))]) (rest := []) (a := ru) (kd_lt (a := ru) hku (by decide)) (sh_4 hku _ _) rfl (s_X4_isTestKind hku hU hP (z := (-1)) (by omega)) wgv_X4_55 whv_X4_isTestKind ⟨(Nat.le_of_ble_eq_true rfl), (Nat.le_of_ble_eq_true rfl)⟩ hl.1 rfl (Nat.le_of_ble_eq_true rfl) ⟨Nat.zero_le _, Nat.zero_le _⟩ wdX4_admits_169 (fun r Ma76 H locs hp w => ?_)
        rcases hp with ⟨⟨hb75, rfl⟩ | ⟨hb75, rfl⟩, hMe⟩
        · rw [hMe] at w
          have hts :  tsP P q hv o t := (ts_6 (by omega)).mpr (by omega)
          refine lv_istore (lv' := [(4, .int (zI 1)), (3, .int (zI (((o.2.2 t) : Nat) : Int))), (0, .ref (B + ru)), (1, .ref (B + a)), (2, .int (zI (t : Int)))]) hx hb wdX4_admits_172 hl (by decide) rfl (fun ls hl => ?_)
          refine lv_goto (tgt := 179) hx hb wdX4_admits_174 (by decide) ?_
          refine lv_iload hx hb wdX4_admits_179 (lv_at hl 0 rfl) ?_
          refine lv_aload_n hx hb wdX4_admits_181 rfl (lv_at hl 2 rfl) ?_
          refine f_4_0 F w (a := ru) hku wtb_4 wdX4_admits_182 ?_
          refine lv_bipush (v := zI 6) hx hb wdX4_admits_185 (by decide) ?_
          refine g_iald F w (a := (ru + 1)) (kd_r1 hku) (j := 6) ⟨by decide, by decide⟩ (by omega) wdX4_admits_187 ?_
          refine r_val (v := (zI (P 6))) (hU 6 (by decide)) ?_
          refine lv_iconst (v := zI 1) hx hb wdX4_admits_188 rfl ?_
          refine z_icmp_ne (tgt := 196) hx hb (by omega) (by omega) wdX4_admits_189 (by decide) (fun c77 => ?_) (fun c77 => ?_)
          · refine lv_iconst (v := zI 0) hx hb wdX4_admits_196 rfl ?_
            refine z_icmp_eq (tgt := 204) hx hb (by omega) (by omega) wdX4_admits_197 (by decide) (fun c78 => False.elim (by omega)) (fun c78 => ?_)
            refine lv_iconst (v := zI 1) hx hb wdX4_admits_200 rfl ?_
            refine lv_goto (tgt := 205) hx hb wdX4_admits_201 (by decide) ?_
            exact e_z F w hr hlocks (nar_z (by omega)) ⟨Or.inl ⟨ad_y hts (by omega), rfl⟩, rfl⟩ wdX4_admits_205
          · refine lv_iconst (v := zI 1) hx hb wdX4_admits_192 rfl ?_
            refine lv_goto (tgt := 197) hx hb wdX4_admits_193 (by decide) ?_
            refine z_icmp_eq (tgt := 204) hx hb (by omega) (by omega) wdX4_admits_197 (by decide) (fun c79 => ?_) (fun c79 => False.elim (by omega))
            refine lv_iconst (v := zI 0) hx hb wdX4_admits_204 rfl ?_
            exact e_z F w hr hlocks (nar_z (by omega)) ⟨Or.inr ⟨ad_n (by omega) hts (by omega), rfl⟩, rfl⟩ wdX4_admits_205
        · rw [hMe] at w
          have hts : ¬ tsP P q hv o t := fun h9 => absurd ((ts_6 (by omega)).mp h9) (by omega)
          refine lv_istore (lv' := [(4, .int (zI 0)), (3, .int (zI (((o.2.2 t) : Nat) : Int))), (0, .ref (B + ru)), (1, .ref (B + a)), (2, .int (zI (t : Int)))]) hx hb wdX4_admits_172 hl (by decide) rfl (fun ls hl => ?_)
          refine lv_goto (tgt := 179) hx hb wdX4_admits_174 (by decide) ?_
          refine lv_iload hx hb wdX4_admits_179 (lv_at hl 0 rfl) ?_
          refine lv_aload_n hx hb wdX4_admits_181 rfl (lv_at hl 2 rfl) ?_
          refine f_4_0 F w (a := ru) hku wtb_4 wdX4_admits_182 ?_
          refine lv_bipush (v := zI 6) hx hb wdX4_admits_185 (by decide) ?_
          refine g_iald F w (a := (ru + 1)) (kd_r1 hku) (j := 6) ⟨by decide, by decide⟩ (by omega) wdX4_admits_187 ?_
          refine r_val (v := (zI (P 6))) (hU 6 (by decide)) ?_
          refine lv_iconst (v := zI 1) hx hb wdX4_admits_188 rfl ?_
          refine z_icmp_ne (tgt := 196) hx hb (by omega) (by omega) wdX4_admits_189 (by decide) (fun c80 => ?_) (fun c80 => ?_)
          · refine lv_iconst (v := zI 0) hx hb wdX4_admits_196 rfl ?_
            refine z_icmp_eq (tgt := 204) hx hb (by omega) (by omega) wdX4_admits_197 (by decide) (fun c81 => ?_) (fun c81 => False.elim (by omega))
            refine lv_iconst (v := zI 0) hx hb wdX4_admits_204 rfl ?_
            exact e_z F w hr hlocks (nar_z (by omega)) ⟨Or.inr ⟨ad_n2 (by omega) hts (by omega), rfl⟩, rfl⟩ wdX4_admits_205
          · refine lv_iconst (v := zI 1) hx hb wdX4_admits_192 rfl ?_
            refine lv_goto (tgt := 197) hx hb wdX4_admits_193 (by decide) ?_
            refine z_icmp_eq (tgt := 204) hx hb (by omega) (by omega) wdX4_admits_197 (by decide) (fun c82 => False.elim (by omega)) (fun c82 => ?_)
            refine lv_iconst (v := zI 1) hx hb wdX4_admits_200 rfl ?_
            refine lv_goto (tgt := 205) hx hb wdX4_admits_201 (by decide) ?_
            exact e_z F w hr hlocks (nar_z (by omega)) ⟨Or.inl ⟨ad_y2 hts (by omega), rfl⟩, rfl⟩ wdX4_admits_205
    · refine lv_tableOut (tgt := 177) hx hb wdX4_admits_12 (by rw [zI_toInt (by omega)]; omega) (by decide) ?_
      refine lv_iconst (v := zI 1) hx hb wdX4_admits_177 rfl ?_
      exact e_z F w hr hlocks (nar_z (by omega)) ⟨Or.inl ⟨Or.inl (by omega), rfl⟩, rfl⟩ wdX4_admits_178
  · exact False.elim (by omega)
