-- the reference's reader of words: at i, a word in the row 151
def FrE (M1 M : Mem) : Prop := (∀ b, b ≠ 146 → b ≠ 151 → M1.1 b = M.1 b) ∧ (∀ k, k ≠ 9 → k ≠ 11 → M1.1 146 k = M.1 146 k) ∧ M1.2 = M.2
theorem FrE.rf {M : Mem} : FrE M M := ⟨fun _ _ _ => rfl, fun _ _ _ => rfl, rfl⟩
theorem FrE.tr {M M1 M2 : Mem} (h1 : FrE M1 M) (h2 : FrE M2 M1) : FrE M2 M := ⟨fun b x y => (h2.1 b x y).trans (h1.1 b x y), fun k x y => (h2.2.1 k x y).trans (h1.2.1 k x y), h2.2.2.trans h1.2.2⟩
theorem FrE.n9 {M M1 : Mem} (h : Fr9 M1 M) : FrE M1 M := ⟨fun b x _ => h.1 b x, fun k x _ => h.2.1 k x, h.2.2⟩
theorem FrE.w {M M1 : Mem} (h : Fr1 M1 M 151) : FrE M1 M := ⟨fun b _ x => h.1 b x, fun k _ _ => congrFun (h.1 146 (by decide)) k, h.2⟩
theorem FrE.s {M : Mem} {k : Nat} {x : Int32} : FrE (st M 151 k x) M := FrE.w Fr1.s
theorem FrE.a {M : Mem} {x : Int32} : FrE (st M 146 9 x) M := ⟨fun b h _ => st_ob h, fun k h _ => st_ne (Or.inr h), rfl⟩
theorem FrE.m {M : Mem} {x : Int32} : FrE (st M 146 11 x) M := ⟨fun b h _ => st_ob h, fun k _ h => st_ne (Or.inr h), rfl⟩
theorem isTr.e {M M1 : Mem} {T : Nat → Nat} {N : Nat} (h : isTr M T N) (hf : FrE M1 M) : isTr M1 T N := ⟨(hf.2.1 8 (by decide) (by decide)).trans h.1, fun i hi => by rw [hf.1 150 (by decide) (by decide)]; exact h.2 i hi⟩
def EW (M : Mem) (y : Sy) (o : Wo) : Prop := isR M 151 o.1 y.1 y.2.1 y.2.2 o.2.1 o.2.2 ∧ okW y.1 o ∧ y.2.1 < 2 ^ y.1 ∧ y.2.2 < 2 ^ y.1
theorem EW.wf {M : Mem} {y : Sy} {o : Wo} (h : EW M y o) : wf o.1 y.1 y.2.1 y.2.2 o.2.1 o.2.2 := ⟨h.2.1.1, h.2.1.2.1, Nat.lt_of_lt_of_le h.2.2.1 (p2_le h.2.1.2.1).2, Nat.lt_of_lt_of_le h.2.2.2 (p2_le h.2.1.2.1).2, fun k hk => ⟨(h.2.1.2.2 k hk).1, h.2.1.lt hk⟩⟩
theorem EW.fr {M M1 : Mem} {y : Sy} {o : Wo} (h : EW M y o) (e : M1.1 151 = M.1 151) : EW M1 y o := ⟨by unfold isR; rw [e]; exact h.1, h.2⟩
def ES (M : Mem) (T : Nat → Nat) (N i : Nat) (y : Sy) (o : Wo) : Prop := isTr M T N ∧ M.1 146 9 = zI (i : Int) ∧ i ≤ N ∧ EW M y o
theorem ES.at {M : Mem} {T : Nat → Nat} {N i j : Nat} {y : Sy} {o : Wo} (h : ES M T N i y o) (hj : j ≤ N) : ES (st M 146 9 (zI (j : Int))) T N j y o := ⟨h.1.o (Or.inr (by decide)) (by decide), st_at, hj, h.2.2.2.fr (st_ob (by decide))⟩
theorem ES.m {M : Mem} {T : Nat → Nat} {N i : Nat} {y : Sy} {o : Wo} {x : Int32} (h : ES M T N i y o) : ES (st M 146 11 x) T N i y o := ⟨h.1.o (Or.inr (by decide)) (by decide), (st_ne (Or.inr (by decide))).trans h.2.1, h.2.2.1, h.2.2.2.fr (st_ob (by decide))⟩
theorem ES.b {M M1 : Mem} {T : Nat → Nat} {N i j : Nat} {y : Sy} {o : Wo} (h : ES M T N i y o) (hF : Fr9 M1 M) (hj : M1.1 146 9 = zI (j : Int)) (hl : j ≤ N) : ES M1 T N j y o := ⟨h.1.n9 hF, hj, hl, h.2.2.2.fr (hF.1 151 (by decide))⟩
theorem ES.w {M M1 : Mem} {T : Nat → Nat} {N i : Nat} {y y1 : Sy} {o o1 : Wo} (h : ES M T N i y o) (hF : Fr1 M1 M 151) (hC : EW M1 y1 o1) : ES M1 T N i y1 o1 := ⟨h.1.e (FrE.w hF), by rw [hF.1 146 (by decide)]; exact h.2.1, h.2.2.1, hC⟩
theorem ES.n {M M1 : Mem} {T : Nat → Nat} {N i j : Nat} {y : Sy} {o : Wo} (h : ES M T N i y o) (hF : FrE M1 M) (hw : M1.1 151 = M.1 151) (hj : M1.1 146 9 = zI (j : Int)) (hl : j ≤ N) : ES M1 T N j y o := ⟨h.1.e hF, hj, hl, h.2.2.2.fr hw⟩
theorem ES.o {M : Mem} {T : Nat → Nat} {N i : Nat} {y : Sy} {o : Wo} (h : ES M T N i y o) : ∃ j : Nat, M.1 146 9 = zI (j : Int) ∧ j ≤ N := ⟨i, h.2.1, h.2.2.1⟩
def ETQ (T : Nat → Nat) (N : Nat) (R : Option (Nat × Wo)) (y : Sy) (M : Mem) (r : Int32) (M1 : Mem) : Prop := (∃ i2 o2, R = some (i2, o2) ∧ r = zI 1 ∧ ES M1 T N i2 y o2 ∧ FrE M1 M) ∨ (R = none ∧ r = zI 0 ∧ (∃ j : Nat, M1.1 146 9 = zI (j : Int) ∧ j ≤ N) ∧ FrE M1 M)
def ESQ (T : Nat → Nat) (N : Nat) (R : Option (Nat × Sy)) (o : Wo) (M : Mem) (r : Int32) (M1 : Mem) : Prop := (∃ i2 y2, R = some (i2, y2) ∧ r = zI 1 ∧ ES M1 T N i2 y2 o ∧ FrE M1 M) ∨ (R = none ∧ r = zI 0 ∧ (∃ j : Nat, M1.1 146 9 = zI (j : Int) ∧ j ≤ N) ∧ FrE M1 M)
def ELQ (T : Nat → Nat) (N : Nat) (R : Option Wo) (y : Sy) (M : Mem) (r : Int32) (M1 : Mem) : Prop := (∃ i2 o2, R = some o2 ∧ r = zI 1 ∧ ES M1 T N i2 y o2 ∧ FrE M1 M) ∨ (R = none ∧ r = zI 0 ∧ (∃ j : Nat, M1.1 146 9 = zI (j : Int) ∧ j ≤ N) ∧ FrE M1 M)
theorem rt_g {T : Nat → Nat} {N f i : Nat} {o : Wo} (h1 : sg T N (i : Int) ≠ 47) (h2 : (sg T N (i : Int) ≠ 108 ∧ sg T N (i : Int) ≠ 109 ∧ sg T N (i : Int) ≠ 104) ∨ 12 ≤ o.1) : rtF T N f i o = none := by
  rcases sg_c (T := T) (N := N) i with h | h
  · have hk := knd_a (T i : Int)
    exact rt_n h.1 (by omega) (by omega)
  · exact rt_e h.1
theorem rs_g {T : Nat → Nat} {N f i e : Nat} {y : Sy} (h1 : ¬ (sg T N (i : Int) = 47 ∧ e = 0)) (h2 : ¬ (sg T N (i : Int) = 45 ∧ e = 0)) (h3 : ¬ ((sg T N (i : Int) = 111 ∨ sg T N (i : Int) = 79) ∧ y.1 < 12)) : rsF T N f i e y = none := by
  rcases sg_c (T := T) (N := N) i with h | h
  · exact rs_n (by omega) (by omega) (by omega)
  · exact rs_e h.1
/-- a syllable comes in the row: hv, ed as they become -/
theorem EW.sy {M M1 : Mem} {y : Sy} {o : Wo} {x e hv ed : Nat} (h : EW M y o) (hR : isR M1 151 o.1 (y.1 + 1) hv ed o.2.1 o.2.2) (hh : hv = sbit y.2.1 y.1 x) (he : ed = sbit y.2.2 y.1 e) (hq : y.1 < 12) : EW M1 (syO y x e) o := by
  subst hh; subst he
  exact ⟨hR, okW_q h.2.1 (Nat.le_succ _) hq, sbit_2 h.2.2.1, sbit_2 h.2.2.2⟩
theorem sbit_id {m j : Nat} (h : m < 2 ^ j) : m = sbit m j 0 := by unfold sbit; rw [if_pos rfl, andn_id h]
theorem sbit_on {m j : Nat} : m ||| 2 ^ j = sbit m j 1 := rfl
theorem EW.ln {M : Mem} {y : Sy} {o : Wo} {t u : Nat} (h : EW M y o) (ht : t < o.1) (hu : u < y.1) : EW (st M 151 (13 + t) (zI ((o.2.2 t ||| 2 ^ u : Nat) : Int))) y (lnO o t u) := ⟨rlW h.1 h.2.1.1 ht, okW_ln h.2.1 ht hu, h.2.2⟩
theorem MS.e {M M1 : Mem} {Ps : Nat → Nat → Int} {m k : Nat} {x : Fw} {Hs : Nat → Fw} (h : MS M Ps m x Hs k) (hF : FrE M1 M) : MS M1 Ps m x Hs k := h.fr (hF.1 _ (by decide) (by decide)) (hF.1 _ (by decide) (by decide)) (hF.1 _ (by decide) (by decide)) (hF.2.1 5 (by decide) (by decide)) (hF.2.1 20 (by decide) (by decide))
theorem MS.s8 {M : Mem} {Ps : Nat → Nat → Int} {m k : Nat} {x : Fw} {Hs : Nat → Fw} {v : Int32} (h : MS M Ps m x Hs k) : MS (st M 146 8 v) Ps m x Hs k := h.fr (st_ob (by decide)) (st_ob (by decide)) (st_ob (by decide)) (st_ne (Or.inr (by decide))) (st_ne (Or.inr (by decide)))
theorem MS.word {M M1 : Mem} {Ps : Nat → Nat → Int} {m k : Nat} {x y : Fw} {Hs : Nat → Fw} (h : MS M Ps m x Hs k) (hF : Fr1 M1 M 147) (hC : wA (M1.1 147) y) (hy : okF y) : MS (st M1 146 20 (zI 0)) Ps m y Hs 0 := by
  have h1 := h.told hF hC hy
  exact ⟨h1.1.fr (st_ob (by decide)), (st_ne (Or.inr (by decide))).trans h1.2.1, ⟨by rw [st_ob (by decide)]; exact hC, hy⟩, st_at, Nat.zero_le _, fun j hj => absurd hj (Nat.not_lt_zero j)⟩
theorem isR_0 {M : Mem} (h : ∀ k, k < 28 → M.1 151 k = zI 0) : EW M (0, 0, 0) wo0 := ⟨⟨h 0 (by decide), h 25 (by decide), h 26 (by decide), h 27 (by decide), fun k hk => absurd hk (Nat.not_lt_zero k), fun k hk => absurd hk (Nat.not_lt_zero k)⟩, wo0_ok, by decide, by decide⟩
theorem udX12_readsTones_4 : decode cX12_readsTones 4 = .ok (.aload_n 0, 1) := dq0 kk_42 (by decide +kernel)
theorem udX12_readsTones_5 : decode cX12_readsTones 5 = .ok (.invokevirtual 175, 3) := dqV kk_182 (by decide +kernel)
theorem utk_X12_here : Cond.code yX12_here cX12_here 1 (some .int) ∈ TB := rtk_X12_here
theorem ugc_X12_here : GoodIn TB (cw yX12_here cX12_here 1 (some .int)) := goodIn_c2 utk_X12_here
theorem utb_89 : Cond.methodLink "ToneLinesModel" 175 yX12_here ∈ TB := rtb_123
theorem utb_90 : Cond.instanceMethod yX12_here ∈ TB := rtb_124
theorem utb_91 : Cond.selects "ToneLinesModel" yX12_here yX12_here ∈ TB := rtb_125
theorem utb_92 : Cond.initialized "ToneLinesModel" ∈ TB := rtb_119
theorem ugv_X12_175 : GoodIn TB (wsV RX12 175 RX12 yX12_here (cw yX12_here cX12_here 1 (some .int))) := goodIn_4 utb_89 utb_90 utb_91 utb_92 ugc_X12_here
theorem uhv_X12_here : yX12_here.cls = RX12 ∧ yX12_here.cls ≠ "java/lang/invoke/MethodHandle" ∧ yX12_here.cls ≠ "java/lang/invoke/VarHandle" ∧ (parseMethodDescriptor yX12_here.desc).map (fun d => d.parameters.length) = some 0 := rhv_X12_here
theorem udX12_readsTones_8 : decode cX12_readsTones 8 = .ok (.bipush 47, 2) := dqS kk_16 (by decide +kernel)
theorem udX12_readsTones_10 : decode cX12_readsTones 10 = .ok (.if_icmp .eq 89, 3) := dqT kk_159 (by decide +kernel)
theorem udX12_readsTones_13 : decode cX12_readsTones 13 = .ok (.aload_n 0, 1) := dq0 kk_42 (by decide +kernel)
theorem udX12_readsTones_14 : decode cX12_readsTones 14 = .ok (.invokevirtual 175, 3) := dqV kk_182 (by decide +kernel)
theorem udX12_readsTones_17 : decode cX12_readsTones 17 = .ok (.istore_n 1, 1) := dq0 kk_60 (by decide +kernel)
theorem udX12_readsTones_18 : decode cX12_readsTones 18 = .ok (.iload_n 1, 1) := dq0 kk_27 (by decide +kernel)
theorem udX12_readsTones_19 : decode cX12_readsTones 19 = .ok (.bipush 108, 2) := dqS kk_16 (by decide +kernel)
theorem udX12_readsTones_21 : decode cX12_readsTones 21 = .ok (.if_icmp .ne 7, 3) := dqT kk_160 (by decide +kernel)
theorem udX12_readsTones_28 : decode cX12_readsTones 28 = .ok (.iload_n 1, 1) := dq0 kk_27 (by decide +kernel)
theorem udX12_readsTones_29 : decode cX12_readsTones 29 = .ok (.bipush 109, 2) := dqS kk_16 (by decide +kernel)
theorem udX12_readsTones_31 : decode cX12_readsTones 31 = .ok (.if_icmp .ne 7, 3) := dqT kk_160 (by decide +kernel)
theorem udX12_readsTones_38 : decode cX12_readsTones 38 = .ok (.iload_n 1, 1) := dq0 kk_27 (by decide +kernel)
theorem udX12_readsTones_39 : decode cX12_readsTones 39 = .ok (.bipush 104, 2) := dqS kk_16 (by decide +kernel)
theorem udX12_readsTones_41 : decode cX12_readsTones 41 = .ok (.if_icmp .ne 7, 3) := dqT kk_160 (by decide +kernel)
theorem udX12_readsTones_48 : decode cX12_readsTones 48 = .ok (.iconst (-1), 1) := dq0 kk_2 (by decide +kernel)
theorem udX12_readsTones_49 : decode cX12_readsTones 49 = .ok (.istore_n 2, 1) := dq0 kk_61 (by decide +kernel)
theorem udX12_readsTones_50 : decode cX12_readsTones 50 = .ok (.iload_n 2, 1) := dq0 kk_28 (by decide +kernel)
theorem udX12_readsTones_51 : decode cX12_readsTones 51 = .ok (.iconst (-1), 1) := dq0 kk_2 (by decide +kernel)
theorem udX12_readsTones_52 : decode cX12_readsTones 52 = .ok (.if_icmp .eq 14, 3) := dqT kk_159 (by decide +kernel)
theorem udX12_readsTones_66 : decode cX12_readsTones 66 = .ok (.iconst 0, 1) := dq0 kk_3 (by decide +kernel)
theorem udX12_readsTones_67 : decode cX12_readsTones 67 = .ok (.ireturn, 1) := dq0 kk_172 (by decide +kernel)
theorem udX12_readsTones_44 : decode cX12_readsTones 44 = .ok (.iconst 2, 1) := dq0 kk_5 (by decide +kernel)
theorem udX12_readsTones_45 : decode cX12_readsTones 45 = .ok (.goto 4, 3) := dqT kk_167 (by decide +kernel)
theorem udX12_readsTones_55 : decode cX12_readsTones 55 = .ok (.aload_n 0, 1) := dq0 kk_42 (by decide +kernel)
theorem udX12_readsTones_56 : decode cX12_readsTones 56 = .ok (.getfield 26, 3) := dqV kk_180 (by decide +kernel)
theorem utb_93 : Cond.fieldLink "ToneLinesModel" 26 "ToneLinesModel" "read" "[I" ∈ TB := tbm (tc5 (List.mem_of_getElem? (i := 66) rfl)) rfl
theorem udX12_readsTones_59 : decode cX12_readsTones 59 = .ok (.iconst 0, 1) := dq0 kk_3 (by decide +kernel)
theorem udX12_readsTones_60 : decode cX12_readsTones 60 = .ok (.iaload, 1) := dq0 kk_46 (by decide +kernel)
theorem udX12_readsTones_61 : decode cX12_readsTones 61 = .ok (.bipush 12, 2) := dqS kk_16 (by decide +kernel)
theorem udX12_readsTones_63 : decode cX12_readsTones 63 = .ok (.if_icmp .ne 5, 3) := dqT kk_160 (by decide +kernel)
theorem udX12_readsTones_68 : decode cX12_readsTones 68 = .ok (.aload_n 0, 1) := dq0 kk_42 (by decide +kernel)
theorem udX12_readsTones_69 : decode cX12_readsTones 69 = .ok (.getfield 26, 3) := dqV kk_180 (by decide +kernel)
theorem udX12_readsTones_72 : decode cX12_readsTones 72 = .ok (.aload_n 0, 1) := dq0 kk_42 (by decide +kernel)
theorem udX12_readsTones_73 : decode cX12_readsTones 73 = .ok (.getfield 26, 3) := dqV kk_180 (by decide +kernel)
theorem udX12_readsTones_76 : decode cX12_readsTones 76 = .ok (.iconst 0, 1) := dq0 kk_3 (by decide +kernel)
theorem udX12_readsTones_77 : decode cX12_readsTones 77 = .ok (.iaload, 1) := dq0 kk_46 (by decide +kernel)
theorem udX12_readsTones_78 : decode cX12_readsTones 78 = .ok (.iload_n 2, 1) := dq0 kk_28 (by decide +kernel)
theorem udX12_readsTones_79 : decode cX12_readsTones 79 = .ok (.invokestatic 112, 3) := dqV kk_184 (by decide +kernel)
theorem utk_X12_insert : Cond.code yX12_insert cX12_insert 4 none ∈ TB := wtk_X12_insert
theorem ugc_X12_insert : GoodIn TB (cw yX12_insert cX12_insert 4 none) := goodIn_c2 utk_X12_insert
theorem utb_94 : Cond.methodLink "ToneLinesModel" 112 yX12_insert ∈ TB := wtb_136
theorem utb_95 : Cond.static yX12_insert ∈ TB := wtb_137
theorem ugs_X12_112 : GoodIn TB (va_wsS RX12 112 yX12_insert (cw yX12_insert cX12_insert 4 none)) := goodIn_3 utb_94 utb_95 utb_92 ugc_X12_insert
theorem uhs_X12_insert : yX12_insert.cls ≠ "java/lang/invoke/MethodHandle" ∧ yX12_insert.cls ≠ "java/lang/invoke/VarHandle" ∧ (parseMethodDescriptor yX12_insert.desc).map (fun d => d.parameters.length) = some 3 := whs_X12_insert
theorem udX12_readsTones_82 : decode cX12_readsTones 82 = .ok (.aload_n 0, 1) := dq0 kk_42 (by decide +kernel)
theorem udX12_readsTones_83 : decode cX12_readsTones 83 = .ok (.dup, 1) := dq0 kk_89 (by decide +kernel)
theorem udX12_readsTones_84 : decode cX12_readsTones 84 = .ok (.getfield 172, 3) := dqV kk_180 (by decide +kernel)
theorem utb_96 : Cond.fieldLink "ToneLinesModel" 172 "ToneLinesModel" "at" "I" ∈ TB := rtb_120
theorem udX12_readsTones_87 : decode cX12_readsTones 87 = .ok (.iconst 1, 1) := dq0 kk_4 (by decide +kernel)
theorem udX12_readsTones_88 : decode cX12_readsTones 88 = .ok (.iadd, 1) := dq0 kk_96 (by decide +kernel)
theorem udX12_readsTones_89 : decode cX12_readsTones 89 = .ok (.putfield 172, 3) := dqV kk_181 (by decide +kernel)
theorem udX12_readsTones_92 : decode cX12_readsTones 92 = .ok (.aload_n 0, 1) := dq0 kk_42 (by decide +kernel)
theorem udX12_readsTones_93 : decode cX12_readsTones 93 = .ok (.invokevirtual 179, 3) := dqV kk_182 (by decide +kernel)
theorem utk_X12_blanks : Cond.code yX12_blanks cX12_blanks 1 none ∈ TB := rtk_X12_blanks
theorem ugc_X12_blanks : GoodIn TB (cw yX12_blanks cX12_blanks 1 none) := goodIn_c2 utk_X12_blanks
theorem utb_97 : Cond.methodLink "ToneLinesModel" 179 yX12_blanks ∈ TB := rtb_128
theorem utb_98 : Cond.instanceMethod yX12_blanks ∈ TB := rtb_129
theorem utb_99 : Cond.selects "ToneLinesModel" yX12_blanks yX12_blanks ∈ TB := rtb_130
theorem ugv_X12_179 : GoodIn TB (wsV RX12 179 RX12 yX12_blanks (cw yX12_blanks cX12_blanks 1 none)) := goodIn_4 utb_97 utb_98 utb_99 utb_92 ugc_X12_blanks
theorem uhv_X12_blanks : yX12_blanks.cls = RX12 ∧ yX12_blanks.cls ≠ "java/lang/invoke/MethodHandle" ∧ yX12_blanks.cls ≠ "java/lang/invoke/VarHandle" ∧ (parseMethodDescriptor yX12_blanks.desc).map (fun d => d.parameters.length) = some 0 := rhv_X12_blanks
theorem udX12_readsTones_96 : decode cX12_readsTones 96 = .ok (.goto (-92), 3) := dqT kk_167 (by decide +kernel)
theorem udX12_readsTones_34 : decode cX12_readsTones 34 = .ok (.iconst 1, 1) := dq0 kk_4 (by decide +kernel)
theorem udX12_readsTones_35 : decode cX12_readsTones 35 = .ok (.goto 14, 3) := dqT kk_167 (by decide +kernel)
theorem udX12_readsTones_24 : decode cX12_readsTones 24 = .ok (.iconst 0, 1) := dq0 kk_3 (by decide +kernel)
theorem udX12_readsTones_25 : decode cX12_readsTones 25 = .ok (.goto 24, 3) := dqT kk_167 (by decide +kernel)
set_option maxRecDepth 4000 in
theorem lp_X12_rtones {p : Program} {l : Launch} {e : Env} {s : State} {m : MethodId} {args : Array Value} {below : List Frame} {meth : Method} {c : Code} {D : va_G} {B : Nat} {cy : Nat → ClassId}  {M : Mem} {R : Room} {T : Nat → Nat} {tn b : Nat} {y : Sy} {o : Wo} (F : CallFix p m c cX12_readsTones 3 s args TB RX12) (hr : meth.sig.returnType = (some .boolean)) (hlocks : meth.locks = false) (hR1 : 2 ≤ R.frames) (hR2 : 40 ≤ R.locals) (hT : okT T tn) (kk : ∀ (i : Nat) (Nm : Mem) (o1 : Wo) (fu : Nat) (H : Heap) (locs : List Loc) (ls : Array Slot), (rtF T tn 301 (sk T tn b) o = some (i + 1, o1)) → (ES Nm T tn i y o1) → (FrE Nm M) → (i < tn) → Wd D B cy s s.heap Nm H locs → lv_has ls 3 [(0, .ref (B + 146))] → W p l e R s m args below meth c H locs 0 0 (MQ below (va_Qi (fun r M1 => ETQ T tn (rtF T tn 301 (sk T tn b) o) y M r M1) (fun M2 t2 => Wp D B cy M2 t2) (fun q2 => B ≤ q2)) args s 0 0 (fun q2 => B ≤ q2)) (F0 m 99 ls [])) : ∀ (f : Nat) (i : Nat) (Nm : Mem) (o1 : Wo) (fu : Nat), (ES Nm T tn i y o1) → (rtF T tn fu i o1 = rtF T tn 301 (sk T tn b) o) → (FrE Nm M) → (tn < i + fu) → (tn ≤ i + f) → ∀ (H : Heap) (locs : List Loc) (ls : Array Slot), Wd D B cy s s.heap Nm H locs → lv_has ls 3 [(0, .ref (B + 146))] → W p l e R s m args below meth c H locs 0 0 (MQ below (va_Qi (fun r M1 => ETQ T tn (rtF T tn 301 (sk T tn b) o) y M r M1) (fun M2 t2 => Wp D B cy M2 t2) (fun q2 => B ≤ q2)) args s 0 0 (fun q2 => B ≤ q2)) (F0 m 4 ls []) := by
  have hx := F.1
  have hb := F.2.1
  have hN := hT.1
  intro f
  induction f with
  | zero =>
    intro i Nm o1 fu i0 i1 i2 i3 hf H locs ls w hl
    have hiN := i0.2.2.1
    have hn12 := i0.2.2.2.2.1.1
    refine lv_aload_n hx hb udX12_readsTones_4 rfl (lv_at hl 0 rfl) ?_
    refine x_Vi F w (As := []) (rest := []) (a := 146) (kd_lt (a := 146) (show kd 146 = (12, 0, 0) from rfl) (by decide)) (sh_12 rfl _ _) rfl (t_here hT i0.1 (A := i) i0.2.1 (by omega)) ugv_X12_175 uhv_X12_here ⟨(by omega), (by omega)⟩ hl.1 rfl (Nat.le_of_ble_eq_true rfl) ⟨Nat.zero_le _, Nat.zero_le _⟩ udX12_readsTones_5 (fun H locs w => ?_)
    have hg0 := sg_rg hT (i : Int)
    have hh0 := sg_c (T := T) (N := tn) i
    have ht0 := hT.2 i
    refine lv_bipush (v := zI 47) hx hb udX12_readsTones_8 (by decide) ?_
    refine z_icmp_eq (tgt := 99) hx hb (by omega) (by omega) udX12_readsTones_10 (by decide) (fun c2 => ?_) (fun c2 => ?_)
    · exact kk i Nm o1 fu _ _ ls (i1.symm.trans (rt_s (by omega) (by omega) (by omega))) i0 i2 (by omega) w (lv_sub hl [0] rfl)
    · refine lv_aload_n hx hb udX12_readsTones_13 rfl (lv_at hl 0 rfl) ?_
      refine x_Vi F w (As := []) (rest := []) (a := 146) (kd_lt (a := 146) (show kd 146 = (12, 0, 0) from rfl) (by decide)) (sh_12 rfl _ _) rfl (t_here hT i0.1 (A := i) i0.2.1 (by omega)) ugv_X12_175 uhv_X12_here ⟨(by omega), (by omega)⟩ hl.1 rfl (Nat.le_of_ble_eq_true rfl) ⟨Nat.zero_le _, Nat.zero_le _⟩ udX12_readsTones_14 (fun H locs w => ?_)
      have hg2 := sg_rg hT (i : Int)
      have hh2 := sg_c (T := T) (N := tn) i
      have ht2 := hT.2 i
      refine lv_istore_n (lv' := [(1, .int (zI (sg T tn (i : Int)))), (0, .ref (B + 146))]) hx hb udX12_readsTones_17 rfl hl (by decide) rfl (fun ls hl => ?_)
      refine lv_iload_n hx hb udX12_readsTones_18 rfl (lv_at hl 0 rfl) ?_
      refine lv_bipush (v := zI 108) hx hb udX12_readsTones_19 (by decide) ?_
      refine z_icmp_ne (tgt := 28) hx hb (by omega) (by omega) udX12_readsTones_21 (by decide) (fun c4 => ?_) (fun c4 => ?_)
      · refine lv_iload_n hx hb udX12_readsTones_28 rfl (lv_at hl 0 rfl) ?_
        refine lv_bipush (v := zI 109) hx hb udX12_readsTones_29 (by decide) ?_
        refine z_icmp_ne (tgt := 38) hx hb (by omega) (by omega) udX12_readsTones_31 (by decide) (fun c5 => ?_) (fun c5 => ?_)
        · refine lv_iload_n hx hb udX12_readsTones_38 rfl (lv_at hl 0 rfl) ?_
          refine lv_bipush (v := zI 104) hx hb udX12_readsTones_39 (by decide) ?_
          refine z_icmp_ne (tgt := 48) hx hb (by omega) (by omega) udX12_readsTones_41 (by decide) (fun c6 => ?_) (fun c6 => ?_)
          · refine lv_iconst (v := zI (-1)) hx hb udX12_readsTones_48 rfl ?_
            refine lv_istore_n (lv' := [(2, .int (zI (-1))), (1, .int (zI (sg T tn (i : Int)))), (0, .ref (B + 146))]) hx hb udX12_readsTones_49 rfl hl (by decide) rfl (fun ls hl => ?_)
            refine lv_iload_n hx hb udX12_readsTones_50 rfl (lv_at hl 0 rfl) ?_
            refine lv_iconst (v := zI (-1)) hx hb udX12_readsTones_51 rfl ?_
            refine z_icmp_eq (tgt := 66) hx hb (by omega) (by omega) udX12_readsTones_52 (by decide) (fun c7 => ?_) (fun c7 => False.elim (by omega))
            refine lv_iconst (v := zI 0) hx hb udX12_readsTones_66 rfl ?_
            exact e_z F w hr hlocks (nar_z (by omega)) (Or.inr ⟨i1.symm.trans (rt_g (by omega) (by omega)), rfl, i0.o, i2⟩) udX12_readsTones_67
          · refine lv_iconst (v := zI 2) hx hb udX12_readsTones_44 rfl ?_
            refine lv_goto (tgt := 49) hx hb udX12_readsTones_45 (by decide) ?_
            refine lv_istore_n (lv' := [(2, .int (zI 2)), (1, .int (zI (sg T tn (i : Int)))), (0, .ref (B + 146))]) hx hb udX12_readsTones_49 rfl hl (by decide) rfl (fun ls hl => ?_)
            refine lv_iload_n hx hb udX12_readsTones_50 rfl (lv_at hl 0 rfl) ?_
            refine lv_iconst (v := zI (-1)) hx hb udX12_readsTones_51 rfl ?_
            refine z_icmp_eq (tgt := 66) hx hb (by omega) (by omega) udX12_readsTones_52 (by decide) (fun c8 => False.elim (by omega)) (fun c8 => ?_)
            refine lv_aload_n hx hb udX12_readsTones_55 rfl (lv_at hl 2 rfl) ?_
            refine f_12_10 F w (a := 146) rfl utb_93 udX12_readsTones_56 ?_
            refine lv_iconst (v := zI 0) hx hb udX12_readsTones_59 rfl ?_
            refine g_iald F w (a := 151) rfl (j := 0) ⟨by decide, by decide⟩ (by omega) udX12_readsTones_60 ?_
            have hn8 := i0.2.2.2.2.1.1
            refine r_val (v := (zI ((o1.1 : Nat) : Int))) (i0.2.2.2.1.1) ?_
            refine lv_bipush (v := zI 12) hx hb udX12_readsTones_61 (by decide) ?_
            refine z_icmp_ne (tgt := 68) hx hb (by omega) (by omega) udX12_readsTones_63 (by decide) (fun c9 => ?_) (fun c9 => ?_)
            · refine lv_aload_n hx hb udX12_readsTones_68 rfl (lv_at hl 2 rfl) ?_
              refine f_12_10 F w (a := 146) rfl utb_93 udX12_readsTones_69 ?_
              refine lv_aload_n hx hb udX12_readsTones_72 rfl (lv_at hl 2 rfl) ?_
              refine f_12_10 F w (a := 146) rfl utb_93 udX12_readsTones_73 ?_
              refine lv_iconst (v := zI 0) hx hb udX12_readsTones_76 rfl ?_
              refine g_iald F w (a := 151) rfl (j := 0) ⟨by decide, by decide⟩ (by omega) udX12_readsTones_77 ?_
              have hn9 := i0.2.2.2.2.1.1
              refine r_val (v := (zI ((o1.1 : Nat) : Int))) (i0.2.2.2.1.1) ?_
              refine lv_iload_n hx hb udX12_readsTones_78 rfl (lv_at hl 0 rfl) ?_
              refine k_Sv F w (As := [.ref (B + 151), .int (zI ((o1.1 : Nat) : Int)), .int (zI 2)]) (rest := []) (s_X12_insert (a := 151) rfl i0.2.2.2.1 i0.2.2.2.wf (t := o1.1) (x := 2) (by omega) (by omega) (by omega)) ugs_X12_112 uhs_X12_insert ⟨(by omega), (by omega)⟩ hl.1 rfl (Nat.le_of_ble_eq_true rfl) ⟨Nat.zero_le _, Nat.zero_le _⟩ udX12_readsTones_79 (fun Ma10 H locs hp w => ?_)
              rcases hp with ⟨hW2, hF2⟩
              have hD2 : ES Ma10 T tn i y (tnO o1 2) := ES.w i0 hF2 ⟨hW2, okW_ins i0.2.2.2.2.1 (by omega) (by omega) (by omega), i0.2.2.2.2.2⟩
              have hF3 : FrE Ma10 M := FrE.tr i2 (FrE.w hF2)
              refine lv_aload_n hx hb udX12_readsTones_82 rfl (lv_at hl 2 rfl) ?_
              refine lv_dup hx hb udX12_readsTones_83 rfl ?_
              refine f_12_9 F w (a := 146) rfl utb_96 udX12_readsTones_84 ?_
              refine r_val (v := (zI (i : Int))) (hD2.2.1) ?_
              refine lv_iconst (v := zI 1) hx hb udX12_readsTones_87 rfl ?_
              refine z_iadd (z := (((i + 1) : Nat) : Int)) hx hb udX12_readsTones_88 (by omega) ?_
              refine u_12_9 F w (a := 146) rfl utb_96 udX12_readsTones_89 (fun H locs w => ?_)
              refine lv_aload_n hx hb udX12_readsTones_92 rfl (lv_at hl 2 rfl) ?_
              have hD11 : ES (st Ma10 146 9 (zI (((i + 1) : Nat) : Int))) T tn (i + 1) y (tnO o1 2) := ES.at hD2 (by omega)
              have fD11 : FrE (st Ma10 146 9 (zI (((i + 1) : Nat) : Int))) M := FrE.tr hF3 FrE.a
              refine k_Vv F w (As := []) (rest := []) (a := 146) (kd_lt (a := 146) (show kd 146 = (12, 0, 0) from rfl) (by decide)) (sh_12 rfl _ _) rfl (t_blanks hT hD11.1 hD11.2.1 hD11.2.2.1) ugv_X12_179 uhv_X12_blanks ⟨(by omega), (by omega)⟩ hl.1 rfl (Nat.le_of_ble_eq_true rfl) ⟨Nat.zero_le _, Nat.zero_le _⟩ udX12_readsTones_93 (fun Ma13 H locs hp w => ?_)
              rcases hp with ⟨hB12, gB12⟩
              have hkB12 := sk_le (T := T) (N := tn) (i := (i + 1)) (by omega)
              have hDB12 : ES Ma13 T tn (sk T tn (i + 1)) y (tnO o1 2) := ES.b hD11 gB12 hB12 (by omega)
              have fDB12 : FrE Ma13 M := FrE.tr fD11 (FrE.n9 gB12)
              refine lv_goto (tgt := 4) hx hb udX12_readsTones_96 (by decide) ?_
              exact False.elim (by omega)
            · refine lv_iconst (v := zI 0) hx hb udX12_readsTones_66 rfl ?_
              exact e_z F w hr hlocks (nar_z (by omega)) (Or.inr ⟨i1.symm.trans (rt_g (by omega) (by omega)), rfl, i0.o, i2⟩) udX12_readsTones_67
        · refine lv_iconst (v := zI 1) hx hb udX12_readsTones_34 rfl ?_
          refine lv_goto (tgt := 49) hx hb udX12_readsTones_35 (by decide) ?_
          refine lv_istore_n (lv' := [(2, .int (zI 1)), (1, .int (zI (sg T tn (i : Int)))), (0, .ref (B + 146))]) hx hb udX12_readsTones_49 rfl hl (by decide) rfl (fun ls hl => ?_)
          refine lv_iload_n hx hb udX12_readsTones_50 rfl (lv_at hl 0 rfl) ?_
          refine lv_iconst (v := zI (-1)) hx hb udX12_readsTones_51 rfl ?_
          refine z_icmp_eq (tgt := 66) hx hb (by omega) (by omega) udX12_readsTones_52 (by decide) (fun c14 => False.elim (by omega)) (fun c14 => ?_)
          refine lv_aload_n hx hb udX12_readsTones_55 rfl (lv_at hl 2 rfl) ?_
          refine f_12_10 F w (a := 146) rfl utb_93 udX12_readsTones_56 ?_
          refine lv_iconst (v := zI 0) hx hb udX12_readsTones_59 rfl ?_
          refine g_iald F w (a := 151) rfl (j := 0) ⟨by decide, by decide⟩ (by omega) udX12_readsTones_60 ?_
          have hn14 := i0.2.2.2.2.1.1
          refine r_val (v := (zI ((o1.1 : Nat) : Int))) (i0.2.2.2.1.1) ?_
          refine lv_bipush (v := zI 12) hx hb udX12_readsTones_61 (by decide) ?_
          refine z_icmp_ne (tgt := 68) hx hb (by omega) (by omega) udX12_readsTones_63 (by decide) (fun c15 => ?_) (fun c15 => ?_)
          · refine lv_aload_n hx hb udX12_readsTones_68 rfl (lv_at hl 2 rfl) ?_
            refine f_12_10 F w (a := 146) rfl utb_93 udX12_readsTones_69 ?_
            refine lv_aload_n hx hb udX12_readsTones_72 rfl (lv_at hl 2 rfl) ?_
            refine f_12_10 F w (a := 146) rfl utb_93 udX12_readsTones_73 ?_
            refine lv_iconst (v := zI 0) hx hb udX12_readsTones_76 rfl ?_
            refine g_iald F w (a := 151) rfl (j := 0) ⟨by decide, by decide⟩ (by omega) udX12_readsTones_77 ?_
            have hn15 := i0.2.2.2.2.1.1
            refine r_val (v := (zI ((o1.1 : Nat) : Int))) (i0.2.2.2.1.1) ?_
            refine lv_iload_n hx hb udX12_readsTones_78 rfl (lv_at hl 0 rfl) ?_
            refine k_Sv F w (As := [.ref (B + 151), .int (zI ((o1.1 : Nat) : Int)), .int (zI 1)]) (rest := []) (s_X12_insert (a := 151) rfl i0.2.2.2.1 i0.2.2.2.wf (t := o1.1) (x := 1) (by omega) (by omega) (by omega)) ugs_X12_112 uhs_X12_insert ⟨(by omega), (by omega)⟩ hl.1 rfl (Nat.le_of_ble_eq_true rfl) ⟨Nat.zero_le _, Nat.zero_le _⟩ udX12_readsTones_79 (fun Ma16 H locs hp w => ?_)
            rcases hp with ⟨hW2, hF2⟩
            have hD2 : ES Ma16 T tn i y (tnO o1 1) := ES.w i0 hF2 ⟨hW2, okW_ins i0.2.2.2.2.1 (by omega) (by omega) (by omega), i0.2.2.2.2.2⟩
            have hF3 : FrE Ma16 M := FrE.tr i2 (FrE.w hF2)
            refine lv_aload_n hx hb udX12_readsTones_82 rfl (lv_at hl 2 rfl) ?_
            refine lv_dup hx hb udX12_readsTones_83 rfl ?_
            refine f_12_9 F w (a := 146) rfl utb_96 udX12_readsTones_84 ?_
            refine r_val (v := (zI (i : Int))) (hD2.2.1) ?_
            refine lv_iconst (v := zI 1) hx hb udX12_readsTones_87 rfl ?_
            refine z_iadd (z := (((i + 1) : Nat) : Int)) hx hb udX12_readsTones_88 (by omega) ?_
            refine u_12_9 F w (a := 146) rfl utb_96 udX12_readsTones_89 (fun H locs w => ?_)
            refine lv_aload_n hx hb udX12_readsTones_92 rfl (lv_at hl 2 rfl) ?_
            have hD17 : ES (st Ma16 146 9 (zI (((i + 1) : Nat) : Int))) T tn (i + 1) y (tnO o1 1) := ES.at hD2 (by omega)
            have fD17 : FrE (st Ma16 146 9 (zI (((i + 1) : Nat) : Int))) M := FrE.tr hF3 FrE.a
            refine k_Vv F w (As := []) (rest := []) (a := 146) (kd_lt (a := 146) (show kd 146 = (12, 0, 0) from rfl) (by decide)) (sh_12 rfl _ _) rfl (t_blanks hT hD17.1 hD17.2.1 hD17.2.2.1) ugv_X12_179 uhv_X12_blanks ⟨(by omega), (by omega)⟩ hl.1 rfl (Nat.le_of_ble_eq_true rfl) ⟨Nat.zero_le _, Nat.zero_le _⟩ udX12_readsTones_93 (fun Ma19 H locs hp w => ?_)
            rcases hp with ⟨hB18, gB18⟩
            have hkB18 := sk_le (T := T) (N := tn) (i := (i + 1)) (by omega)
            have hDB18 : ES Ma19 T tn (sk T tn (i + 1)) y (tnO o1 1) := ES.b hD17 gB18 hB18 (by omega)
            have fDB18 : FrE Ma19 M := FrE.tr fD17 (FrE.n9 gB18)
            refine lv_goto (tgt := 4) hx hb udX12_readsTones_96 (by decide) ?_
            exact False.elim (by omega)
          · refine lv_iconst (v := zI 0) hx hb udX12_readsTones_66 rfl ?_
            exact e_z F w hr hlocks (nar_z (by omega)) (Or.inr ⟨i1.symm.trans (rt_g (by omega) (by omega)), rfl, i0.o, i2⟩) udX12_readsTones_67
      · refine lv_iconst (v := zI 0) hx hb udX12_readsTones_24 rfl ?_
        refine lv_goto (tgt := 49) hx hb udX12_readsTones_25 (by decide) ?_
        refine lv_istore_n (lv' := [(2, .int (zI 0)), (1, .int (zI (sg T tn (i : Int)))), (0, .ref (B + 146))]) hx hb udX12_readsTones_49 rfl hl (by decide) rfl (fun ls hl => ?_)
        refine lv_iload_n hx hb udX12_readsTones_50 rfl (lv_at hl 0 rfl) ?_
        refine lv_iconst (v := zI (-1)) hx hb udX12_readsTones_51 rfl ?_
        refine z_icmp_eq (tgt := 66) hx hb (by omega) (by omega) udX12_readsTones_52 (by decide) (fun c20 => False.elim (by omega)) (fun c20 => ?_)
        refine lv_aload_n hx hb udX12_readsTones_55 rfl (lv_at hl 2 rfl) ?_
        refine f_12_10 F w (a := 146) rfl utb_93 udX12_readsTones_56 ?_
        refine lv_iconst (v := zI 0) hx hb udX12_readsTones_59 rfl ?_
        refine g_iald F w (a := 151) rfl (j := 0) ⟨by decide, by decide⟩ (by omega) udX12_readsTones_60 ?_
        have hn20 := i0.2.2.2.2.1.1
        refine r_val (v := (zI ((o1.1 : Nat) : Int))) (i0.2.2.2.1.1) ?_
        refine lv_bipush (v := zI 12) hx hb udX12_readsTones_61 (by decide) ?_
        refine z_icmp_ne (tgt := 68) hx hb (by omega) (by omega) udX12_readsTones_63 (by decide) (fun c21 => ?_) (fun c21 => ?_)
        · refine lv_aload_n hx hb udX12_readsTones_68 rfl (lv_at hl 2 rfl) ?_
          refine f_12_10 F w (a := 146) rfl utb_93 udX12_readsTones_69 ?_
          refine lv_aload_n hx hb udX12_readsTones_72 rfl (lv_at hl 2 rfl) ?_
          refine f_12_10 F w (a := 146) rfl utb_93 udX12_readsTones_73 ?_
          refine lv_iconst (v := zI 0) hx hb udX12_readsTones_76 rfl ?_
          refine g_iald F w (a := 151) rfl (j := 0) ⟨by decide, by decide⟩ (by omega) udX12_readsTones_77 ?_
          have hn21 := i0.2.2.2.2.1.1
          refine r_val (v := (zI ((o1.1 : Nat) : Int))) (i0.2.2.2.1.1) ?_
          refine lv_iload_n hx hb udX12_readsTones_78 rfl (lv_at hl 0 rfl) ?_
          refine k_Sv F w (As := [.ref (B + 151), .int (zI ((o1.1 : Nat) : Int)), .int (zI 0)]) (rest := []) (s_X12_insert (a := 151) rfl i0.2.2.2.1 i0.2.2.2.wf (t := o1.1) (x := 0) (by omega) (by omega) (by omega)) ugs_X12_112 uhs_X12_insert ⟨(by omega), (by omega)⟩ hl.1 rfl (Nat.le_of_ble_eq_true rfl) ⟨Nat.zero_le _, Nat.zero_le _⟩ udX12_readsTones_79 (fun Ma22 H locs hp w => ?_)
          rcases hp with ⟨hW2, hF2⟩
          have hD2 : ES Ma22 T tn i y (tnO o1 0) := ES.w i0 hF2 ⟨hW2, okW_ins i0.2.2.2.2.1 (by omega) (by omega) (by omega), i0.2.2.2.2.2⟩
          have hF3 : FrE Ma22 M := FrE.tr i2 (FrE.w hF2)
          refine lv_aload_n hx hb udX12_readsTones_82 rfl (lv_at hl 2 rfl) ?_
          refine lv_dup hx hb udX12_readsTones_83 rfl ?_
          refine f_12_9 F w (a := 146) rfl utb_96 udX12_readsTones_84 ?_
          refine r_val (v := (zI (i : Int))) (hD2.2.1) ?_
          refine lv_iconst (v := zI 1) hx hb udX12_readsTones_87 rfl ?_
          refine z_iadd (z := (((i + 1) : Nat) : Int)) hx hb udX12_readsTones_88 (by omega) ?_
          refine u_12_9 F w (a := 146) rfl utb_96 udX12_readsTones_89 (fun H locs w => ?_)
          refine lv_aload_n hx hb udX12_readsTones_92 rfl (lv_at hl 2 rfl) ?_
          have hD23 : ES (st Ma22 146 9 (zI (((i + 1) : Nat) : Int))) T tn (i + 1) y (tnO o1 0) := ES.at hD2 (by omega)
          have fD23 : FrE (st Ma22 146 9 (zI (((i + 1) : Nat) : Int))) M := FrE.tr hF3 FrE.a
          refine k_Vv F w (As := []) (rest := []) (a := 146) (kd_lt (a := 146) (show kd 146 = (12, 0, 0) from rfl) (by decide)) (sh_12 rfl _ _) rfl (t_blanks hT hD23.1 hD23.2.1 hD23.2.2.1) ugv_X12_179 uhv_X12_blanks ⟨(by omega), (by omega)⟩ hl.1 rfl (Nat.le_of_ble_eq_true rfl) ⟨Nat.zero_le _, Nat.zero_le _⟩ udX12_readsTones_93 (fun Ma25 H locs hp w => ?_)
          rcases hp with ⟨hB24, gB24⟩
          have hkB24 := sk_le (T := T) (N := tn) (i := (i + 1)) (by omega)
          have hDB24 : ES Ma25 T tn (sk T tn (i + 1)) y (tnO o1 0) := ES.b hD23 gB24 hB24 (by omega)
          have fDB24 : FrE Ma25 M := FrE.tr fD23 (FrE.n9 gB24)
          refine lv_goto (tgt := 4) hx hb udX12_readsTones_96 (by decide) ?_
          exact False.elim (by omega)
        · refine lv_iconst (v := zI 0) hx hb udX12_readsTones_66 rfl ?_
          exact e_z F w hr hlocks (nar_z (by omega)) (Or.inr ⟨i1.symm.trans (rt_g (by omega) (by omega)), rfl, i0.o, i2⟩) udX12_readsTones_67
  | succ f ih =>
    intro i Nm o1 fu i0 i1 i2 i3 hf H locs ls w hl
    have hiN := i0.2.2.1
    have hn12 := i0.2.2.2.2.1.1
    refine lv_aload_n hx hb udX12_readsTones_4 rfl (lv_at hl 0 rfl) ?_
    refine x_Vi F w (As := []) (rest := []) (a := 146) (kd_lt (a := 146) (show kd 146 = (12, 0, 0) from rfl) (by decide)) (sh_12 rfl _ _) rfl (t_here hT i0.1 (A := i) i0.2.1 (by omega)) ugv_X12_175 uhv_X12_here ⟨(by omega), (by omega)⟩ hl.1 rfl (Nat.le_of_ble_eq_true rfl) ⟨Nat.zero_le _, Nat.zero_le _⟩ udX12_readsTones_5 (fun H locs w => ?_)
    have hg0 := sg_rg hT (i : Int)
    have hh0 := sg_c (T := T) (N := tn) i
    have ht0 := hT.2 i
    refine lv_bipush (v := zI 47) hx hb udX12_readsTones_8 (by decide) ?_
    refine z_icmp_eq (tgt := 99) hx hb (by omega) (by omega) udX12_readsTones_10 (by decide) (fun c2 => ?_) (fun c2 => ?_)
    · exact kk i Nm o1 fu _ _ ls (i1.symm.trans (rt_s (by omega) (by omega) (by omega))) i0 i2 (by omega) w (lv_sub hl [0] rfl)
    · refine lv_aload_n hx hb udX12_readsTones_13 rfl (lv_at hl 0 rfl) ?_
      refine x_Vi F w (As := []) (rest := []) (a := 146) (kd_lt (a := 146) (show kd 146 = (12, 0, 0) from rfl) (by decide)) (sh_12 rfl _ _) rfl (t_here hT i0.1 (A := i) i0.2.1 (by omega)) ugv_X12_175 uhv_X12_here ⟨(by omega), (by omega)⟩ hl.1 rfl (Nat.le_of_ble_eq_true rfl) ⟨Nat.zero_le _, Nat.zero_le _⟩ udX12_readsTones_14 (fun H locs w => ?_)
      have hg2 := sg_rg hT (i : Int)
      have hh2 := sg_c (T := T) (N := tn) i
      have ht2 := hT.2 i
      refine lv_istore_n (lv' := [(1, .int (zI (sg T tn (i : Int)))), (0, .ref (B + 146))]) hx hb udX12_readsTones_17 rfl hl (by decide) rfl (fun ls hl => ?_)
      refine lv_iload_n hx hb udX12_readsTones_18 rfl (lv_at hl 0 rfl) ?_
      refine lv_bipush (v := zI 108) hx hb udX12_readsTones_19 (by decide) ?_
      refine z_icmp_ne (tgt := 28) hx hb (by omega) (by omega) udX12_readsTones_21 (by decide) (fun c4 => ?_) (fun c4 => ?_)
      · refine lv_iload_n hx hb udX12_readsTones_28 rfl (lv_at hl 0 rfl) ?_
        refine lv_bipush (v := zI 109) hx hb udX12_readsTones_29 (by decide) ?_
        refine z_icmp_ne (tgt := 38) hx hb (by omega) (by omega) udX12_readsTones_31 (by decide) (fun c5 => ?_) (fun c5 => ?_)
        · refine lv_iload_n hx hb udX12_readsTones_38 rfl (lv_at hl 0 rfl) ?_
          refine lv_bipush (v := zI 104) hx hb udX12_readsTones_39 (by decide) ?_
          refine z_icmp_ne (tgt := 48) hx hb (by omega) (by omega) udX12_readsTones_41 (by decide) (fun c6 => ?_) (fun c6 => ?_)
          · refine lv_iconst (v := zI (-1)) hx hb udX12_readsTones_48 rfl ?_
            refine lv_istore_n (lv' := [(2, .int (zI (-1))), (1, .int (zI (sg T tn (i : Int)))), (0, .ref (B + 146))]) hx hb udX12_readsTones_49 rfl hl (by decide) rfl (fun ls hl => ?_)
            refine lv_iload_n hx hb udX12_readsTones_50 rfl (lv_at hl 0 rfl) ?_
            refine lv_iconst (v := zI (-1)) hx hb udX12_readsTones_51 rfl ?_
            refine z_icmp_eq (tgt := 66) hx hb (by omega) (by omega) udX12_readsTones_52 (by decide) (fun c7 => ?_) (fun c7 => False.elim (by omega))
            refine lv_iconst (v := zI 0) hx hb udX12_readsTones_66 rfl ?_
            exact e_z F w hr hlocks (nar_z (by omega)) (Or.inr ⟨i1.symm.trans (rt_g (by omega) (by omega)), rfl, i0.o, i2⟩) udX12_readsTones_67
          · refine lv_iconst (v := zI 2) hx hb udX12_readsTones_44 rfl ?_
            refine lv_goto (tgt := 49) hx hb udX12_readsTones_45 (by decide) ?_
            refine lv_istore_n (lv' := [(2, .int (zI 2)), (1, .int (zI (sg T tn (i : Int)))), (0, .ref (B + 146))]) hx hb udX12_readsTones_49 rfl hl (by decide) rfl (fun ls hl => ?_)
            refine lv_iload_n hx hb udX12_readsTones_50 rfl (lv_at hl 0 rfl) ?_
            refine lv_iconst (v := zI (-1)) hx hb udX12_readsTones_51 rfl ?_
            refine z_icmp_eq (tgt := 66) hx hb (by omega) (by omega) udX12_readsTones_52 (by decide) (fun c8 => False.elim (by omega)) (fun c8 => ?_)
            refine lv_aload_n hx hb udX12_readsTones_55 rfl (lv_at hl 2 rfl) ?_
            refine f_12_10 F w (a := 146) rfl utb_93 udX12_readsTones_56 ?_
            refine lv_iconst (v := zI 0) hx hb udX12_readsTones_59 rfl ?_
            refine g_iald F w (a := 151) rfl (j := 0) ⟨by decide, by decide⟩ (by omega) udX12_readsTones_60 ?_
            have hn8 := i0.2.2.2.2.1.1
            refine r_val (v := (zI ((o1.1 : Nat) : Int))) (i0.2.2.2.1.1) ?_
            refine lv_bipush (v := zI 12) hx hb udX12_readsTones_61 (by decide) ?_
            refine z_icmp_ne (tgt := 68) hx hb (by omega) (by omega) udX12_readsTones_63 (by decide) (fun c9 => ?_) (fun c9 => ?_)
            · refine lv_aload_n hx hb udX12_readsTones_68 rfl (lv_at hl 2 rfl) ?_
              refine f_12_10 F w (a := 146) rfl utb_93 udX12_readsTones_69 ?_
              refine lv_aload_n hx hb udX12_readsTones_72 rfl (lv_at hl 2 rfl) ?_
              refine f_12_10 F w (a := 146) rfl utb_93 udX12_readsTones_73 ?_
              refine lv_iconst (v := zI 0) hx hb udX12_readsTones_76 rfl ?_
              refine g_iald F w (a := 151) rfl (j := 0) ⟨by decide, by decide⟩ (by omega) udX12_readsTones_77 ?_
              have hn9 := i0.2.2.2.2.1.1
              refine r_val (v := (zI ((o1.1 : Nat) : Int))) (i0.2.2.2.1.1) ?_
              refine lv_iload_n hx hb udX12_readsTones_78 rfl (lv_at hl 0 rfl) ?_
              refine k_Sv F w (As := [.ref (B + 151), .int (zI ((o1.1 : Nat) : Int)), .int (zI 2)]) (rest := []) (s_X12_insert (a := 151) rfl i0.2.2.2.1 i0.2.2.2.wf (t := o1.1) (x := 2) (by omega) (by omega) (by omega)) ugs_X12_112 uhs_X12_insert ⟨(by omega), (by omega)⟩ hl.1 rfl (Nat.le_of_ble_eq_true rfl) ⟨Nat.zero_le _, Nat.zero_le _⟩ udX12_readsTones_79 (fun Ma10 H locs hp w => ?_)
              rcases hp with ⟨hW2, hF2⟩
              have hD2 : ES Ma10 T tn i y (tnO o1 2) := ES.w i0 hF2 ⟨hW2, okW_ins i0.2.2.2.2.1 (by omega) (by omega) (by omega), i0.2.2.2.2.2⟩
              have hF3 : FrE Ma10 M := FrE.tr i2 (FrE.w hF2)
              refine lv_aload_n hx hb udX12_readsTones_82 rfl (lv_at hl 2 rfl) ?_
              refine lv_dup hx hb udX12_readsTones_83 rfl ?_
              refine f_12_9 F w (a := 146) rfl utb_96 udX12_readsTones_84 ?_
              refine r_val (v := (zI (i : Int))) (hD2.2.1) ?_
              refine lv_iconst (v := zI 1) hx hb udX12_readsTones_87 rfl ?_
              refine z_iadd (z := (((i + 1) : Nat) : Int)) hx hb udX12_readsTones_88 (by omega) ?_
              refine u_12_9 F w (a := 146) rfl utb_96 udX12_readsTones_89 (fun H locs w => ?_)
              refine lv_aload_n hx hb udX12_readsTones_92 rfl (lv_at hl 2 rfl) ?_
              have hD11 : ES (st Ma10 146 9 (zI (((i + 1) : Nat) : Int))) T tn (i + 1) y (tnO o1 2) := ES.at hD2 (by omega)
              have fD11 : FrE (st Ma10 146 9 (zI (((i + 1) : Nat) : Int))) M := FrE.tr hF3 FrE.a
              refine k_Vv F w (As := []) (rest := []) (a := 146) (kd_lt (a := 146) (show kd 146 = (12, 0, 0) from rfl) (by decide)) (sh_12 rfl _ _) rfl (t_blanks hT hD11.1 hD11.2.1 hD11.2.2.1) ugv_X12_179 uhv_X12_blanks ⟨(by omega), (by omega)⟩ hl.1 rfl (Nat.le_of_ble_eq_true rfl) ⟨Nat.zero_le _, Nat.zero_le _⟩ udX12_readsTones_93 (fun Ma13 H locs hp w => ?_)
              rcases hp with ⟨hB12, gB12⟩
              have hkB12 := sk_le (T := T) (N := tn) (i := (i + 1)) (by omega)
              have hDB12 : ES Ma13 T tn (sk T tn (i + 1)) y (tnO o1 2) := ES.b hD11 gB12 hB12 (by omega)
              have fDB12 : FrE Ma13 M := FrE.tr fD11 (FrE.n9 gB12)
              refine lv_goto (tgt := 4) hx hb udX12_readsTones_96 (by decide) ?_
              exact ih (sk T tn (i + 1)) Ma13 (tnO o1 2) (fu - 1) hDB12 ((rt_y (k := 2) (by omega) (by omega) (by have h9 := knd_a ((T i : Nat) : Int); omega) (by omega) (by omega)).symm.trans i1) fDB12 (by omega) (by omega) _ _ ls w (lv_sub hl [2] rfl)
            · refine lv_iconst (v := zI 0) hx hb udX12_readsTones_66 rfl ?_
              exact e_z F w hr hlocks (nar_z (by omega)) (Or.inr ⟨i1.symm.trans (rt_g (by omega) (by omega)), rfl, i0.o, i2⟩) udX12_readsTones_67
        · refine lv_iconst (v := zI 1) hx hb udX12_readsTones_34 rfl ?_
          refine lv_goto (tgt := 49) hx hb udX12_readsTones_35 (by decide) ?_
          refine lv_istore_n (lv' := [(2, .int (zI 1)), (1, .int (zI (sg T tn (i : Int)))), (0, .ref (B + 146))]) hx hb udX12_readsTones_49 rfl hl (by decide) rfl (fun ls hl => ?_)
          refine lv_iload_n hx hb udX12_readsTones_50 rfl (lv_at hl 0 rfl) ?_
          refine lv_iconst (v := zI (-1)) hx hb udX12_readsTones_51 rfl ?_
          refine z_icmp_eq (tgt := 66) hx hb (by omega) (by omega) udX12_readsTones_52 (by decide) (fun c14 => False.elim (by omega)) (fun c14 => ?_)
          refine lv_aload_n hx hb udX12_readsTones_55 rfl (lv_at hl 2 rfl) ?_
          refine f_12_10 F w (a := 146) rfl utb_93 udX12_readsTones_56 ?_
          refine lv_iconst (v := zI 0) hx hb udX12_readsTones_59 rfl ?_
          refine g_iald F w (a := 151) rfl (j := 0) ⟨by decide, by decide⟩ (by omega) udX12_readsTones_60 ?_
          have hn14 := i0.2.2.2.2.1.1
          refine r_val (v := (zI ((o1.1 : Nat) : Int))) (i0.2.2.2.1.1) ?_
          refine lv_bipush (v := zI 12) hx hb udX12_readsTones_61 (by decide) ?_
          refine z_icmp_ne (tgt := 68) hx hb (by omega) (by omega) udX12_readsTones_63 (by decide) (fun c15 => ?_) (fun c15 => ?_)
          · refine lv_aload_n hx hb udX12_readsTones_68 rfl (lv_at hl 2 rfl) ?_
            refine f_12_10 F w (a := 146) rfl utb_93 udX12_readsTones_69 ?_
            refine lv_aload_n hx hb udX12_readsTones_72 rfl (lv_at hl 2 rfl) ?_
            refine f_12_10 F w (a := 146) rfl utb_93 udX12_readsTones_73 ?_
            refine lv_iconst (v := zI 0) hx hb udX12_readsTones_76 rfl ?_
            refine g_iald F w (a := 151) rfl (j := 0) ⟨by decide, by decide⟩ (by omega) udX12_readsTones_77 ?_
            have hn15 := i0.2.2.2.2.1.1
            refine r_val (v := (zI ((o1.1 : Nat) : Int))) (i0.2.2.2.1.1) ?_
            refine lv_iload_n hx hb udX12_readsTones_78 rfl (lv_at hl 0 rfl) ?_
            refine k_Sv F w (As := [.ref (B + 151), .int (zI ((o1.1 : Nat) : Int)), .int (zI 1)]) (rest := []) (s_X12_insert (a := 151) rfl i0.2.2.2.1 i0.2.2.2.wf (t := o1.1) (x := 1) (by omega) (by omega) (by omega)) ugs_X12_112 uhs_X12_insert ⟨(by omega), (by omega)⟩ hl.1 rfl (Nat.le_of_ble_eq_true rfl) ⟨Nat.zero_le _, Nat.zero_le _⟩ udX12_readsTones_79 (fun Ma16 H locs hp w => ?_)
            rcases hp with ⟨hW2, hF2⟩
            have hD2 : ES Ma16 T tn i y (tnO o1 1) := ES.w i0 hF2 ⟨hW2, okW_ins i0.2.2.2.2.1 (by omega) (by omega) (by omega), i0.2.2.2.2.2⟩
            have hF3 : FrE Ma16 M := FrE.tr i2 (FrE.w hF2)
            refine lv_aload_n hx hb udX12_readsTones_82 rfl (lv_at hl 2 rfl) ?_
            refine lv_dup hx hb udX12_readsTones_83 rfl ?_
            refine f_12_9 F w (a := 146) rfl utb_96 udX12_readsTones_84 ?_
            refine r_val (v := (zI (i : Int))) (hD2.2.1) ?_
            refine lv_iconst (v := zI 1) hx hb udX12_readsTones_87 rfl ?_
            refine z_iadd (z := (((i + 1) : Nat) : Int)) hx hb udX12_readsTones_88 (by omega) ?_
            refine u_12_9 F w (a := 146) rfl utb_96 udX12_readsTones_89 (fun H locs w => ?_)
            refine lv_aload_n hx hb udX12_readsTones_92 rfl (lv_at hl 2 rfl) ?_
            have hD17 : ES (st Ma16 146 9 (zI (((i + 1) : Nat) : Int))) T tn (i + 1) y (tnO o1 1) := ES.at hD2 (by omega)
            have fD17 : FrE (st Ma16 146 9 (zI (((i + 1) : Nat) : Int))) M := FrE.tr hF3 FrE.a
            refine k_Vv F w (As := []) (rest := []) (a := 146) (kd_lt (a := 146) (show kd 146 = (12, 0, 0) from rfl) (by decide)) (sh_12 rfl _ _) rfl (t_blanks hT hD17.1 hD17.2.1 hD17.2.2.1) ugv_X12_179 uhv_X12_blanks ⟨(by omega), (by omega)⟩ hl.1 rfl (Nat.le_of_ble_eq_true rfl) ⟨Nat.zero_le _, Nat.zero_le _⟩ udX12_readsTones_93 (fun Ma19 H locs hp w => ?_)
            rcases hp with ⟨hB18, gB18⟩
            have hkB18 := sk_le (T := T) (N := tn) (i := (i + 1)) (by omega)
            have hDB18 : ES Ma19 T tn (sk T tn (i + 1)) y (tnO o1 1) := ES.b hD17 gB18 hB18 (by omega)
            have fDB18 : FrE Ma19 M := FrE.tr fD17 (FrE.n9 gB18)
            refine lv_goto (tgt := 4) hx hb udX12_readsTones_96 (by decide) ?_
            exact ih (sk T tn (i + 1)) Ma19 (tnO o1 1) (fu - 1) hDB18 ((rt_y (k := 1) (by omega) (by omega) (by have h9 := knd_a ((T i : Nat) : Int); omega) (by omega) (by omega)).symm.trans i1) fDB18 (by omega) (by omega) _ _ ls w (lv_sub hl [2] rfl)
          · refine lv_iconst (v := zI 0) hx hb udX12_readsTones_66 rfl ?_
            exact e_z F w hr hlocks (nar_z (by omega)) (Or.inr ⟨i1.symm.trans (rt_g (by omega) (by omega)), rfl, i0.o, i2⟩) udX12_readsTones_67
      · refine lv_iconst (v := zI 0) hx hb udX12_readsTones_24 rfl ?_
        refine lv_goto (tgt := 49) hx hb udX12_readsTones_25 (by decide) ?_
        refine lv_istore_n (lv' := [(2, .int (zI 0)), (1, .int (zI (sg T tn (i : Int)))), (0, .ref (B + 146))]) hx hb udX12_readsTones_49 rfl hl (by decide) rfl (fun ls hl => ?_)
        refine lv_iload_n hx hb udX12_readsTones_50 rfl (lv_at hl 0 rfl) ?_
        refine lv_iconst (v := zI (-1)) hx hb udX12_readsTones_51 rfl ?_
        refine z_icmp_eq (tgt := 66) hx hb (by omega) (by omega) udX12_readsTones_52 (by decide) (fun c20 => False.elim (by omega)) (fun c20 => ?_)
        refine lv_aload_n hx hb udX12_readsTones_55 rfl (lv_at hl 2 rfl) ?_
        refine f_12_10 F w (a := 146) rfl utb_93 udX12_readsTones_56 ?_
        refine lv_iconst (v := zI 0) hx hb udX12_readsTones_59 rfl ?_
        refine g_iald F w (a := 151) rfl (j := 0) ⟨by decide, by decide⟩ (by omega) udX12_readsTones_60 ?_
        have hn20 := i0.2.2.2.2.1.1
        refine r_val (v := (zI ((o1.1 : Nat) : Int))) (i0.2.2.2.1.1) ?_
        refine lv_bipush (v := zI 12) hx hb udX12_readsTones_61 (by decide) ?_
        refine z_icmp_ne (tgt := 68) hx hb (by omega) (by omega) udX12_readsTones_63 (by decide) (fun c21 => ?_) (fun c21 => ?_)
        · refine lv_aload_n hx hb udX12_readsTones_68 rfl (lv_at hl 2 rfl) ?_
          refine f_12_10 F w (a := 146) rfl utb_93 udX12_readsTones_69 ?_
          refine lv_aload_n hx hb udX12_readsTones_72 rfl (lv_at hl 2 rfl) ?_
          refine f_12_10 F w (a := 146) rfl utb_93 udX12_readsTones_73 ?_
          refine lv_iconst (v := zI 0) hx hb udX12_readsTones_76 rfl ?_
          refine g_iald F w (a := 151) rfl (j := 0) ⟨by decide, by decide⟩ (by omega) udX12_readsTones_77 ?_
          have hn21 := i0.2.2.2.2.1.1
          refine r_val (v := (zI ((o1.1 : Nat) : Int))) (i0.2.2.2.1.1) ?_
          refine lv_iload_n hx hb udX12_readsTones_78 rfl (lv_at hl 0 rfl) ?_
          refine k_Sv F w (As := [.ref (B + 151), .int (zI ((o1.1 : Nat) : Int)), .int (zI 0)]) (rest := []) (s_X12_insert (a := 151) rfl i0.2.2.2.1 i0.2.2.2.wf (t := o1.1) (x := 0) (by omega) (by omega) (by omega)) ugs_X12_112 uhs_X12_insert ⟨(by omega), (by omega)⟩ hl.1 rfl (Nat.le_of_ble_eq_true rfl) ⟨Nat.zero_le _, Nat.zero_le _⟩ udX12_readsTones_79 (fun Ma22 H locs hp w => ?_)
          rcases hp with ⟨hW2, hF2⟩
          have hD2 : ES Ma22 T tn i y (tnO o1 0) := ES.w i0 hF2 ⟨hW2, okW_ins i0.2.2.2.2.1 (by omega) (by omega) (by omega), i0.2.2.2.2.2⟩
          have hF3 : FrE Ma22 M := FrE.tr i2 (FrE.w hF2)
          refine lv_aload_n hx hb udX12_readsTones_82 rfl (lv_at hl 2 rfl) ?_
          refine lv_dup hx hb udX12_readsTones_83 rfl ?_
          refine f_12_9 F w (a := 146) rfl utb_96 udX12_readsTones_84 ?_
          refine r_val (v := (zI (i : Int))) (hD2.2.1) ?_
          refine lv_iconst (v := zI 1) hx hb udX12_readsTones_87 rfl ?_
          refine z_iadd (z := (((i + 1) : Nat) : Int)) hx hb udX12_readsTones_88 (by omega) ?_
          refine u_12_9 F w (a := 146) rfl utb_96 udX12_readsTones_89 (fun H locs w => ?_)
          refine lv_aload_n hx hb udX12_readsTones_92 rfl (lv_at hl 2 rfl) ?_
          have hD23 : ES (st Ma22 146 9 (zI (((i + 1) : Nat) : Int))) T tn (i + 1) y (tnO o1 0) := ES.at hD2 (by omega)
          have fD23 : FrE (st Ma22 146 9 (zI (((i + 1) : Nat) : Int))) M := FrE.tr hF3 FrE.a
          refine k_Vv F w (As := []) (rest := []) (a := 146) (kd_lt (a := 146) (show kd 146 = (12, 0, 0) from rfl) (by decide)) (sh_12 rfl _ _) rfl (t_blanks hT hD23.1 hD23.2.1 hD23.2.2.1) ugv_X12_179 uhv_X12_blanks ⟨(by omega), (by omega)⟩ hl.1 rfl (Nat.le_of_ble_eq_true rfl) ⟨Nat.zero_le _, Nat.zero_le _⟩ udX12_readsTones_93 (fun Ma25 H locs hp w => ?_)
          rcases hp with ⟨hB24, gB24⟩
          have hkB24 := sk_le (T := T) (N := tn) (i := (i + 1)) (by omega)
          have hDB24 : ES Ma25 T tn (sk T tn (i + 1)) y (tnO o1 0) := ES.b hD23 gB24 hB24 (by omega)
          have fDB24 : FrE Ma25 M := FrE.tr fD23 (FrE.n9 gB24)
          refine lv_goto (tgt := 4) hx hb udX12_readsTones_96 (by decide) ?_
          exact ih (sk T tn (i + 1)) Ma25 (tnO o1 0) (fu - 1) hDB24 ((rt_y (k := 0) (by omega) (by omega) (by have h9 := knd_a ((T i : Nat) : Int); omega) (by omega) (by omega)).symm.trans i1) fDB24 (by omega) (by omega) _ _ ls w (lv_sub hl [2] rfl)
        · refine lv_iconst (v := zI 0) hx hb udX12_readsTones_66 rfl ?_
          exact e_z F w hr hlocks (nar_z (by omega)) (Or.inr ⟨i1.symm.trans (rt_g (by omega) (by omega)), rfl, i0.o, i2⟩) udX12_readsTones_67
theorem udX12_readsTones_0 : decode cX12_readsTones 0 = .ok (.aload_n 0, 1) := dq0 kk_42 (by decide +kernel)
theorem udX12_readsTones_1 : decode cX12_readsTones 1 = .ok (.invokevirtual 179, 3) := dqV kk_182 (by decide +kernel)
theorem udX12_readsTones_99 : decode cX12_readsTones 99 = .ok (.aload_n 0, 1) := dq0 kk_42 (by decide +kernel)
theorem udX12_readsTones_100 : decode cX12_readsTones 100 = .ok (.dup, 1) := dq0 kk_89 (by decide +kernel)
theorem udX12_readsTones_101 : decode cX12_readsTones 101 = .ok (.getfield 172, 3) := dqV kk_180 (by decide +kernel)
theorem udX12_readsTones_104 : decode cX12_readsTones 104 = .ok (.iconst 1, 1) := dq0 kk_4 (by decide +kernel)
theorem udX12_readsTones_105 : decode cX12_readsTones 105 = .ok (.iadd, 1) := dq0 kk_96 (by decide +kernel)
theorem udX12_readsTones_106 : decode cX12_readsTones 106 = .ok (.putfield 172, 3) := dqV kk_181 (by decide +kernel)
theorem udX12_readsTones_109 : decode cX12_readsTones 109 = .ok (.iconst 1, 1) := dq0 kk_4 (by decide +kernel)
theorem udX12_readsTones_110 : decode cX12_readsTones 110 = .ok (.ireturn, 1) := dq0 kk_172 (by decide +kernel)
set_option maxRecDepth 4000 in
theorem t_readsTones {l : Launch} {D : va_G} {B : Nat} {cy : Nat → ClassId} {M : Mem} {T : Nat → Nat} {tn : Nat} (hT : okT T tn) {b : Nat} {y : Sy} {o : Wo} (hD : ES M T tn b y o) : Ci l D B cy yX12_readsTones cX12_readsTones 3 (some .boolean) 2 40 [.ref (B + 146)] M (fun r M1 => ETQ T tn (rtF T tn 301 (sk T tn b) o) y M r M1) := by
  refine s_any (by decide) (Nat.le_of_ble_eq_true rfl) ?_
  intro p e s m below meth c ls F hr hlocks w hl
  have F : CallFix p m c cX12_readsTones 3 s _ TB RX12 := F
  have hx := F.1
  have hb := F.2.1
  have hl : lv_has ls 3 [(0, .ref (B + 146))] := hl
  have hN := hT.1
  have hbN := hD.2.2.1
  refine lv_aload_n hx hb udX12_readsTones_0 rfl (lv_at hl 0 rfl) ?_
  refine k_Vv F w (As := []) (rest := []) (a := 146) (kd_lt (a := 146) (show kd 146 = (12, 0, 0) from rfl) (by decide)) (sh_12 rfl _ _) rfl (t_blanks hT hD.1 hD.2.1 hD.2.2.1) ugv_X12_179 uhv_X12_blanks ⟨(Nat.le_of_ble_eq_true rfl), (Nat.le_of_ble_eq_true rfl)⟩ hl.1 rfl (Nat.le_of_ble_eq_true rfl) ⟨Nat.zero_le _, Nat.zero_le _⟩ udX12_readsTones_1 (fun Ma2 H locs hp w => ?_)
  rcases hp with ⟨hB1, gB1⟩
  have hkB1 := sk_le (T := T) (N := tn) (i := b) (by omega)
  have hDB1 : ES Ma2 T tn (sk T tn b) y o := ES.b hD gB1 hB1 (by omega)
  have fDB1 : FrE Ma2 M := FrE.tr FrE.rf (FrE.n9 gB1)
  refine lp_X12_rtones  F hr hlocks (Nat.le_of_ble_eq_true rfl) (Nat.le_of_ble_eq_true rfl) hT (fun i Nm o1 fu H locs ls x0 x1 x2 x3 w hl => ?_) tn (sk T tn b) Ma2 o 301 hDB1 rfl fDB1 (by omega) (by omega) _ _ ls w (lv_sub hl [0] rfl)
  refine lv_aload_n hx hb udX12_readsTones_99 rfl (lv_at hl 0 rfl) ?_
  refine lv_dup hx hb udX12_readsTones_100 rfl ?_
  refine f_12_9 F w (a := 146) rfl utb_96 udX12_readsTones_101 ?_
  refine r_val (v := (zI (i : Int))) (x1.2.1) ?_
  refine lv_iconst (v := zI 1) hx hb udX12_readsTones_104 rfl ?_
  refine z_iadd (z := (((i + 1) : Nat) : Int)) hx hb udX12_readsTones_105 (by omega) ?_
  refine u_12_9 F w (a := 146) rfl utb_96 udX12_readsTones_106 (fun H locs w => ?_)
  refine lv_iconst (v := zI 1) hx hb udX12_readsTones_109 rfl ?_
  have hD3 : ES (st Nm 146 9 (zI (((i + 1) : Nat) : Int))) T tn (i + 1) y o1 := ES.at x1 (by omega)
  have fD3 : FrE (st Nm 146 9 (zI (((i + 1) : Nat) : Int))) M := FrE.tr x2 FrE.a
  exact e_z F w hr hlocks (nar_z (by omega)) (Or.inl ⟨_, _, x0, rfl, hD3, fD3⟩) udX12_readsTones_110
