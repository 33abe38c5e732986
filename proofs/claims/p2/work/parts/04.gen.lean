theorem sA_ne {M : Mem} {a b k : Nat} {f : Nat → Int32} (h : b ≠ a) : (sA M a f).1 b k = M.1 b k := by simp [sA, h]
theorem hv_ext {M M1 : Mem} {a : Nat} (h : ∀ b, b ≠ a → M.1 b = M1.1 b) (h2 : M.2 = M1.2) : M = sA M1 a (M.1 a) := by
  refine Prod.ext (funext fun b => ?_) h2
  show M.1 b = if b = a then M.1 a else M1.1 b
  by_cases hb : b = a
  · subst hb; simp
  · rw [if_neg hb]; exact h b hb
theorem hv_some {D : va_G} {B : Nat} {cy : Nat → ClassId} {s : State} {H0 H : Heap} {M : Mem} {locs : List Loc} {a k : Nat} {x : Int32} (w : Wd D B cy s H0 (st M a k x) H locs) : ∃ f, Wd D B cy s H0 (sA M a f) H locs := ⟨_, w⟩
theorem st_hi {M : Mem} {a k b : Nat} {x : Int32} (h : b ≠ a) : (st M a k x).1 b = M.1 b := by simp [st, sA, h]
theorem sA_hi {M : Mem} {a b : Nat} {f : Nat → Int32} (h : b ≠ a) : (sA M a f).1 b = M.1 b := by simp [sA, h]
theorem goodIn_c2 {w : Cond} (h : w ∈ TB) : GoodIn TB (w :: TB) := fun v hv => (List.mem_cons.mp hv).elim (fun e => e ▸ TB_good w h) (fun h2 => TB_good v h2)
theorem goodIn_3 {a b c : Cond} {ws : List Cond} (ha : a ∈ TB) (hb : b ∈ TB) (hc : c ∈ TB) (h : GoodIn TB ws) : GoodIn TB ([a, b, c] ++ ws) := by
  intro v hv
  rcases List.mem_append.mp hv with hv | hv
  · simp only [List.mem_cons, List.not_mem_nil, or_false] at hv
    rcases hv with rfl | rfl | rfl
    · exact TB_good _ ha
    · exact TB_good _ hb
    · exact TB_good _ hc
  · exact h v hv
theorem goodIn_4 {a b c d : Cond} {ws : List Cond} (ha : a ∈ TB) (hb : b ∈ TB) (hc : c ∈ TB) (hd : d ∈ TB) (h : GoodIn TB ws) : GoodIn TB ([a, b, c, d] ++ ws) := by
  intro v hv
  rcases List.mem_append.mp hv with hv | hv
  · simp only [List.mem_cons, List.not_mem_nil, or_false] at hv
    rcases hv with rfl | rfl | rfl | rfl
    · exact TB_good _ ha
    · exact TB_good _ hb
    · exact TB_good _ hc
    · exact TB_good _ hd
  · exact h v hv
-- WORDS: what a memory holds at a word's place
def isW (M : Mem) (a n q hv ed : Nat) (K L : Nat → Nat) : Prop := M.1 a 0 = zI (n : Int) ∧ M.1 a 1 = zI (q : Int) ∧ M.1 a 2 = zI (hv : Int) ∧ M.1 a 3 = zI (ed : Int) ∧ (∀ k, k < n → M.1 (a + 1) k = zI (K k : Int)) ∧ ∀ k, k < n → M.1 (a + 2) k = zI (L k : Int)
def wf (n q hv ed : Nat) (K L : Nat → Nat) : Prop := n ≤ 12 ∧ q ≤ 12 ∧ hv < 4096 ∧ ed < 4096 ∧ ∀ k, k < n → K k ≤ 2 ∧ L k < 4096
theorem kd_w1 {a : Nat} (hk : kd a = (9, 0, 0)) : kd (a + 1) = (22, 12, 0) := by
  have h : ∀ a, a < 159 → kd a = (9, 0, 0) → kd (a + 1) = (22, 12, 0) := by decide +kernel
  exact h a (kd_lt hk (by decide)) hk
theorem kd_w2 {a : Nat} (hk : kd a = (9, 0, 0)) : kd (a + 2) = (22, 12, 0) := by
  have h : ∀ a, a < 159 → kd a = (9, 0, 0) → kd (a + 2) = (22, 12, 0) := by decide +kernel
  exact h a (kd_lt hk (by decide)) hk
/-- all lines together -/
def orL (L : Nat → Nat) : Nat → Nat
  | 0 => 0
  | t + 1 => orL L t ||| L t
theorem orL_lt {L : Nat → Nat} {b : Nat} : ∀ {n : Nat}, (∀ k, k < n → L k < 2 ^ b) → orL L n < 2 ^ b
  | 0, _ => Nat.two_pow_pos b
  | n + 1, h => Nat.or_lt_two_pow (orL_lt (fun k hk => h k (by omega))) (h n (by omega))
theorem orL_bit {L : Nat → Nat} {i : Nat} : ∀ {n : Nat}, (orL L n).testBit i = true ↔ ∃ k, k < n ∧ (L k).testBit i = true
  | 0 => by simp [orL]
  | n + 1 => by
    rw [orL, Nat.testBit_or, Bool.or_eq_true, orL_bit]
    constructor
    · rintro (⟨k, h1, h2⟩ | h)
      · exact ⟨k, by omega, h2⟩
      · exact ⟨n, by omega, h⟩
    · rintro ⟨k, h1, h2⟩
      by_cases hk : k = n
      · subst hk; exact Or.inr h2
      · exact Or.inl ⟨k, by omega, h2⟩
theorem dX9_hasTone_0 : decode cX9_hasTone 0 = .ok (.iload_n 1, 1) := by decide +kernel
theorem dX9_hasTone_1 : decode cX9_hasTone 1 = .ok (.ifCond .lt 21, 3) := by decide +kernel
theorem dX9_hasTone_22 : decode cX9_hasTone 22 = .ok (.iconst 0, 1) := by decide +kernel
theorem dX9_hasTone_23 : decode cX9_hasTone 23 = .ok (.ireturn, 1) := by decide +kernel
theorem dX9_hasTone_4 : decode cX9_hasTone 4 = .ok (.iload_n 1, 1) := by decide +kernel
theorem dX9_hasTone_5 : decode cX9_hasTone 5 = .ok (.aload_n 0, 1) := by decide +kernel
theorem dX9_hasTone_6 : decode cX9_hasTone 6 = .ok (.getfield 9, 3) := by decide +kernel
theorem tb_0 : Cond.fieldLink "ToneLines$Word" 9 "ToneLines$Word" "tones" "I" ∈ TB := tbm (tc1 (List.mem_of_getElem? (i := 129) rfl)) rfl
theorem dX9_hasTone_9 : decode cX9_hasTone 9 = .ok (.if_icmp .ge 13, 3) := by decide +kernel
theorem dX9_hasTone_12 : decode cX9_hasTone 12 = .ok (.iload_n 1, 1) := by decide +kernel
theorem dX9_hasTone_13 : decode cX9_hasTone 13 = .ok (.bipush 12, 2) := by decide +kernel
theorem dX9_hasTone_15 : decode cX9_hasTone 15 = .ok (.if_icmp .ge 7, 3) := by decide +kernel
theorem dX9_hasTone_18 : decode cX9_hasTone 18 = .ok (.iconst 1, 1) := by decide +kernel
theorem dX9_hasTone_19 : decode cX9_hasTone 19 = .ok (.goto 4, 3) := by decide +kernel
set_option maxRecDepth 4000 in
theorem s_X9_hasTone {l : Launch} {D : va_G} {B : Nat} {cy : Nat → ClassId} {M : Mem} {a n q hv ed : Nat} {K L : Nat → Nat} (hk : kd a = (9, 0, 0)) (hW : isW M a n q hv ed K L) (hwf : wf n q hv ed K L) {t : Int} (ht : rg t) : Ci l D B cy yX9_hasTone cX9_hasTone 2 (some .boolean) 0 0 [.ref (B + a), .int (zI t)] M (fun r M1 => ((∃ k : Nat, t = (k : Int) ∧ k < n ∧ r = zI 1) ∨ (¬ (0 ≤ t ∧ t < (n : Int)) ∧ r = zI 0)) ∧ M1 = M) := by
  refine s_any (by decide) (Nat.le_of_ble_eq_true rfl) ?_
  intro p e s m below meth c ls F hr hlocks w hl
  have F : CallFix p m c cX9_hasTone 2 s _ TB RX9 := F
  have hx := F.1
  have hb := F.2.1
  have hl : lv_has ls 2 [(0, .ref (B + a)), (1, .int (zI t))] := hl
  have hwf0 := hwf
  obtain ⟨hn, hq, hhv, hed, hKL⟩ := hwf0
  refine lv_iload_n hx hb dX9_hasTone_0 rfl (lv_at hl 1 rfl) ?_
  refine z_if_lt (tgt := 22) hx hb (by omega) dX9_hasTone_1 (by decide) (fun c1 => ?_) (fun c1 => ?_)
  · refine lv_iconst (v := zI 0) hx hb dX9_hasTone_22 rfl ?_
    exact e_z F w hr hlocks (by decide) ⟨Or.inr ⟨by omega, rfl⟩, rfl⟩ dX9_hasTone_23
  · refine lv_iload_n hx hb dX9_hasTone_4 rfl (lv_at hl 1 rfl) ?_
    refine lv_aload_n hx hb dX9_hasTone_5 rfl (lv_at hl 0 rfl) ?_
    refine f_9_0 F w (a := a) hk tb_0 dX9_hasTone_6 ?_
    refine r_val (v := (zI (n : Int))) (hW.1) ?_
    refine z_icmp_ge (tgt := 22) hx hb (by omega) (by omega) dX9_hasTone_9 (by decide) (fun c2 => ?_) (fun c2 => ?_)
    · refine lv_iconst (v := zI 0) hx hb dX9_hasTone_22 rfl ?_
      exact e_z F w hr hlocks (by decide) ⟨Or.inr ⟨by omega, rfl⟩, rfl⟩ dX9_hasTone_23
    · refine lv_iload_n hx hb dX9_hasTone_12 rfl (lv_at hl 1 rfl) ?_
      refine lv_bipush (v := zI 12) hx hb dX9_hasTone_13 (by decide) ?_
      refine z_icmp_ge (tgt := 22) hx hb (by omega) (by omega) dX9_hasTone_15 (by decide) (fun c3 => ?_) (fun c3 => ?_)
      · refine lv_iconst (v := zI 0) hx hb dX9_hasTone_22 rfl ?_
        exact e_z F w hr hlocks (by decide) ⟨Or.inr ⟨by omega, rfl⟩, rfl⟩ dX9_hasTone_23
      · refine lv_iconst (v := zI 1) hx hb dX9_hasTone_18 rfl ?_
        refine lv_goto (tgt := 23) hx hb dX9_hasTone_19 (by decide) ?_
        exact e_z F w hr hlocks (by decide) ⟨Or.inl ⟨t.toNat, by omega, by omega, rfl⟩, rfl⟩ dX9_hasTone_23
theorem dX9_hasSyllable_0 : decode cX9_hasSyllable 0 = .ok (.iload_n 1, 1) := by decide +kernel
theorem dX9_hasSyllable_1 : decode cX9_hasSyllable 1 = .ok (.ifCond .lt 15, 3) := by decide +kernel
theorem dX9_hasSyllable_16 : decode cX9_hasSyllable 16 = .ok (.iconst 0, 1) := by decide +kernel
theorem dX9_hasSyllable_17 : decode cX9_hasSyllable 17 = .ok (.ireturn, 1) := by decide +kernel
theorem dX9_hasSyllable_4 : decode cX9_hasSyllable 4 = .ok (.iload_n 1, 1) := by decide +kernel
theorem dX9_hasSyllable_5 : decode cX9_hasSyllable 5 = .ok (.aload_n 0, 1) := by decide +kernel
theorem dX9_hasSyllable_6 : decode cX9_hasSyllable 6 = .ok (.getfield 15, 3) := by decide +kernel
theorem tb_1 : Cond.fieldLink "ToneLines$Word" 15 "ToneLines$Word" "syllables" "I" ∈ TB := tbm (tc1 (List.mem_of_getElem? (i := 134) rfl)) rfl
theorem dX9_hasSyllable_9 : decode cX9_hasSyllable 9 = .ok (.if_icmp .ge 7, 3) := by decide +kernel
theorem dX9_hasSyllable_12 : decode cX9_hasSyllable 12 = .ok (.iconst 1, 1) := by decide +kernel
theorem dX9_hasSyllable_13 : decode cX9_hasSyllable 13 = .ok (.goto 4, 3) := by decide +kernel
set_option maxRecDepth 4000 in
theorem s_X9_hasSyllable {l : Launch} {D : va_G} {B : Nat} {cy : Nat → ClassId} {M : Mem} {a n q hv ed : Nat} {K L : Nat → Nat} (hk : kd a = (9, 0, 0)) (hW : isW M a n q hv ed K L) (hwf : wf n q hv ed K L) {t : Int} (ht : rg t) : Ci l D B cy yX9_hasSyllable cX9_hasSyllable 2 (some .boolean) 0 0 [.ref (B + a), .int (zI t)] M (fun r M1 => ((∃ k : Nat, t = (k : Int) ∧ k < q ∧ r = zI 1) ∨ (¬ (0 ≤ t ∧ t < (q : Int)) ∧ r = zI 0)) ∧ M1 = M) := by
  refine s_any (by decide) (Nat.le_of_ble_eq_true rfl) ?_
  intro p e s m below meth c ls F hr hlocks w hl
  have F : CallFix p m c cX9_hasSyllable 2 s _ TB RX9 := F
  have hx := F.1
  have hb := F.2.1
  have hl : lv_has ls 2 [(0, .ref (B + a)), (1, .int (zI t))] := hl
  have hwf0 := hwf
  obtain ⟨hn, hq, hhv, hed, hKL⟩ := hwf0
  refine lv_iload_n hx hb dX9_hasSyllable_0 rfl (lv_at hl 1 rfl) ?_
  refine z_if_lt (tgt := 16) hx hb (by omega) dX9_hasSyllable_1 (by decide) (fun c1 => ?_) (fun c1 => ?_)
  · refine lv_iconst (v := zI 0) hx hb dX9_hasSyllable_16 rfl ?_
    exact e_z F w hr hlocks (by decide) ⟨Or.inr ⟨by omega, rfl⟩, rfl⟩ dX9_hasSyllable_17
  · refine lv_iload_n hx hb dX9_hasSyllable_4 rfl (lv_at hl 1 rfl) ?_
    refine lv_aload_n hx hb dX9_hasSyllable_5 rfl (lv_at hl 0 rfl) ?_
    refine f_9_1 F w (a := a) hk tb_1 dX9_hasSyllable_6 ?_
    refine r_val (v := (zI (q : Int))) (hW.2.1) ?_
    refine z_icmp_ge (tgt := 16) hx hb (by omega) (by omega) dX9_hasSyllable_9 (by decide) (fun c2 => ?_) (fun c2 => ?_)
    · refine lv_iconst (v := zI 0) hx hb dX9_hasSyllable_16 rfl ?_
      exact e_z F w hr hlocks (by decide) ⟨Or.inr ⟨by omega, rfl⟩, rfl⟩ dX9_hasSyllable_17
    · refine lv_iconst (v := zI 1) hx hb dX9_hasSyllable_12 rfl ?_
      refine lv_goto (tgt := 17) hx hb dX9_hasSyllable_13 (by decide) ?_
      exact e_z F w hr hlocks (by decide) ⟨Or.inl ⟨t.toNat, by omega, by omega, rfl⟩, rfl⟩ dX9_hasSyllable_17
theorem dX9_linesFrom_0 : decode cX9_linesFrom 0 = .ok (.aload_n 0, 1) := by decide +kernel
theorem dX9_linesFrom_1 : decode cX9_linesFrom 1 = .ok (.iload_n 1, 1) := by decide +kernel
theorem dX9_linesFrom_2 : decode cX9_linesFrom 2 = .ok (.invokevirtual 41, 3) := by decide +kernel
theorem tk_X9_hasTone : Cond.code yX9_hasTone cX9_hasTone 2 (some .boolean) ∈ TB := tbm (tc3 (List.mem_of_getElem? (i := 9) rfl)) rfl
theorem gc_X9_hasTone : GoodIn TB (cw yX9_hasTone cX9_hasTone 2 (some .boolean)) := goodIn_c2 tk_X9_hasTone
theorem tb_2 : Cond.methodLink "ToneLines$Word" 41 yX9_hasTone ∈ TB := tbm (tc3 (List.mem_of_getElem? (i := 6) rfl)) rfl
theorem tb_3 : Cond.instanceMethod yX9_hasTone ∈ TB := tbm (tc3 (List.mem_of_getElem? (i := 7) rfl)) rfl
theorem tb_4 : Cond.selects "ToneLines$Word" yX9_hasTone yX9_hasTone ∈ TB := tbm (tc3 (List.mem_of_getElem? (i := 8) rfl)) rfl
theorem tb_5 : Cond.initialized "ToneLines$Word" ∈ TB := tbm (tc1 (List.mem_of_getElem? (i := 8) rfl)) rfl
theorem gv_X9_41 : GoodIn TB (wsV RX9 41 RX9 yX9_hasTone (cw yX9_hasTone cX9_hasTone 2 (some .boolean))) := goodIn_4 tb_2 tb_3 tb_4 tb_5 gc_X9_hasTone
theorem hv_X9_hasTone : yX9_hasTone.cls = RX9 ∧ yX9_hasTone.cls ≠ "java/lang/invoke/MethodHandle" ∧ yX9_hasTone.cls ≠ "java/lang/invoke/VarHandle" ∧ (parseMethodDescriptor yX9_hasTone.desc).map (fun d => d.parameters.length) = some 1 := by decide +kernel
theorem dX9_linesFrom_5 : decode cX9_linesFrom 5 = .ok (.ifCond .eq 12, 3) := by decide +kernel
theorem dX9_linesFrom_8 : decode cX9_linesFrom 8 = .ok (.aload_n 0, 1) := by decide +kernel
theorem dX9_linesFrom_9 : decode cX9_linesFrom 9 = .ok (.getfield 28, 3) := by decide +kernel
theorem tb_6 : Cond.fieldLink "ToneLines$Word" 28 "ToneLines$Word" "lines" "[I" ∈ TB := tbm (tc1 (List.mem_of_getElem? (i := 145) rfl)) rfl
theorem dX9_linesFrom_12 : decode cX9_linesFrom 12 = .ok (.iload_n 1, 1) := by decide +kernel
theorem dX9_linesFrom_13 : decode cX9_linesFrom 13 = .ok (.iaload, 1) := by decide +kernel
theorem dX9_linesFrom_14 : decode cX9_linesFrom 14 = .ok (.goto 4, 3) := by decide +kernel
theorem dX9_linesFrom_18 : decode cX9_linesFrom 18 = .ok (.ireturn, 1) := by decide +kernel
theorem dX9_linesFrom_17 : decode cX9_linesFrom 17 = .ok (.iconst 0, 1) := by decide +kernel
set_option maxRecDepth 4000 in
theorem s_X9_linesFrom {l : Launch} {D : va_G} {B : Nat} {cy : Nat → ClassId} {M : Mem} {a n q hv ed : Nat} {K L : Nat → Nat} (hk : kd a = (9, 0, 0)) (hW : isW M a n q hv ed K L) (hwf : wf n q hv ed K L) {t : Int} (ht : rg t) : Ci l D B cy yX9_linesFrom cX9_linesFrom 2 (some .int) 1 21 [.ref (B + a), .int (zI t)] M (fun r M1 => ((∃ k : Nat, t = (k : Int) ∧ k < n ∧ r = zI (L k : Int)) ∨ (¬ (0 ≤ t ∧ t < (n : Int)) ∧ r = zI 0)) ∧ M1 = M) := by
  refine s_any (by decide) (Nat.le_of_ble_eq_true rfl) ?_
  intro p e s m below meth c ls F hr hlocks w hl
  have F : CallFix p m c cX9_linesFrom 2 s _ TB RX9 := F
  have hx := F.1
  have hb := F.2.1
  have hl : lv_has ls 2 [(0, .ref (B + a)), (1, .int (zI t))] := hl
  have hwf0 := hwf
  obtain ⟨hn, hq, hhv, hed, hKL⟩ := hwf0
  refine lv_aload_n hx hb dX9_linesFrom_0 rfl (lv_at hl 0 rfl) ?_
  refine lv_iload_n hx hb dX9_linesFrom_1 rfl (lv_at hl 1 rfl) ?_
  refine k_Vi F w (As := [.int (zI t)]) (rest := []) (a := a) (kd_lt (a := a) hk (by decide)) (sh_9 hk _ _) rfl (s_X9_hasTone hk hW hwf (by omega)) gv_X9_41 hv_X9_hasTone ⟨(Nat.le_of_ble_eq_true rfl), (Nat.le_of_ble_eq_true rfl)⟩ hl.1 rfl (Nat.le_of_ble_eq_true rfl) ⟨Nat.zero_le _, Nat.zero_le _⟩ dX9_linesFrom_2 (fun r M1 H locs hp w => ?_)
  rcases hp with ⟨⟨k1, rfl, hk1, rfl⟩ | ⟨nk1, rfl⟩, hm⟩
  · rw [hm] at w
    refine z_if_eq (tgt := 17) hx hb (by omega) dX9_linesFrom_5 (by decide) (fun c2 => False.elim (by omega)) (fun c2 => ?_)
    refine lv_aload_n hx hb dX9_linesFrom_8 rfl (lv_at hl 0 rfl) ?_
    refine f_9_5 F w (a := a) hk tb_6 dX9_linesFrom_9 ?_
    refine lv_iload_n hx hb dX9_linesFrom_12 rfl (lv_at hl 1 rfl) ?_
    refine g_iald F w (a := (a + 2)) (kd_w2 hk) (j := k1) (ix_n (by omega)) (by omega) dX9_linesFrom_13 ?_
    have hL2 := (hKL k1 (by omega)).2
    refine r_val (v := (zI (((L k1) : Nat) : Int))) (hW.2.2.2.2.2 k1 (by omega)) ?_
    refine lv_goto (tgt := 18) hx hb dX9_linesFrom_14 (by decide) ?_
    exact e_i F w hr hlocks ⟨Or.inl ⟨k1, rfl, by omega, rfl⟩, rfl⟩ dX9_linesFrom_18
  · rw [hm] at w
    refine z_if_eq (tgt := 17) hx hb (by omega) dX9_linesFrom_5 (by decide) (fun c3 => ?_) (fun c3 => False.elim (by omega))
    refine lv_iconst (v := zI 0) hx hb dX9_linesFrom_17 rfl ?_
    exact e_i F w hr hlocks ⟨Or.inr ⟨by omega, rfl⟩, rfl⟩ dX9_linesFrom_18
theorem dX9_kindOf_0 : decode cX9_kindOf 0 = .ok (.aload_n 0, 1) := by decide +kernel
theorem dX9_kindOf_1 : decode cX9_kindOf 1 = .ok (.iload_n 1, 1) := by decide +kernel
theorem dX9_kindOf_2 : decode cX9_kindOf 2 = .ok (.invokevirtual 41, 3) := by decide +kernel
theorem dX9_kindOf_5 : decode cX9_kindOf 5 = .ok (.ifCond .eq 12, 3) := by decide +kernel
theorem dX9_kindOf_8 : decode cX9_kindOf 8 = .ok (.aload_n 0, 1) := by decide +kernel
theorem dX9_kindOf_9 : decode cX9_kindOf 9 = .ok (.getfield 24, 3) := by decide +kernel
theorem tb_7 : Cond.fieldLink "ToneLines$Word" 24 "ToneLines$Word" "kinds" "[I" ∈ TB := tbm (tc1 (List.mem_of_getElem? (i := 142) rfl)) rfl
theorem dX9_kindOf_12 : decode cX9_kindOf 12 = .ok (.iload_n 1, 1) := by decide +kernel
theorem dX9_kindOf_13 : decode cX9_kindOf 13 = .ok (.iaload, 1) := by decide +kernel
theorem dX9_kindOf_14 : decode cX9_kindOf 14 = .ok (.goto 4, 3) := by decide +kernel
theorem dX9_kindOf_18 : decode cX9_kindOf 18 = .ok (.ireturn, 1) := by decide +kernel
theorem dX9_kindOf_17 : decode cX9_kindOf 17 = .ok (.iconst (-1), 1) := by decide +kernel
set_option maxRecDepth 4000 in
theorem s_X9_kindOf {l : Launch} {D : va_G} {B : Nat} {cy : Nat → ClassId} {M : Mem} {a n q hv ed : Nat} {K L : Nat → Nat} (hk : kd a = (9, 0, 0)) (hW : isW M a n q hv ed K L) (hwf : wf n q hv ed K L) {t : Int} (ht : rg t) : Ci l D B cy yX9_kindOf cX9_kindOf 2 (some .int) 1 21 [.ref (B + a), .int (zI t)] M (fun r M1 => ((∃ k : Nat, t = (k : Int) ∧ k < n ∧ r = zI (K k : Int)) ∨ (¬ (0 ≤ t ∧ t < (n : Int)) ∧ r = zI (-1))) ∧ M1 = M) := by
  refine s_any (by decide) (Nat.le_of_ble_eq_true rfl) ?_
  intro p e s m below meth c ls F hr hlocks w hl
  have F : CallFix p m c cX9_kindOf 2 s _ TB RX9 := F
  have hx := F.1
  have hb := F.2.1
  have hl : lv_has ls 2 [(0, .ref (B + a)), (1, .int (zI t))] := hl
  have hwf0 := hwf
  obtain ⟨hn, hq, hhv, hed, hKL⟩ := hwf0
  refine lv_aload_n hx hb dX9_kindOf_0 rfl (lv_at hl 0 rfl) ?_
  refine lv_iload_n hx hb dX9_kindOf_1 rfl (lv_at hl 1 rfl) ?_
  refine k_Vi F w (As := [.int (zI t)]) (rest := []) (a := a) (kd_lt (a := a) hk (by decide)) (sh_9 hk _ _) rfl (s_X9_hasTone hk hW hwf (by omega)) gv_X9_41 hv_X9_hasTone ⟨(Nat.le_of_ble_eq_true rfl), (Nat.le_of_ble_eq_true rfl)⟩ hl.1 rfl (Nat.le_of_ble_eq_true rfl) ⟨Nat.zero_le _, Nat.zero_le _⟩ dX9_kindOf_2 (fun r M1 H locs hp w => ?_)
  rcases hp with ⟨⟨k1, rfl, hk1, rfl⟩ | ⟨nk1, rfl⟩, hm⟩
  · rw [hm] at w
    refine z_if_eq (tgt := 17) hx hb (by omega) dX9_kindOf_5 (by decide) (fun c2 => False.elim (by omega)) (fun c2 => ?_)
    refine lv_aload_n hx hb dX9_kindOf_8 rfl (lv_at hl 0 rfl) ?_
    refine f_9_4 F w (a := a) hk tb_7 dX9_kindOf_9 ?_
    refine lv_iload_n hx hb dX9_kindOf_12 rfl (lv_at hl 1 rfl) ?_
    refine g_iald F w (a := (a + 1)) (kd_w1 hk) (j := k1) (ix_n (by omega)) (by omega) dX9_kindOf_13 ?_
    have hK2 := (hKL k1 (by omega)).1
    refine r_val (v := (zI (((K k1) : Nat) : Int))) (hW.2.2.2.2.1 k1 (by omega)) ?_
    refine lv_goto (tgt := 18) hx hb dX9_kindOf_14 (by decide) ?_
    exact e_i F w hr hlocks ⟨Or.inl ⟨k1, rfl, by omega, rfl⟩, rfl⟩ dX9_kindOf_18
  · rw [hm] at w
    refine z_if_eq (tgt := 17) hx hb (by omega) dX9_kindOf_5 (by decide) (fun c3 => ?_) (fun c3 => False.elim (by omega))
    refine lv_iconst (v := zI (-1)) hx hb dX9_kindOf_17 rfl ?_
    exact e_i F w hr hlocks ⟨Or.inr ⟨by omega, rfl⟩, rfl⟩ dX9_kindOf_18
theorem dX9_isHeavy_0 : decode cX9_isHeavy 0 = .ok (.aload_n 0, 1) := by decide +kernel
theorem dX9_isHeavy_1 : decode cX9_isHeavy 1 = .ok (.iload_n 1, 1) := by decide +kernel
theorem dX9_isHeavy_2 : decode cX9_isHeavy 2 = .ok (.invokevirtual 45, 3) := by decide +kernel
theorem tk_X9_hasSyllable : Cond.code yX9_hasSyllable cX9_hasSyllable 2 (some .boolean) ∈ TB := tbm (tc3 (List.mem_of_getElem? (i := 13) rfl)) rfl
theorem gc_X9_hasSyllable : GoodIn TB (cw yX9_hasSyllable cX9_hasSyllable 2 (some .boolean)) := goodIn_c2 tk_X9_hasSyllable
theorem tb_8 : Cond.methodLink "ToneLines$Word" 45 yX9_hasSyllable ∈ TB := tbm (tc3 (List.mem_of_getElem? (i := 10) rfl)) rfl
theorem tb_9 : Cond.instanceMethod yX9_hasSyllable ∈ TB := tbm (tc3 (List.mem_of_getElem? (i := 11) rfl)) rfl
theorem tb_10 : Cond.selects "ToneLines$Word" yX9_hasSyllable yX9_hasSyllable ∈ TB := tbm (tc3 (List.mem_of_getElem? (i := 12) rfl)) rfl
theorem gv_X9_45 : GoodIn TB (wsV RX9 45 RX9 yX9_hasSyllable (cw yX9_hasSyllable cX9_hasSyllable 2 (some .boolean))) := goodIn_4 tb_8 tb_9 tb_10 tb_5 gc_X9_hasSyllable
theorem hv_X9_hasSyllable : yX9_hasSyllable.cls = RX9 ∧ yX9_hasSyllable.cls ≠ "java/lang/invoke/MethodHandle" ∧ yX9_hasSyllable.cls ≠ "java/lang/invoke/VarHandle" ∧ (parseMethodDescriptor yX9_hasSyllable.desc).map (fun d => d.parameters.length) = some 1 := by decide +kernel
theorem dX9_isHeavy_5 : decode cX9_isHeavy 5 = .ok (.ifCond .eq 18, 3) := by decide +kernel
theorem dX9_isHeavy_8 : decode cX9_isHeavy 8 = .ok (.aload_n 0, 1) := by decide +kernel
theorem dX9_isHeavy_9 : decode cX9_isHeavy 9 = .ok (.getfield 18, 3) := by decide +kernel
theorem tb_11 : Cond.fieldLink "ToneLines$Word" 18 "ToneLines$Word" "heavy" "I" ∈ TB := tbm (tc1 (List.mem_of_getElem? (i := 140) rfl)) rfl
theorem dX9_isHeavy_12 : decode cX9_isHeavy 12 = .ok (.iload_n 1, 1) := by decide +kernel
theorem dX9_isHeavy_13 : decode cX9_isHeavy 13 = .ok (.ishr, 1) := by decide +kernel
theorem dX9_isHeavy_14 : decode cX9_isHeavy 14 = .ok (.iconst 1, 1) := by decide +kernel
theorem dX9_isHeavy_15 : decode cX9_isHeavy 15 = .ok (.iand, 1) := by decide +kernel
theorem dX9_isHeavy_16 : decode cX9_isHeavy 16 = .ok (.ifCond .eq 7, 3) := by decide +kernel
theorem dX9_isHeavy_23 : decode cX9_isHeavy 23 = .ok (.iconst 0, 1) := by decide +kernel
theorem dX9_isHeavy_24 : decode cX9_isHeavy 24 = .ok (.ireturn, 1) := by decide +kernel
theorem dX9_isHeavy_19 : decode cX9_isHeavy 19 = .ok (.iconst 1, 1) := by decide +kernel
theorem dX9_isHeavy_20 : decode cX9_isHeavy 20 = .ok (.goto 4, 3) := by decide +kernel
set_option maxRecDepth 4000 in
theorem s_X9_isHeavy {l : Launch} {D : va_G} {B : Nat} {cy : Nat → ClassId} {M : Mem} {a n q hv ed : Nat} {K L : Nat → Nat} (hk : kd a = (9, 0, 0)) (hW : isW M a n q hv ed K L) (hwf : wf n q hv ed K L) {t : Int} (ht : rg t) : Ci l D B cy yX9_isHeavy cX9_isHeavy 2 (some .boolean) 1 21 [.ref (B + a), .int (zI t)] M (fun r M1 => ((∃ k : Nat, t = (k : Int) ∧ k < q ∧ hv.testBit k = true ∧ r = zI 1) ∨ (¬ (∃ k : Nat, t = (k : Int) ∧ k < q ∧ hv.testBit k = true) ∧ r = zI 0)) ∧ M1 = M) := by
  refine s_any (by decide) (Nat.le_of_ble_eq_true rfl) ?_
  intro p e s m below meth c ls F hr hlocks w hl
  have F : CallFix p m c cX9_isHeavy 2 s _ TB RX9 := F
  have hx := F.1
  have hb := F.2.1
  have hl : lv_has ls 2 [(0, .ref (B + a)), (1, .int (zI t))] := hl
  have hwf0 := hwf
  obtain ⟨hn, hq, hhv, hed, hKL⟩ := hwf0
  refine lv_aload_n hx hb dX9_isHeavy_0 rfl (lv_at hl 0 rfl) ?_
  refine lv_iload_n hx hb dX9_isHeavy_1 rfl (lv_at hl 1 rfl) ?_
  refine k_Vi F w (As := [.int (zI t)]) (rest := []) (a := a) (kd_lt (a := a) hk (by decide)) (sh_9 hk _ _) rfl (s_X9_hasSyllable hk hW hwf (by omega)) gv_X9_45 hv_X9_hasSyllable ⟨(Nat.le_of_ble_eq_true rfl), (Nat.le_of_ble_eq_true rfl)⟩ hl.1 rfl (Nat.le_of_ble_eq_true rfl) ⟨Nat.zero_le _, Nat.zero_le _⟩ dX9_isHeavy_2 (fun r M1 H locs hp w => ?_)
  rcases hp with ⟨⟨k1, rfl, hk1, rfl⟩ | ⟨nk1, rfl⟩, hm⟩
  · rw [hm] at w
    refine z_if_eq (tgt := 23) hx hb (by omega) dX9_isHeavy_5 (by decide) (fun c2 => False.elim (by omega)) (fun c2 => ?_)
    refine lv_aload_n hx hb dX9_isHeavy_8 rfl (lv_at hl 0 rfl) ?_
    refine f_9_2 F w (a := a) hk tb_11 dX9_isHeavy_9 ?_
    refine r_val (v := (zI (hv : Int))) (hW.2.2.1) ?_
    refine lv_iload_n hx hb dX9_isHeavy_12 rfl (lv_at hl 1 rfl) ?_
    refine lv_ishr hx hb dX9_isHeavy_13 ?_
    refine lv_iconst (v := zI 1) hx hb dX9_isHeavy_14 rfl ?_
    refine lv_iand hx hb dX9_isHeavy_15 ?_
    refine r_val (v := (zI (((tb hv k1) : Nat) : Int))) (zb_test (by omega) (by omega)) ?_
    have q4 := tb01 hv k1
    refine z_if_eq (tgt := 23) hx hb (by omega) dX9_isHeavy_16 (by decide) (fun c5 => ?_) (fun c5 => ?_)
    · refine lv_iconst (v := zI 0) hx hb dX9_isHeavy_23 rfl ?_
      exact e_z F w hr hlocks (by decide) ⟨Or.inr ⟨fun ⟨k9, e9, _, b9⟩ => by (obtain rfl : k1 = k9 := by omega); have := tbo.mpr b9; omega, rfl⟩, rfl⟩ dX9_isHeavy_24
    · refine lv_iconst (v := zI 1) hx hb dX9_isHeavy_19 rfl ?_
      refine lv_goto (tgt := 24) hx hb dX9_isHeavy_20 (by decide) ?_
      exact e_z F w hr hlocks (by decide) ⟨Or.inl ⟨k1, rfl, by omega, tbo.mp (by omega), rfl⟩, rfl⟩ dX9_isHeavy_24
  · rw [hm] at w
    refine z_if_eq (tgt := 23) hx hb (by omega) dX9_isHeavy_5 (by decide) (fun c6 => ?_) (fun c6 => False.elim (by omega))
    refine lv_iconst (v := zI 0) hx hb dX9_isHeavy_23 rfl ?_
    exact e_z F w hr hlocks (by decide) ⟨Or.inr ⟨fun ⟨k9, e9, h9, _⟩ => by omega, rfl⟩, rfl⟩ dX9_isHeavy_24
theorem dX9_hasEdge_0 : decode cX9_hasEdge 0 = .ok (.aload_n 0, 1) := by decide +kernel
theorem dX9_hasEdge_1 : decode cX9_hasEdge 1 = .ok (.iload_n 1, 1) := by decide +kernel
theorem dX9_hasEdge_2 : decode cX9_hasEdge 2 = .ok (.invokevirtual 45, 3) := by decide +kernel
theorem dX9_hasEdge_5 : decode cX9_hasEdge 5 = .ok (.ifCond .eq 18, 3) := by decide +kernel
theorem dX9_hasEdge_8 : decode cX9_hasEdge 8 = .ok (.aload_n 0, 1) := by decide +kernel
theorem dX9_hasEdge_9 : decode cX9_hasEdge 9 = .ok (.getfield 21, 3) := by decide +kernel
theorem tb_12 : Cond.fieldLink "ToneLines$Word" 21 "ToneLines$Word" "edges" "I" ∈ TB := tbm (tc1 (List.mem_of_getElem? (i := 141) rfl)) rfl
theorem dX9_hasEdge_12 : decode cX9_hasEdge 12 = .ok (.iload_n 1, 1) := by decide +kernel
theorem dX9_hasEdge_13 : decode cX9_hasEdge 13 = .ok (.ishr, 1) := by decide +kernel
theorem dX9_hasEdge_14 : decode cX9_hasEdge 14 = .ok (.iconst 1, 1) := by decide +kernel
theorem dX9_hasEdge_15 : decode cX9_hasEdge 15 = .ok (.iand, 1) := by decide +kernel
theorem dX9_hasEdge_16 : decode cX9_hasEdge 16 = .ok (.ifCond .eq 7, 3) := by decide +kernel
theorem dX9_hasEdge_23 : decode cX9_hasEdge 23 = .ok (.iconst 0, 1) := by decide +kernel
theorem dX9_hasEdge_24 : decode cX9_hasEdge 24 = .ok (.ireturn, 1) := by decide +kernel
theorem dX9_hasEdge_19 : decode cX9_hasEdge 19 = .ok (.iconst 1, 1) := by decide +kernel
theorem dX9_hasEdge_20 : decode cX9_hasEdge 20 = .ok (.goto 4, 3) := by decide +kernel
set_option maxRecDepth 4000 in
theorem s_X9_hasEdge {l : Launch} {D : va_G} {B : Nat} {cy : Nat → ClassId} {M : Mem} {a n q hv ed : Nat} {K L : Nat → Nat} (hk : kd a = (9, 0, 0)) (hW : isW M a n q hv ed K L) (hwf : wf n q hv ed K L) {t : Int} (ht : rg t) : Ci l D B cy yX9_hasEdge cX9_hasEdge 2 (some .boolean) 1 21 [.ref (B + a), .int (zI t)] M (fun r M1 => ((∃ k : Nat, t = (k : Int) ∧ k < q ∧ ed.testBit k = true ∧ r = zI 1) ∨ (¬ (∃ k : Nat, t = (k : Int) ∧ k < q ∧ ed.testBit k = true) ∧ r = zI 0)) ∧ M1 = M) := by
  refine s_any (by decide) (Nat.le_of_ble_eq_true rfl) ?_
  intro p e s m below meth c ls F hr hlocks w hl
  have F : CallFix p m c cX9_hasEdge 2 s _ TB RX9 := F
  have hx := F.1
  have hb := F.2.1
  have hl : lv_has ls 2 [(0, .ref (B + a)), (1, .int (zI t))] := hl
  have hwf0 := hwf
  obtain ⟨hn, hq, hhv, hed, hKL⟩ := hwf0
  refine lv_aload_n hx hb dX9_hasEdge_0 rfl (lv_at hl 0 rfl) ?_
  refine lv_iload_n hx hb dX9_hasEdge_1 rfl (lv_at hl 1 rfl) ?_
  refine k_Vi F w (As := [.int (zI t)]) (rest := []) (a := a) (kd_lt (a := a) hk (by decide)) (sh_9 hk _ _) rfl (s_X9_hasSyllable hk hW hwf (by omega)) gv_X9_45 hv_X9_hasSyllable ⟨(Nat.le_of_ble_eq_true rfl), (Nat.le_of_ble_eq_true rfl)⟩ hl.1 rfl (Nat.le_of_ble_eq_true rfl) ⟨Nat.zero_le _, Nat.zero_le _⟩ dX9_hasEdge_2 (fun r M1 H locs hp w => ?_)
  rcases hp with ⟨⟨k1, rfl, hk1, rfl⟩ | ⟨nk1, rfl⟩, hm⟩
  · rw [hm] at w
    refine z_if_eq (tgt := 23) hx hb (by omega) dX9_hasEdge_5 (by decide) (fun c2 => False.elim (by omega)) (fun c2 => ?_)
    refine lv_aload_n hx hb dX9_hasEdge_8 rfl (lv_at hl 0 rfl) ?_
    refine f_9_3 F w (a := a) hk tb_12 dX9_hasEdge_9 ?_
    refine r_val (v := (zI (ed : Int))) (hW.2.2.2.1) ?_
    refine lv_iload_n hx hb dX9_hasEdge_12 rfl (lv_at hl 1 rfl) ?_
    refine lv_ishr hx hb dX9_hasEdge_13 ?_
    refine lv_iconst (v := zI 1) hx hb dX9_hasEdge_14 rfl ?_
    refine lv_iand hx hb dX9_hasEdge_15 ?_
    refine r_val (v := (zI (((tb ed k1) : Nat) : Int))) (zb_test (by omega) (by omega)) ?_
    have q4 := tb01 ed k1
    refine z_if_eq (tgt := 23) hx hb (by omega) dX9_hasEdge_16 (by decide) (fun c5 => ?_) (fun c5 => ?_)
    · refine lv_iconst (v := zI 0) hx hb dX9_hasEdge_23 rfl ?_
      exact e_z F w hr hlocks (by decide) ⟨Or.inr ⟨fun ⟨k9, e9, _, b9⟩ => by (obtain rfl : k1 = k9 := by omega); have := tbo.mpr b9; omega, rfl⟩, rfl⟩ dX9_hasEdge_24
    · refine lv_iconst (v := zI 1) hx hb dX9_hasEdge_19 rfl ?_
      refine lv_goto (tgt := 24) hx hb dX9_hasEdge_20 (by decide) ?_
      exact e_z F w hr hlocks (by decide) ⟨Or.inl ⟨k1, rfl, by omega, tbo.mp (by omega), rfl⟩, rfl⟩ dX9_hasEdge_24
  · rw [hm] at w
    refine z_if_eq (tgt := 23) hx hb (by omega) dX9_hasEdge_5 (by decide) (fun c6 => ?_) (fun c6 => False.elim (by omega))
    refine lv_iconst (v := zI 0) hx hb dX9_hasEdge_23 rfl ?_
    exact e_z F w hr hlocks (by decide) ⟨Or.inr ⟨fun ⟨k9, e9, h9, _⟩ => by omega, rfl⟩, rfl⟩ dX9_hasEdge_24
theorem dX9_bare_4 : decode cX9_bare 4 = .ok (.iload_n 2, 1) := by decide +kernel
theorem dX9_bare_5 : decode cX9_bare 5 = .ok (.aload_n 0, 1) := by decide +kernel
theorem dX9_bare_6 : decode cX9_bare 6 = .ok (.getfield 9, 3) := by decide +kernel
theorem dX9_bare_9 : decode cX9_bare 9 = .ok (.if_icmp .ge 18, 3) := by decide +kernel
theorem dX9_bare_12 : decode cX9_bare 12 = .ok (.iload_n 1, 1) := by decide +kernel
theorem dX9_bare_13 : decode cX9_bare 13 = .ok (.aload_n 0, 1) := by decide +kernel
theorem dX9_bare_14 : decode cX9_bare 14 = .ok (.getfield 28, 3) := by decide +kernel
theorem dX9_bare_17 : decode cX9_bare 17 = .ok (.iload_n 2, 1) := by decide +kernel
theorem dX9_bare_18 : decode cX9_bare 18 = .ok (.iaload, 1) := by decide +kernel
theorem dX9_bare_19 : decode cX9_bare 19 = .ok (.ior, 1) := by decide +kernel
theorem dX9_bare_20 : decode cX9_bare 20 = .ok (.istore_n 1, 1) := by decide +kernel
theorem dX9_bare_21 : decode cX9_bare 21 = .ok (.iinc 2 1, 3) := by decide +kernel
theorem dX9_bare_24 : decode cX9_bare 24 = .ok (.goto (-20), 3) := by decide +kernel
set_option maxRecDepth 4000 in
theorem lp_X9_bare {p : Program} {l : Launch} {e : Env} {s : State} {m : MethodId} {args : Array Value} {below : List Frame} {meth : Method} {c : Code} {D : va_G} {B : Nat} {cy : Nat → ClassId} {H H0 : Heap} {locs : List Loc} {Q : State → Prop} {M : Mem} {R : Room} {a n q hv ed : Nat} {K L : Nat → Nat}  (F : CallFix p m c cX9_bare 3 s args TB RX9) (w : Wd D B cy s H0 M H locs) (hk : kd a = (9, 0, 0)) (hW : isW M a n q hv ed K L) (hwf : wf n q hv ed K L) (kk : ∀ (t : Nat) (ls : Array Slot), (t = n) → lv_has ls 3 [(2, .int (zI (t : Int))), (1, .int (zI (((orL L t) : Nat) : Int))), (0, .ref (B + a))] → W p l e R s m args below meth c H locs 0 0 Q (F0 m 27 ls [])) : ∀ (f : Nat) (t : Nat), (t ≤ n) → n ≤ t + f → ∀ (ls : Array Slot), lv_has ls 3 [(2, .int (zI (t : Int))), (1, .int (zI (((orL L t) : Nat) : Int))), (0, .ref (B + a))] → W p l e R s m args below meth c H locs 0 0 Q (F0 m 4 ls []) := by
  have hx := F.1
  have hb := F.2.1
  have hwf0 := hwf
  obtain ⟨hn, hq, hhv, hed, hKL⟩ := hwf0
  intro f
  induction f with
  | zero =>
    intro t i0 hf ls hl
    refine lv_iload_n hx hb dX9_bare_4 rfl (lv_at hl 0 rfl) ?_
    refine lv_aload_n hx hb dX9_bare_5 rfl (lv_at hl 2 rfl) ?_
    refine f_9_0 F w (a := a) hk tb_0 dX9_bare_6 ?_
    refine r_val (v := (zI (n : Int))) (hW.1) ?_
    refine z_icmp_ge (tgt := 27) hx hb (by omega) (by omega) dX9_bare_9 (by decide) (fun c1 => ?_) (fun c1 => False.elim (by omega))
    exact kk t ls (by omega) (lv_sub hl [0, 1, 2] rfl)
  | succ f ih =>
    intro t i0 hf ls hl
    refine lv_iload_n hx hb dX9_bare_4 rfl (lv_at hl 0 rfl) ?_
    refine lv_aload_n hx hb dX9_bare_5 rfl (lv_at hl 2 rfl) ?_
    refine f_9_0 F w (a := a) hk tb_0 dX9_bare_6 ?_
    refine r_val (v := (zI (n : Int))) (hW.1) ?_
    refine z_icmp_ge (tgt := 27) hx hb (by omega) (by omega) dX9_bare_9 (by decide) (fun c1 => ?_) (fun c1 => ?_)
    · exact kk t ls (by omega) (lv_sub hl [0, 1, 2] rfl)
    · refine lv_iload_n hx hb dX9_bare_12 rfl (lv_at hl 1 rfl) ?_
      refine lv_aload_n hx hb dX9_bare_13 rfl (lv_at hl 2 rfl) ?_
      refine f_9_5 F w (a := a) hk tb_6 dX9_bare_14 ?_
      refine lv_iload_n hx hb dX9_bare_17 rfl (lv_at hl 0 rfl) ?_
      refine g_iald F w (a := (a + 2)) (kd_w2 hk) (j := t) (ix_n (by omega)) (by omega) dX9_bare_18 ?_
      have hL1 := (hKL t (by omega)).2
      refine r_val (v := (zI (((L t) : Nat) : Int))) (hW.2.2.2.2.2 t (by omega)) ?_
      refine lv_ior hx hb dX9_bare_19 ?_
      refine r_val (v := (zI (((orL L (t + 1)) : Nat) : Int))) (zb_or _ _) ?_
      refine lv_istore_n (lv' := [(1, .int (zI (((orL L (t + 1)) : Nat) : Int))), (2, .int (zI (t : Int))), (0, .ref (B + a))]) hx hb dX9_bare_20 rfl hl (by decide) rfl (fun ls hl => ?_)
      refine z_iinc (v := (((t + 1) : Nat) : Int)) (lv' := [(2, .int (zI (((t + 1) : Nat) : Int))), (1, .int (zI (((orL L (t + 1)) : Nat) : Int))), (0, .ref (B + a))]) hx hb dX9_bare_21 hl (k := 1) rfl (by omega) (by decide) rfl (fun ls hl => ?_)
      refine lv_goto (tgt := 4) hx hb dX9_bare_24 (by decide) ?_
      exact ih (t + 1) (by omega) (by omega) ls (lv_sub hl [0, 1, 2] rfl)
theorem dX9_bare_0 : decode cX9_bare 0 = .ok (.iconst 0, 1) := by decide +kernel
theorem dX9_bare_1 : decode cX9_bare 1 = .ok (.istore_n 1, 1) := by decide +kernel
theorem dX9_bare_2 : decode cX9_bare 2 = .ok (.iconst 0, 1) := by decide +kernel
theorem dX9_bare_3 : decode cX9_bare 3 = .ok (.istore_n 2, 1) := by decide +kernel
theorem dX9_bare_27 : decode cX9_bare 27 = .ok (.iconst 1, 1) := by decide +kernel
theorem dX9_bare_28 : decode cX9_bare 28 = .ok (.aload_n 0, 1) := by decide +kernel
theorem dX9_bare_29 : decode cX9_bare 29 = .ok (.getfield 15, 3) := by decide +kernel
theorem dX9_bare_32 : decode cX9_bare 32 = .ok (.ishl, 1) := by decide +kernel
theorem dX9_bare_33 : decode cX9_bare 33 = .ok (.iconst 1, 1) := by decide +kernel
theorem dX9_bare_34 : decode cX9_bare 34 = .ok (.isub, 1) := by decide +kernel
theorem dX9_bare_35 : decode cX9_bare 35 = .ok (.iload_n 1, 1) := by decide +kernel
theorem dX9_bare_36 : decode cX9_bare 36 = .ok (.iconst (-1), 1) := by decide +kernel
theorem dX9_bare_37 : decode cX9_bare 37 = .ok (.ixor, 1) := by decide +kernel
theorem dX9_bare_38 : decode cX9_bare 38 = .ok (.iand, 1) := by decide +kernel
theorem dX9_bare_39 : decode cX9_bare 39 = .ok (.ireturn, 1) := by decide +kernel
set_option maxRecDepth 4000 in
theorem s_X9_bare {l : Launch} {D : va_G} {B : Nat} {cy : Nat → ClassId} {M : Mem} {a n q hv ed : Nat} {K L : Nat → Nat} (hk : kd a = (9, 0, 0)) (hW : isW M a n q hv ed K L) (hwf : wf n q hv ed K L)  : Ci l D B cy yX9_bare cX9_bare 3 (some .int) 0 0 [.ref (B + a)] M (fun r M1 => r = zI ((andn (2 ^ q - 1) (orL L n) : Nat) : Int) ∧ M1 = M) := by
  refine s_any (by decide) (Nat.le_of_ble_eq_true rfl) ?_
  intro p e s m below meth c ls F hr hlocks w hl
  have F : CallFix p m c cX9_bare 3 s _ TB RX9 := F
  have hx := F.1
  have hb := F.2.1
  have hl : lv_has ls 3 [(0, .ref (B + a))] := hl
  have hwf0 := hwf
  obtain ⟨hn, hq, hhv, hed, hKL⟩ := hwf0
  refine lv_iconst (v := zI 0) hx hb dX9_bare_0 rfl ?_
  refine lv_istore_n (lv' := [(1, .int (zI 0)), (0, .ref (B + a))]) hx hb dX9_bare_1 rfl hl (by decide) rfl (fun ls hl => ?_)
  refine lv_iconst (v := zI 0) hx hb dX9_bare_2 rfl ?_
  refine lv_istore_n (lv' := [(2, .int (zI 0)), (1, .int (zI 0)), (0, .ref (B + a))]) hx hb dX9_bare_3 rfl hl (by decide) rfl (fun ls hl => ?_)
  refine lp_X9_bare  F w hk hW hwf (fun t ls x0 hl => ?_) n 0 (by omega) (by omega) ls (lv_sub hl [0, 1, 2] rfl)
  subst x0
  refine lv_iconst (v := zI 1) hx hb dX9_bare_27 rfl ?_
  refine lv_aload_n hx hb dX9_bare_28 rfl (lv_at hl 2 rfl) ?_
  refine f_9_1 F w (a := a) hk tb_1 dX9_bare_29 ?_
  refine r_val (v := (zI (q : Int))) (hW.2.1) ?_
  refine lv_ishl hx hb dX9_bare_32 ?_
  refine r_val (v := (zI (((2 ^ q) : Nat) : Int))) (zb_shl (by omega)) ?_
  have q1 := p2_le (n := q) (by omega)
  refine lv_iconst (v := zI 1) hx hb dX9_bare_33 rfl ?_
  refine z_isub (z := ((((2 ^ q) - 1) : Nat) : Int)) hx hb dX9_bare_34 (by omega) ?_
  refine lv_iload_n hx hb dX9_bare_35 rfl (lv_at hl 1 rfl) ?_
  refine lv_iconst (v := zI (-1)) hx hb dX9_bare_36 rfl ?_
  refine lv_ixor hx hb dX9_bare_37 ?_
  refine lv_iand hx hb dX9_bare_38 ?_
  refine r_val (v := (zI (((andn ((2 ^ q) - 1) (orL L t)) : Nat) : Int))) (zb_andn _ _) ?_
  have q3 := andn_le ((2 ^ q) - 1) (orL L t)
  exact e_i F w hr hlocks ⟨rfl, rfl⟩ dX9_bare_39
