def updF (F : Nat → Nat) (t x : Nat) : Nat → Nat := fun k => if k = t then x else F k
def FrC (M1 M : Mem) : Prop := (∀ b, b ≠ 146 → b ≠ 148 → M1.1 b = M.1 b) ∧ (∀ k, k ≠ 3 → M1.1 146 k = M.1 146 k) ∧ M1.2 = M.2
def Fr1 (M1 M : Mem) (a : Nat) : Prop := (∀ b, b ≠ a → M1.1 b = M.1 b) ∧ M1.2 = M.2
theorem lineW {M : Mem} {n q hv ed t x : Nat} {K L : Nat → Nat} {z : Int32} (hW : isR M 148 n q hv ed K L) (hn : n ≤ 12) (ht : t < n) : isR (st (st M 148 (13 + t) (zI (x : Int))) 146 3 z) 148 n q hv ed K (updF L t x) ∧ (st (st M 148 (13 + t) (zI (x : Int))) 146 3 z).1 146 3 = z ∧ FrC (st (st M 148 (13 + t) (zI (x : Int))) 146 3 z) M := by
  obtain ⟨w0, w1, w2, w3, w4, w5⟩ := hW
  refine ⟨⟨?_, ?_, ?_, ?_, fun k hk => ?_, fun k hk => ?_⟩, by simp [st, sA, upd], ⟨fun b h1 h2 => by simp [st, sA, h1, h2], fun k h => by simp [st, sA, upd, h], rfl⟩⟩
  · simp only [st, sA]; simp; simp only [upd]; rw [if_neg (by omega)]; exact w0
  · simp only [st, sA]; simp; simp only [upd]; rw [if_neg (by omega)]; exact w1
  · simp only [st, sA]; simp; simp only [upd]; rw [if_neg (by omega)]; exact w2
  · simp only [st, sA]; simp; simp only [upd]; rw [if_neg (by omega)]; exact w3
  · simp only [st, sA]; simp; simp only [upd]; rw [if_neg (by omega)]; exact w4 k hk
  · simp only [st, sA, updF]; simp; simp only [upd]
    by_cases h : k = t
    · simp [h]
    · rw [if_neg (by omega), if_neg h]; exact w5 k hk
def cpM (M : Mem) (a b k : Nat) : Mem := sA M a (fun i => if i < k then M.1 b i else M.1 a i)
theorem cpM_0 (M : Mem) (a b : Nat) : cpM M a b 0 = M := by
  unfold cpM
  rw [show (fun i => if i < 0 then M.1 b i else M.1 a i) = M.1 a from funext fun i => by simp, sA_self]
theorem cpM_rd {M : Mem} {a b k j : Nat} (h : b ≠ a) : (cpM M a b k).1 b j = M.1 b j := by simp [cpM, sA, h]
theorem cpM_step {M : Mem} {a b k : Nat} : st (cpM M a b k) a k (M.1 b k) = cpM M a b (k + 1) := by
  refine Prod.ext (funext fun c => ?_) rfl
  by_cases h : c = a
  · subst h
    simp only [st, cpM, sA]
    simp
    funext i
    simp only [upd]
    by_cases h1 : i = k
    · subst h1; simp
    · by_cases h2 : i < k
      · simp [h1, h2, show i < k + 1 by omega]
      · simp [h1, h2, show ¬ i < k + 1 by omega]
  · simp [st, cpM, sA, h]
theorem cpM_R {M : Mem} {a b n q hv ed : Nat} {K L : Nat → Nat} (hW : isR M b n q hv ed K L) (hn : n ≤ 12) : isR (cpM M a b 28) a n q hv ed K L ∧ Fr1 (cpM M a b 28) M a := by
  obtain ⟨w0, w1, w2, w3, w4, w5⟩ := hW
  refine ⟨⟨by simp [cpM, sA, w0], by simp [cpM, sA, w1], by simp [cpM, sA, w2], by simp [cpM, sA, w3], fun k hk => ?_, fun k hk => ?_⟩, ⟨fun c h => by simp [cpM, sA, h], rfl⟩⟩
  · simp [cpM, sA, show 1 + k < 28 by omega, w4 k hk]
  · simp [cpM, sA, show 13 + k < 28 by omega, w5 k hk]
def shR (f : Nat → Int32) (n u : Nat) : Nat → Int32 := fun i => if (1 + u < i ∧ i ≤ 1 + n) ∨ (13 + u < i ∧ i ≤ 13 + n) then f (i - 1) else f i
def riM (M : Mem) (a n u : Nat) : Mem := sA M a (shR (M.1 a) n u)
theorem riM_n (M : Mem) (a n : Nat) : riM M a n n = M := by
  unfold riM
  rw [show shR (M.1 a) n n = M.1 a from funext fun i => by simp only [shR]; rw [if_neg (by omega)], sA_self]
theorem riM_0 {M : Mem} {a n u : Nat} : (riM M a n u).1 a 0 = M.1 a 0 := by simp [riM, sA, shR]
theorem riM_1 {M : Mem} {a n u k : Nat} (h : k ≤ u) (h1 : u ≤ n) (h2 : n < 12) : (riM M a n u).1 a k = M.1 a k := by
  have e : shR (M.1 a) n u k = M.1 a k := by simp only [shR]; rw [if_neg (by omega)]
  simp [riM, sA, e]
theorem riM_2 {M : Mem} {a n u k : Nat} (h : k ≤ 12 + u) (h1 : u ≤ n) (h2 : n < 12) (h3 : 12 < k) : (riM M a n u).1 a k = M.1 a k := by
  have e : shR (M.1 a) n u k = M.1 a k := by simp only [shR]; rw [if_neg (by omega)]
  simp [riM, sA, e]
theorem riM_step {M : Mem} {a n u : Nat} (hu : 1 ≤ u) (hn : u ≤ n) (h12 : n < 12) : st (st (riM M a n u) a (1 + u) (M.1 a u)) a (13 + u) (M.1 a (12 + u)) = riM M a n (u - 1) := by
  refine Prod.ext (funext fun c => ?_) rfl
  by_cases h : c = a
  · subst h
    simp only [st, riM, sA]
    simp
    funext i
    simp only [upd, shR]
    by_cases h1 : i = 13 + u
    · subst h1
      rw [if_pos rfl, if_pos (by omega), show 13 + u - 1 = 12 + u by omega]
    · by_cases h2 : i = 1 + u
      · subst h2
        rw [if_neg h1, if_pos rfl, if_pos (by omega), show 1 + u - 1 = u by omega]
      · rw [if_neg h1, if_neg h2]
        by_cases h3 : (1 + u < i ∧ i ≤ 1 + n) ∨ (13 + u < i ∧ i ≤ 13 + n)
        · rw [if_pos h3, if_pos (by omega)]
        · rw [if_neg h3, if_neg (by omega)]
  · simp [st, riM, sA, h]
theorem riM_end {M : Mem} {a n q hv ed t x : Nat} {K L : Nat → Nat} (hW : isR M a n q hv ed K L) (ht : t ≤ n) (hn : n < 12) : isR (st (st (st (riM M a n t) a (1 + t) (zI (x : Int))) a (13 + t) (zI 0)) a 0 (zI ((n + 1 : Nat) : Int))) a (n + 1) q hv ed (insF K t x) (insF L t 0) ∧ Fr1 (st (st (st (riM M a n t) a (1 + t) (zI (x : Int))) a (13 + t) (zI 0)) a 0 (zI ((n + 1 : Nat) : Int))) M a := by
  obtain ⟨w0, w1, w2, w3, w4, w5⟩ := hW
  refine ⟨⟨by simp [st, sA, upd], ?_, ?_, ?_, fun k hk => ?_, fun k hk => ?_⟩, ⟨fun c h => by simp [st, riM, sA, h], rfl⟩⟩
  · simp only [st, sA, riM]; simp; simp only [upd, shR]; rw [if_neg (by omega), if_neg (by omega), if_neg (by omega), if_neg (by omega)]; exact w1
  · simp only [st, sA, riM]; simp; simp only [upd, shR]; rw [if_neg (by omega), if_neg (by omega), if_neg (by omega), if_neg (by omega)]; exact w2
  · simp only [st, sA, riM]; simp; simp only [upd, shR]; rw [if_neg (by omega), if_neg (by omega), if_neg (by omega), if_neg (by omega)]; exact w3
  · simp only [st, sA, riM, insF]; simp; simp only [upd, shR]
    rw [if_neg (by omega), if_neg (by omega)]
    by_cases h1 : k = t
    · rw [if_pos (by omega), if_neg (by omega), if_pos h1]
    · rw [if_neg (by omega)]
      by_cases h2 : k < t
      · rw [if_neg (by omega), if_pos h2]; exact w4 k (by omega)
      · rw [if_pos (by omega), if_neg h2, if_neg h1, show 1 + k - 1 = 1 + (k - 1) by omega]; exact w4 (k - 1) (by omega)
  · simp only [st, sA, riM, insF]; simp; simp only [upd, shR]
    rw [if_neg (by omega)]
    by_cases h1 : k = t
    · rw [if_pos (by omega), if_neg (by omega), if_pos h1]; rfl
    · rw [if_neg (by omega), if_neg (by omega)]
      by_cases h2 : k < t
      · rw [if_neg (by omega), if_pos h2]; exact w5 k (by omega)
      · rw [if_pos (by omega), if_neg h2, if_neg h1, show 13 + k - 1 = 13 + (k - 1) by omega]; exact w5 (k - 1) (by omega)
theorem dX12_comes_0 : decode cX12_comes 0 = .ok (.aload_n 0, 1) := dq0 kk_42 (by decide +kernel)
theorem dX12_comes_1 : decode cX12_comes 1 = .ok (.getfield 17, 3) := dqV kk_180 (by decide +kernel)
theorem tb_45 : Cond.fieldLink "ToneLinesModel" 17 "ToneLinesModel" "now" "[I" ∈ TB := tbm (tc5 (List.mem_of_getElem? (i := 58) rfl)) rfl
theorem dX12_comes_4 : decode cX12_comes 4 = .ok (.bipush 13, 2) := dqS kk_16 (by decide +kernel)
theorem dX12_comes_6 : decode cX12_comes 6 = .ok (.iload_n 1, 1) := dq0 kk_27 (by decide +kernel)
theorem dX12_comes_7 : decode cX12_comes 7 = .ok (.iadd, 1) := dq0 kk_96 (by decide +kernel)
theorem dX12_comes_8 : decode cX12_comes 8 = .ok (.dup2, 1) := dq0 kk_92 (by decide +kernel)
theorem dX12_comes_9 : decode cX12_comes 9 = .ok (.iaload, 1) := dq0 kk_46 (by decide +kernel)
theorem dX12_comes_10 : decode cX12_comes 10 = .ok (.iconst 1, 1) := dq0 kk_4 (by decide +kernel)
theorem dX12_comes_11 : decode cX12_comes 11 = .ok (.iload_n 2, 1) := dq0 kk_28 (by decide +kernel)
theorem dX12_comes_12 : decode cX12_comes 12 = .ok (.ishl, 1) := dq0 kk_120 (by decide +kernel)
theorem dX12_comes_13 : decode cX12_comes 13 = .ok (.ior, 1) := dq0 kk_128 (by decide +kernel)
theorem dX12_comes_14 : decode cX12_comes 14 = .ok (.iastore, 1) := dq0 kk_79 (by decide +kernel)
theorem dX12_comes_15 : decode cX12_comes 15 = .ok (.aload_n 0, 1) := dq0 kk_42 (by decide +kernel)
theorem dX12_comes_16 : decode cX12_comes 16 = .ok (.dup, 1) := dq0 kk_89 (by decide +kernel)
theorem dX12_comes_17 : decode cX12_comes 17 = .ok (.getfield 66, 3) := dqV kk_180 (by decide +kernel)
theorem tb_46 : Cond.fieldLink "ToneLinesModel" 66 "ToneLinesModel" "changes" "I" ∈ TB := tbm (tc5 (List.mem_of_getElem? (i := 59) rfl)) rfl
theorem dX12_comes_20 : decode cX12_comes 20 = .ok (.iconst 1, 1) := dq0 kk_4 (by decide +kernel)
theorem dX12_comes_21 : decode cX12_comes 21 = .ok (.iadd, 1) := dq0 kk_96 (by decide +kernel)
theorem dX12_comes_22 : decode cX12_comes 22 = .ok (.putfield 66, 3) := dqV kk_181 (by decide +kernel)
theorem dX12_comes_25 : decode cX12_comes 25 = .ok (.return_, 1) := dq0 kk_177 (by decide +kernel)
set_option maxRecDepth 4000 in
theorem s_X12_comes {l : Launch} {D : va_G} {B : Nat} {cy : Nat → ClassId} {M : Mem} {n q hv ed : Nat} {K L : Nat → Nat} {z9 : Int} (hW : isR M 148 n q hv ed K L) (hwf : wf n q hv ed K L) (hc : M.1 146 3 = zI z9) {t j : Nat} (ht : t < n) (hj : j < 12) : Cv l D B cy yX12_comes cX12_comes 3 0 0 [.ref (B + 146), .int (zI (t : Int)), .int (zI (j : Int))] M (fun M1 => isR M1 148 n q hv ed K (updF L t (L t ||| 2 ^ j)) ∧ M1.1 146 3 = zI (z9 + 1) ∧ FrC M1 M) := by
  refine s_any (by decide) (Nat.le_of_ble_eq_true rfl) ?_
  intro p e s m below meth c ls F hr hlocks w hl
  have F : CallFix p m c cX12_comes 3 s _ TB RX12 := F
  have hx := F.1
  have hb := F.2.1
  have hl : lv_has ls 3 [(0, .ref (B + 146)), (1, .int (zI (t : Int))), (2, .int (zI (j : Int)))] := hl
  have hwf0 := hwf
  obtain ⟨hn, hq, hhv, hed, hKL⟩ := hwf0
  refine lv_aload_n hx hb dX12_comes_0 rfl (lv_at hl 0 rfl) ?_
  refine f_12_2 F w (a := 146) rfl tb_45 dX12_comes_1 ?_
  refine lv_bipush (v := zI 13) hx hb dX12_comes_4 (by decide) ?_
  refine lv_iload_n hx hb dX12_comes_6 rfl (lv_at hl 1 rfl) ?_
  refine z_iadd (z := (((13 + t) : Nat) : Int)) hx hb dX12_comes_7 (by omega) ?_
  refine lv_dup2_11 hx hb dX12_comes_8 rfl rfl ?_
  refine g_iald F w (a := 148) rfl (j := (13 + t)) (ix_n (by omega)) (by omega) dX12_comes_9 ?_
  have hL0 := (hKL t (by omega)).2
  refine r_val (v := (zI (((L t) : Nat) : Int))) (hW.2.2.2.2.2 t (by omega)) ?_
  refine lv_iconst (v := zI 1) hx hb dX12_comes_10 rfl ?_
  refine lv_iload_n hx hb dX12_comes_11 rfl (lv_at hl 2 rfl) ?_
  refine lv_ishl hx hb dX12_comes_12 ?_
  refine r_val (v := (zI (((2 ^ j) : Nat) : Int))) (zb_shl (n := j) (by omega)) ?_
  have q1 := p2_b (n := j) (by omega)
  refine lv_ior hx hb dX12_comes_13 ?_
  refine r_val (v := (zI ((((L t) ||| (2 ^ j)) : Nat) : Int))) (zb_or (L t) (2 ^ j)) ?_
  have q2 := or_lt12 (a := (L t)) (b := (2 ^ j)) (by omega) (by omega)
  refine g_iast F w (a := 148) rfl (j := (13 + t)) (ix_n (by omega)) (by omega) dX12_comes_14 (fun H locs w => ?_)
  refine lv_aload_n hx hb dX12_comes_15 rfl (lv_at hl 0 rfl) ?_
  refine lv_dup hx hb dX12_comes_16 rfl ?_
  refine f_12_3 F w (a := 146) rfl tb_46 dX12_comes_17 ?_
  refine r_val (v := (zI z9)) ((st_ne (Or.inl (by omega))).trans hc) ?_
  refine lv_iconst (v := zI 1) hx hb dX12_comes_20 rfl ?_
  refine z_iadd (z := (z9 + 1)) hx hb dX12_comes_21 (by omega) ?_
  refine u_12_3 F w (a := 146) rfl tb_46 dX12_comes_22 (fun H locs w => ?_)
  exact e_v F w hr hlocks (lineW hW hn ht) dX12_comes_25
theorem dX12_goes_0 : decode cX12_goes 0 = .ok (.aload_n 0, 1) := dq0 kk_42 (by decide +kernel)
theorem dX12_goes_1 : decode cX12_goes 1 = .ok (.getfield 17, 3) := dqV kk_180 (by decide +kernel)
theorem dX12_goes_4 : decode cX12_goes 4 = .ok (.bipush 13, 2) := dqS kk_16 (by decide +kernel)
theorem dX12_goes_6 : decode cX12_goes 6 = .ok (.iload_n 1, 1) := dq0 kk_27 (by decide +kernel)
theorem dX12_goes_7 : decode cX12_goes 7 = .ok (.iadd, 1) := dq0 kk_96 (by decide +kernel)
theorem dX12_goes_8 : decode cX12_goes 8 = .ok (.dup2, 1) := dq0 kk_92 (by decide +kernel)
theorem dX12_goes_9 : decode cX12_goes 9 = .ok (.iaload, 1) := dq0 kk_46 (by decide +kernel)
theorem dX12_goes_10 : decode cX12_goes 10 = .ok (.iconst 1, 1) := dq0 kk_4 (by decide +kernel)
theorem dX12_goes_11 : decode cX12_goes 11 = .ok (.iload_n 2, 1) := dq0 kk_28 (by decide +kernel)
theorem dX12_goes_12 : decode cX12_goes 12 = .ok (.ishl, 1) := dq0 kk_120 (by decide +kernel)
theorem dX12_goes_13 : decode cX12_goes 13 = .ok (.iconst (-1), 1) := dq0 kk_2 (by decide +kernel)
theorem dX12_goes_14 : decode cX12_goes 14 = .ok (.ixor, 1) := dq0 kk_130 (by decide +kernel)
theorem dX12_goes_15 : decode cX12_goes 15 = .ok (.iand, 1) := dq0 kk_126 (by decide +kernel)
theorem dX12_goes_16 : decode cX12_goes 16 = .ok (.iastore, 1) := dq0 kk_79 (by decide +kernel)
theorem dX12_goes_17 : decode cX12_goes 17 = .ok (.aload_n 0, 1) := dq0 kk_42 (by decide +kernel)
theorem dX12_goes_18 : decode cX12_goes 18 = .ok (.dup, 1) := dq0 kk_89 (by decide +kernel)
theorem dX12_goes_19 : decode cX12_goes 19 = .ok (.getfield 66, 3) := dqV kk_180 (by decide +kernel)
theorem dX12_goes_22 : decode cX12_goes 22 = .ok (.iconst 1, 1) := dq0 kk_4 (by decide +kernel)
theorem dX12_goes_23 : decode cX12_goes 23 = .ok (.iadd, 1) := dq0 kk_96 (by decide +kernel)
theorem dX12_goes_24 : decode cX12_goes 24 = .ok (.putfield 66, 3) := dqV kk_181 (by decide +kernel)
theorem dX12_goes_27 : decode cX12_goes 27 = .ok (.return_, 1) := dq0 kk_177 (by decide +kernel)
set_option maxRecDepth 4000 in
theorem s_X12_goes {l : Launch} {D : va_G} {B : Nat} {cy : Nat → ClassId} {M : Mem} {n q hv ed : Nat} {K L : Nat → Nat} {z9 : Int} (hW : isR M 148 n q hv ed K L) (hwf : wf n q hv ed K L) (hc : M.1 146 3 = zI z9) {t j : Nat} (ht : t < n) (hj : j < 12) : Cv l D B cy yX12_goes cX12_goes 3 0 0 [.ref (B + 146), .int (zI (t : Int)), .int (zI (j : Int))] M (fun M1 => isR M1 148 n q hv ed K (updF L t (andn (L t) (2 ^ j))) ∧ M1.1 146 3 = zI (z9 + 1) ∧ FrC M1 M) := by
  refine s_any (by decide) (Nat.le_of_ble_eq_true rfl) ?_
  intro p e s m below meth c ls F hr hlocks w hl
  have F : CallFix p m c cX12_goes 3 s _ TB RX12 := F
  have hx := F.1
  have hb := F.2.1
  have hl : lv_has ls 3 [(0, .ref (B + 146)), (1, .int (zI (t : Int))), (2, .int (zI (j : Int)))] := hl
  have hwf0 := hwf
  obtain ⟨hn, hq, hhv, hed, hKL⟩ := hwf0
  refine lv_aload_n hx hb dX12_goes_0 rfl (lv_at hl 0 rfl) ?_
  refine f_12_2 F w (a := 146) rfl tb_45 dX12_goes_1 ?_
  refine lv_bipush (v := zI 13) hx hb dX12_goes_4 (by decide) ?_
  refine lv_iload_n hx hb dX12_goes_6 rfl (lv_at hl 1 rfl) ?_
  refine z_iadd (z := (((13 + t) : Nat) : Int)) hx hb dX12_goes_7 (by omega) ?_
  refine lv_dup2_11 hx hb dX12_goes_8 rfl rfl ?_
  refine g_iald F w (a := 148) rfl (j := (13 + t)) (ix_n (by omega)) (by omega) dX12_goes_9 ?_
  have hL0 := (hKL t (by omega)).2
  refine r_val (v := (zI (((L t) : Nat) : Int))) (hW.2.2.2.2.2 t (by omega)) ?_
  refine lv_iconst (v := zI 1) hx hb dX12_goes_10 rfl ?_
  refine lv_iload_n hx hb dX12_goes_11 rfl (lv_at hl 2 rfl) ?_
  refine lv_ishl hx hb dX12_goes_12 ?_
  refine r_val (v := (zI (((2 ^ j) : Nat) : Int))) (zb_shl (n := j) (by omega)) ?_
  have q1 := p2_b (n := j) (by omega)
  refine lv_iconst (v := zI (-1)) hx hb dX12_goes_13 rfl ?_
  refine lv_ixor hx hb dX12_goes_14 ?_
  refine lv_iand hx hb dX12_goes_15 ?_
  refine r_val (v := (zI (((andn (L t) (2 ^ j)) : Nat) : Int))) (zb_andn _ _) ?_
  have q3 := andn_le (L t) (2 ^ j)
  refine g_iast F w (a := 148) rfl (j := (13 + t)) (ix_n (by omega)) (by omega) dX12_goes_16 (fun H locs w => ?_)
  refine lv_aload_n hx hb dX12_goes_17 rfl (lv_at hl 0 rfl) ?_
  refine lv_dup hx hb dX12_goes_18 rfl ?_
  refine f_12_3 F w (a := 146) rfl tb_46 dX12_goes_19 ?_
  refine r_val (v := (zI z9)) ((st_ne (Or.inl (by omega))).trans hc) ?_
  refine lv_iconst (v := zI 1) hx hb dX12_goes_22 rfl ?_
  refine z_iadd (z := (z9 + 1)) hx hb dX12_goes_23 (by omega) ?_
  refine u_12_3 F w (a := 146) rfl tb_46 dX12_goes_24 (fun H locs w => ?_)
  exact e_v F w hr hlocks (lineW hW hn ht) dX12_goes_27
theorem dX12_isBare_0 : decode cX12_isBare 0 = .ok (.aload_n 0, 1) := dq0 kk_42 (by decide +kernel)
theorem dX12_isBare_1 : decode cX12_isBare 1 = .ok (.getfield 17, 3) := dqV kk_180 (by decide +kernel)
theorem dX12_isBare_4 : decode cX12_isBare 4 = .ok (.iload_n 1, 1) := dq0 kk_27 (by decide +kernel)
theorem dX12_isBare_5 : decode cX12_isBare 5 = .ok (.invokestatic 69, 3) := dqV kk_184 (by decide +kernel)
theorem tk_X12_tonesOf : Cond.code yX12_tonesOf cX12_tonesOf 4 (some .int) ∈ TB := tbm (tc6 (List.mem_of_getElem? (i := 71) rfl)) rfl
theorem gc_X12_tonesOf : GoodIn TB (cw yX12_tonesOf cX12_tonesOf 4 (some .int)) := goodIn_c2 tk_X12_tonesOf
theorem tb_47 : Cond.methodLink "ToneLinesModel" 69 yX12_tonesOf ∈ TB := tbm (tc6 (List.mem_of_getElem? (i := 69) rfl)) rfl
theorem tb_48 : Cond.static yX12_tonesOf ∈ TB := tbm (tc6 (List.mem_of_getElem? (i := 70) rfl)) rfl
theorem gs_X12_69 : GoodIn TB (va_wsS RX12 69 yX12_tonesOf (cw yX12_tonesOf cX12_tonesOf 4 (some .int))) := goodIn_3 tb_47 tb_48 tb_38 gc_X12_tonesOf
theorem hs_X12_tonesOf : yX12_tonesOf.cls ≠ "java/lang/invoke/MethodHandle" ∧ yX12_tonesOf.cls ≠ "java/lang/invoke/VarHandle" ∧ (parseMethodDescriptor yX12_tonesOf.desc).map (fun d => d.parameters.length) = some 2 := by decide +kernel
theorem dX12_isBare_8 : decode cX12_isBare 8 = .ok (.ifCond .ne 7, 3) := dqT kk_154 (by decide +kernel)
theorem dX12_isBare_15 : decode cX12_isBare 15 = .ok (.iconst 0, 1) := dq0 kk_3 (by decide +kernel)
theorem dX12_isBare_16 : decode cX12_isBare 16 = .ok (.ireturn, 1) := dq0 kk_172 (by decide +kernel)
theorem dX12_isBare_11 : decode cX12_isBare 11 = .ok (.iconst 1, 1) := dq0 kk_4 (by decide +kernel)
theorem dX12_isBare_12 : decode cX12_isBare 12 = .ok (.goto 4, 3) := dqT kk_167 (by decide +kernel)
set_option maxRecDepth 4000 in
theorem s_X12_isBare {l : Launch} {D : va_G} {B : Nat} {cy : Nat → ClassId} {M : Mem} {n q hv ed : Nat} {K L : Nat → Nat} {z9 : Int} (hW : isR M 148 n q hv ed K L) (hwf : wf n q hv ed K L) (hc : M.1 146 3 = zI z9) {j : Nat} (hj : j < 12) : Ci l D B cy yX12_isBare cX12_isBare 2 (some .boolean) 2 44 [.ref (B + 146), .int (zI (j : Int))] M (fun r M1 => ((bareP n L j) ∧ r = zI 1 ∨ ¬ (bareP n L j) ∧ r = zI 0) ∧ M1 = M) := by
  refine s_any (by decide) (Nat.le_of_ble_eq_true rfl) ?_
  intro p e s m below meth c ls F hr hlocks w hl
  have F : CallFix p m c cX12_isBare 2 s _ TB RX12 := F
  have hx := F.1
  have hb := F.2.1
  have hl : lv_has ls 2 [(0, .ref (B + 146)), (1, .int (zI (j : Int)))] := hl
  have hwf0 := hwf
  obtain ⟨hn, hq, hhv, hed, hKL⟩ := hwf0
  refine lv_aload_n hx hb dX12_isBare_0 rfl (lv_at hl 0 rfl) ?_
  refine f_12_2 F w (a := 146) rfl tb_45 dX12_isBare_1 ?_
  refine lv_iload_n hx hb dX12_isBare_4 rfl (lv_at hl 1 rfl) ?_
  refine x_Si F w (As := [.ref (B + 148), .int (zI (j : Int))]) (rest := []) (s_X12_tonesOf (a := 148) rfl hW hwf (j := j) (by omega)) gs_X12_69 hs_X12_tonesOf ⟨(Nat.le_of_ble_eq_true rfl), (Nat.le_of_ble_eq_true rfl)⟩ hl.1 rfl (Nat.le_of_ble_eq_true rfl) ⟨Nat.zero_le _, Nat.zero_le _⟩ dX12_isBare_5 (fun H locs w => ?_)
  have hm0 := tmk_lt (L := L) (j := j) (n := n) (by omega)
  refine z_if_ne (tgt := 15) hx hb (by omega) dX12_isBare_8 (by decide) (fun c1 => ?_) (fun c1 => ?_)
  · refine lv_iconst (v := zI 0) hx hb dX12_isBare_15 rfl ?_
    exact e_z F w hr hlocks (by decide) ⟨Or.inr ⟨fun h9 => by have := tmk_bare.mpr h9; omega, rfl⟩, rfl⟩ dX12_isBare_16
  · refine lv_iconst (v := zI 1) hx hb dX12_isBare_11 rfl ?_
    refine lv_goto (tgt := 16) hx hb dX12_isBare_12 (by decide) ?_
    exact e_z F w hr hlocks (by decide) ⟨Or.inl ⟨tmk_bare.mp (by omega), rfl⟩, rfl⟩ dX12_isBare_16
theorem dX12_copy_2 : decode cX12_copy 2 = .ok (.iload_n 2, 1) := dq0 kk_28 (by decide +kernel)
theorem dX12_copy_3 : decode cX12_copy 3 = .ok (.bipush 28, 2) := dqS kk_16 (by decide +kernel)
theorem dX12_copy_5 : decode cX12_copy 5 = .ok (.if_icmp .ge 15, 3) := dqT kk_162 (by decide +kernel)
theorem dX12_copy_8 : decode cX12_copy 8 = .ok (.aload_n 0, 1) := dq0 kk_42 (by decide +kernel)
theorem dX12_copy_9 : decode cX12_copy 9 = .ok (.iload_n 2, 1) := dq0 kk_28 (by decide +kernel)
theorem dX12_copy_10 : decode cX12_copy 10 = .ok (.aload_n 1, 1) := dq0 kk_43 (by decide +kernel)
theorem dX12_copy_11 : decode cX12_copy 11 = .ok (.iload_n 2, 1) := dq0 kk_28 (by decide +kernel)
theorem dX12_copy_12 : decode cX12_copy 12 = .ok (.iaload, 1) := dq0 kk_46 (by decide +kernel)
theorem dX12_copy_13 : decode cX12_copy 13 = .ok (.iastore, 1) := dq0 kk_79 (by decide +kernel)
theorem dX12_copy_14 : decode cX12_copy 14 = .ok (.iinc 2 1, 3) := dqI kk_132 (by decide +kernel)
theorem dX12_copy_17 : decode cX12_copy 17 = .ok (.goto (-15), 3) := dqT kk_167 (by decide +kernel)
set_option maxRecDepth 4000 in
theorem lp_X12_copy {p : Program} {l : Launch} {e : Env} {s : State} {m : MethodId} {args : Array Value} {below : List Frame} {meth : Method} {c : Code} {D : va_G} {B : Nat} {cy : Nat → ClassId} {H0 : Heap} {Q : State → Prop} {M : Mem} {R : Room} {a b : Nat} (F : CallFix p m c cX12_copy 3 s args TB RX12) (hR1 : 0 ≤ R.frames) (hR2 : 0 ≤ R.locals) (hk : kd a = (22, 28, 0)) (hk2 : kd b = (22, 28, 0)) (hab : b ≠ a) (kk : ∀ (k : Nat) (H : Heap) (locs : List Loc) (ls : Array Slot), (k = 28) → Wd D B cy s H0 (cpM M a b k) H locs → lv_has ls 3 [(2, .int (zI (k : Int))), (0, .ref (B + a)), (1, .ref (B + b))] → W p l e R s m args below meth c H locs 0 0 Q (F0 m 20 ls [])) : ∀ (f : Nat) (k : Nat), (k ≤ 28) → (28 ≤ k + f) → ∀ (H : Heap) (locs : List Loc) (ls : Array Slot), Wd D B cy s H0 (cpM M a b k) H locs → lv_has ls 3 [(2, .int (zI (k : Int))), (0, .ref (B + a)), (1, .ref (B + b))] → W p l e R s m args below meth c H locs 0 0 Q (F0 m 2 ls []) := by
  have hx := F.1
  have hb := F.2.1
  intro f
  induction f with
  | zero =>
    intro k i0 hf H locs ls w hl
    refine lv_iload_n hx hb dX12_copy_2 rfl (lv_at hl 0 rfl) ?_
    refine lv_bipush (v := zI 28) hx hb dX12_copy_3 (by decide) ?_
    refine z_icmp_ge (tgt := 20) hx hb (by omega) (by omega) dX12_copy_5 (by decide) (fun c1 => ?_) (fun c1 => False.elim (by omega))
    exact kk k _ _ ls (by omega) w (lv_sub hl [0, 1, 2] rfl)
  | succ f ih =>
    intro k i0 hf H locs ls w hl
    refine lv_iload_n hx hb dX12_copy_2 rfl (lv_at hl 0 rfl) ?_
    refine lv_bipush (v := zI 28) hx hb dX12_copy_3 (by decide) ?_
    refine z_icmp_ge (tgt := 20) hx hb (by omega) (by omega) dX12_copy_5 (by decide) (fun c1 => ?_) (fun c1 => ?_)
    · exact kk k _ _ ls (by omega) w (lv_sub hl [0, 1, 2] rfl)
    · refine lv_aload_n hx hb dX12_copy_8 rfl (lv_at hl 1 rfl) ?_
      refine lv_iload_n hx hb dX12_copy_9 rfl (lv_at hl 0 rfl) ?_
      refine lv_aload_n hx hb dX12_copy_10 rfl (lv_at hl 2 rfl) ?_
      refine lv_iload_n hx hb dX12_copy_11 rfl (lv_at hl 0 rfl) ?_
      refine g_iald F w (a := b) hk2 (j := k) (ix_n (by omega)) (by omega) dX12_copy_12 ?_
      refine r_val (v := (M.1 b k)) (cpM_rd hab) ?_
      refine g_iast F w (a := a) hk (j := k) (ix_n (by omega)) (by omega) dX12_copy_13 (fun H locs w => ?_)
      refine z_iinc (v := (((k + 1) : Nat) : Int)) (lv' := [(2, .int (zI (((k + 1) : Nat) : Int))), (0, .ref (B + a)), (1, .ref (B + b))]) hx hb dX12_copy_14 hl (k := 0) rfl (by omega) (by decide) rfl (fun ls hl => ?_)
      refine lv_goto (tgt := 2) hx hb dX12_copy_17 (by decide) ?_
      rw [cpM_step] at w
      exact ih (k + 1) (by omega) (by omega) _ _ ls w (lv_sub hl [0, 1, 2] rfl)
theorem dX12_copy_0 : decode cX12_copy 0 = .ok (.iconst 0, 1) := dq0 kk_3 (by decide +kernel)
theorem dX12_copy_1 : decode cX12_copy 1 = .ok (.istore_n 2, 1) := dq0 kk_61 (by decide +kernel)
theorem dX12_copy_20 : decode cX12_copy 20 = .ok (.return_, 1) := dq0 kk_177 (by decide +kernel)
set_option maxRecDepth 4000 in
theorem s_X12_copy {l : Launch} {D : va_G} {B : Nat} {cy : Nat → ClassId} {M : Mem} {a b n q hv ed : Nat} {K L : Nat → Nat} (hk : kd a = (22, 28, 0)) (hk2 : kd b = (22, 28, 0)) (hab : b ≠ a) (hW : isR M b n q hv ed K L) (hwf : wf n q hv ed K L) : Cv l D B cy yX12_copy cX12_copy 3 0 0 [.ref (B + a), .ref (B + b)] M (fun M1 => isR M1 a n q hv ed K L ∧ Fr1 M1 M a) := by
  refine s_any (by decide) (Nat.le_of_ble_eq_true rfl) ?_
  intro p e s m below meth c ls F hr hlocks w hl
  have F : CallFix p m c cX12_copy 3 s _ TB RX12 := F
  have hx := F.1
  have hb := F.2.1
  have hl : lv_has ls 3 [(0, .ref (B + a)), (1, .ref (B + b))] := hl
  have hwf0 := hwf
  obtain ⟨hn, hq, hhv, hed, hKL⟩ := hwf0
  refine lv_iconst (v := zI 0) hx hb dX12_copy_0 rfl ?_
  refine lv_istore_n (lv' := [(2, .int (zI 0)), (0, .ref (B + a)), (1, .ref (B + b))]) hx hb dX12_copy_1 rfl hl (by decide) rfl (fun ls hl => ?_)
  rw [← cpM_0 M a b] at w
  refine lp_X12_copy  F (Nat.le_of_ble_eq_true rfl) (Nat.le_of_ble_eq_true rfl) hk hk2 hab (fun k H locs ls x0 w hl => ?_) 28 0 (by omega) (by omega) _ _ ls w (lv_sub hl [0, 1, 2] rfl)
  subst x0
  exact e_v F w hr hlocks (cpM_R hW hn) dX12_copy_20
theorem dX12_insert_4 : decode cX12_insert 4 = .ok (.iload_n 3, 1) := dq0 kk_29 (by decide +kernel)
theorem dX12_insert_5 : decode cX12_insert 5 = .ok (.iload_n 1, 1) := dq0 kk_27 (by decide +kernel)
theorem dX12_insert_6 : decode cX12_insert 6 = .ok (.if_icmp .le 35, 3) := dqT kk_164 (by decide +kernel)
theorem dX12_insert_9 : decode cX12_insert 9 = .ok (.aload_n 0, 1) := dq0 kk_42 (by decide +kernel)
theorem dX12_insert_10 : decode cX12_insert 10 = .ok (.iconst 1, 1) := dq0 kk_4 (by decide +kernel)
theorem dX12_insert_11 : decode cX12_insert 11 = .ok (.iload_n 3, 1) := dq0 kk_29 (by decide +kernel)
theorem dX12_insert_12 : decode cX12_insert 12 = .ok (.iadd, 1) := dq0 kk_96 (by decide +kernel)
theorem dX12_insert_13 : decode cX12_insert 13 = .ok (.aload_n 0, 1) := dq0 kk_42 (by decide +kernel)
theorem dX12_insert_14 : decode cX12_insert 14 = .ok (.iconst 1, 1) := dq0 kk_4 (by decide +kernel)
theorem dX12_insert_15 : decode cX12_insert 15 = .ok (.iload_n 3, 1) := dq0 kk_29 (by decide +kernel)
theorem dX12_insert_16 : decode cX12_insert 16 = .ok (.iadd, 1) := dq0 kk_96 (by decide +kernel)
theorem dX12_insert_17 : decode cX12_insert 17 = .ok (.iconst 1, 1) := dq0 kk_4 (by decide +kernel)
theorem dX12_insert_18 : decode cX12_insert 18 = .ok (.isub, 1) := dq0 kk_100 (by decide +kernel)
theorem dX12_insert_19 : decode cX12_insert 19 = .ok (.iaload, 1) := dq0 kk_46 (by decide +kernel)
theorem dX12_insert_20 : decode cX12_insert 20 = .ok (.iastore, 1) := dq0 kk_79 (by decide +kernel)
theorem dX12_insert_21 : decode cX12_insert 21 = .ok (.aload_n 0, 1) := dq0 kk_42 (by decide +kernel)
theorem dX12_insert_22 : decode cX12_insert 22 = .ok (.bipush 13, 2) := dqS kk_16 (by decide +kernel)
theorem dX12_insert_24 : decode cX12_insert 24 = .ok (.iload_n 3, 1) := dq0 kk_29 (by decide +kernel)
theorem dX12_insert_25 : decode cX12_insert 25 = .ok (.iadd, 1) := dq0 kk_96 (by decide +kernel)
theorem dX12_insert_26 : decode cX12_insert 26 = .ok (.aload_n 0, 1) := dq0 kk_42 (by decide +kernel)
theorem dX12_insert_27 : decode cX12_insert 27 = .ok (.bipush 13, 2) := dqS kk_16 (by decide +kernel)
theorem dX12_insert_29 : decode cX12_insert 29 = .ok (.iload_n 3, 1) := dq0 kk_29 (by decide +kernel)
theorem dX12_insert_30 : decode cX12_insert 30 = .ok (.iadd, 1) := dq0 kk_96 (by decide +kernel)
theorem dX12_insert_31 : decode cX12_insert 31 = .ok (.iconst 1, 1) := dq0 kk_4 (by decide +kernel)
theorem dX12_insert_32 : decode cX12_insert 32 = .ok (.isub, 1) := dq0 kk_100 (by decide +kernel)
theorem dX12_insert_33 : decode cX12_insert 33 = .ok (.iaload, 1) := dq0 kk_46 (by decide +kernel)
theorem dX12_insert_34 : decode cX12_insert 34 = .ok (.iastore, 1) := dq0 kk_79 (by decide +kernel)
theorem dX12_insert_35 : decode cX12_insert 35 = .ok (.iinc 3 (-1), 3) := dqI kk_132 (by decide +kernel)
theorem dX12_insert_38 : decode cX12_insert 38 = .ok (.goto (-34), 3) := dqT kk_167 (by decide +kernel)
set_option maxRecDepth 4000 in
theorem lp_X12_insert {p : Program} {l : Launch} {e : Env} {s : State} {m : MethodId} {args : Array Value} {below : List Frame} {meth : Method} {c : Code} {D : va_G} {B : Nat} {cy : Nat → ClassId} {H0 : Heap} {Q : State → Prop} {M : Mem} {R : Room} {a n q hv ed : Nat} {K L : Nat → Nat}  {t x : Nat} (F : CallFix p m c cX12_insert 4 s args TB RX12) (hR1 : 0 ≤ R.frames) (hR2 : 0 ≤ R.locals) (hk : kd a = (22, 28, 0)) (hW : isR M a n q hv ed K L) (hwf : wf n q hv ed K L) (ht : t ≤ n) (hn9 : n < 12) (hx9 : x ≤ 2) (kk : ∀ (d : Nat) (H : Heap) (locs : List Loc) (ls : Array Slot), (d = 0) → Wd D B cy s H0 (riM M a n (t + d)) H locs → lv_has ls 4 [(3, .int (zI (((t + d) : Nat) : Int))), (0, .ref (B + a)), (1, .int (zI (t : Int))), (2, .int (zI (x : Int)))] → W p l e R s m args below meth c H locs 0 0 Q (F0 m 41 ls [])) : ∀ (f : Nat) (d : Nat), (t + d ≤ n) → (d ≤ f) → ∀ (H : Heap) (locs : List Loc) (ls : Array Slot), Wd D B cy s H0 (riM M a n (t + d)) H locs → lv_has ls 4 [(3, .int (zI (((t + d) : Nat) : Int))), (0, .ref (B + a)), (1, .int (zI (t : Int))), (2, .int (zI (x : Int)))] → W p l e R s m args below meth c H locs 0 0 Q (F0 m 4 ls []) := by
  have hx := F.1
  have hb := F.2.1
  have hwf0 := hwf
  obtain ⟨hn, hq, hhv, hed, hKL⟩ := hwf0
  intro f
  induction f with
  | zero =>
    intro d i0 hf H locs ls w hl
    refine lv_iload_n hx hb dX12_insert_4 rfl (lv_at hl 0 rfl) ?_
    refine lv_iload_n hx hb dX12_insert_5 rfl (lv_at hl 2 rfl) ?_
    refine z_icmp_le (tgt := 41) hx hb (by omega) (by omega) dX12_insert_6 (by decide) (fun c1 => ?_) (fun c1 => False.elim (by omega))
    exact kk d _ _ ls (by omega) w (lv_sub hl [0, 1, 2, 3] rfl)
  | succ f ih =>
    intro d i0 hf H locs ls w hl
    refine lv_iload_n hx hb dX12_insert_4 rfl (lv_at hl 0 rfl) ?_
    refine lv_iload_n hx hb dX12_insert_5 rfl (lv_at hl 2 rfl) ?_
    refine z_icmp_le (tgt := 41) hx hb (by omega) (by omega) dX12_insert_6 (by decide) (fun c1 => ?_) (fun c1 => ?_)
    · exact kk d _ _ ls (by omega) w (lv_sub hl [0, 1, 2, 3] rfl)
    · refine lv_aload_n hx hb dX12_insert_9 rfl (lv_at hl 1 rfl) ?_
      refine lv_iconst (v := zI 1) hx hb dX12_insert_10 rfl ?_
      refine lv_iload_n hx hb dX12_insert_11 rfl (lv_at hl 0 rfl) ?_
      refine z_iadd (z := (((1 + (t + d)) : Nat) : Int)) hx hb dX12_insert_12 (by omega) ?_
      refine lv_aload_n hx hb dX12_insert_13 rfl (lv_at hl 1 rfl) ?_
      refine lv_iconst (v := zI 1) hx hb dX12_insert_14 rfl ?_
      refine lv_iload_n hx hb dX12_insert_15 rfl (lv_at hl 0 rfl) ?_
      refine z_iadd (z := (((1 + (t + d)) : Nat) : Int)) hx hb dX12_insert_16 (by omega) ?_
      refine lv_iconst (v := zI 1) hx hb dX12_insert_17 rfl ?_
      refine z_isub (z := ((((1 + (t + d)) : Nat) : Int) - 1)) hx hb dX12_insert_18 (by omega) ?_
      refine r_val (v := (zI (((t + d) : Nat) : Int))) (congrArg zI (by omega)) ?_
      refine g_iald F w (a := a) hk (j := (t + d)) (ix_n (by omega)) (by omega) dX12_insert_19 ?_
      refine r_val (v := (M.1 a (t + d))) (riM_1 (by omega) (by omega) hn9) ?_
      refine g_iast F w (a := a) hk (j := (1 + (t + d))) (ix_n (by omega)) (by omega) dX12_insert_20 (fun H locs w => ?_)
      refine lv_aload_n hx hb dX12_insert_21 rfl (lv_at hl 1 rfl) ?_
      refine lv_bipush (v := zI 13) hx hb dX12_insert_22 (by decide) ?_
      refine lv_iload_n hx hb dX12_insert_24 rfl (lv_at hl 0 rfl) ?_
      refine z_iadd (z := (((13 + (t + d)) : Nat) : Int)) hx hb dX12_insert_25 (by omega) ?_
      refine lv_aload_n hx hb dX12_insert_26 rfl (lv_at hl 1 rfl) ?_
      refine lv_bipush (v := zI 13) hx hb dX12_insert_27 (by decide) ?_
      refine lv_iload_n hx hb dX12_insert_29 rfl (lv_at hl 0 rfl) ?_
      refine z_iadd (z := (((13 + (t + d)) : Nat) : Int)) hx hb dX12_insert_30 (by omega) ?_
      refine lv_iconst (v := zI 1) hx hb dX12_insert_31 rfl ?_
      refine z_isub (z := ((((13 + (t + d)) : Nat) : Int) - 1)) hx hb dX12_insert_32 (by omega) ?_
      refine r_val (v := (zI (((12 + (t + d)) : Nat) : Int))) (congrArg zI (by omega)) ?_
      refine g_iald F w (a := a) hk (j := (12 + (t + d))) (ix_n (by omega)) (by omega) dX12_insert_33 ?_
      refine r_val (v := (M.1 a (12 + (t + d)))) ((st_ne (Or.inr (by omega))).trans (riM_2 (by omega) (by omega) hn9 (by omega))) ?_
      refine g_iast F w (a := a) hk (j := (13 + (t + d))) (ix_n (by omega)) (by omega) dX12_insert_34 (fun H locs w => ?_)
      refine z_iinc (v := ((((t + d) : Nat) : Int) - 1)) (lv' := [(3, .int (zI ((((t + d) : Nat) : Int) - 1))), (0, .ref (B + a)), (1, .int (zI (t : Int))), (2, .int (zI (x : Int)))]) hx hb dX12_insert_35 hl (k := 0) rfl (by omega) (by decide) rfl (fun ls hl => ?_)
      refine lv_goto (tgt := 4) hx hb dX12_insert_38 (by decide) ?_
      rw [show (((t + d : Nat) : Int) - 1) = ((t + (d - 1) : Nat) : Int) by omega] at hl
      rw [riM_step (by omega) (by omega) hn9, show t + d - 1 = t + (d - 1) by omega] at w
      exact ih (d - 1) (by omega) (by omega) _ _ ls w (lv_sub hl [0, 1, 2, 3] rfl)
theorem dX12_insert_0 : decode cX12_insert 0 = .ok (.aload_n 0, 1) := dq0 kk_42 (by decide +kernel)
theorem dX12_insert_1 : decode cX12_insert 1 = .ok (.iconst 0, 1) := dq0 kk_3 (by decide +kernel)
theorem dX12_insert_2 : decode cX12_insert 2 = .ok (.iaload, 1) := dq0 kk_46 (by decide +kernel)
theorem dX12_insert_3 : decode cX12_insert 3 = .ok (.istore_n 3, 1) := dq0 kk_62 (by decide +kernel)
theorem dX12_insert_41 : decode cX12_insert 41 = .ok (.aload_n 0, 1) := dq0 kk_42 (by decide +kernel)
theorem dX12_insert_42 : decode cX12_insert 42 = .ok (.iconst 1, 1) := dq0 kk_4 (by decide +kernel)
theorem dX12_insert_43 : decode cX12_insert 43 = .ok (.iload_n 1, 1) := dq0 kk_27 (by decide +kernel)
theorem dX12_insert_44 : decode cX12_insert 44 = .ok (.iadd, 1) := dq0 kk_96 (by decide +kernel)
theorem dX12_insert_45 : decode cX12_insert 45 = .ok (.iload_n 2, 1) := dq0 kk_28 (by decide +kernel)
theorem dX12_insert_46 : decode cX12_insert 46 = .ok (.iastore, 1) := dq0 kk_79 (by decide +kernel)
theorem dX12_insert_47 : decode cX12_insert 47 = .ok (.aload_n 0, 1) := dq0 kk_42 (by decide +kernel)
theorem dX12_insert_48 : decode cX12_insert 48 = .ok (.bipush 13, 2) := dqS kk_16 (by decide +kernel)
theorem dX12_insert_50 : decode cX12_insert 50 = .ok (.iload_n 1, 1) := dq0 kk_27 (by decide +kernel)
theorem dX12_insert_51 : decode cX12_insert 51 = .ok (.iadd, 1) := dq0 kk_96 (by decide +kernel)
theorem dX12_insert_52 : decode cX12_insert 52 = .ok (.iconst 0, 1) := dq0 kk_3 (by decide +kernel)
theorem dX12_insert_53 : decode cX12_insert 53 = .ok (.iastore, 1) := dq0 kk_79 (by decide +kernel)
theorem dX12_insert_54 : decode cX12_insert 54 = .ok (.aload_n 0, 1) := dq0 kk_42 (by decide +kernel)
theorem dX12_insert_55 : decode cX12_insert 55 = .ok (.iconst 0, 1) := dq0 kk_3 (by decide +kernel)
theorem dX12_insert_56 : decode cX12_insert 56 = .ok (.dup2, 1) := dq0 kk_92 (by decide +kernel)
theorem dX12_insert_57 : decode cX12_insert 57 = .ok (.iaload, 1) := dq0 kk_46 (by decide +kernel)
theorem dX12_insert_58 : decode cX12_insert 58 = .ok (.iconst 1, 1) := dq0 kk_4 (by decide +kernel)
theorem dX12_insert_59 : decode cX12_insert 59 = .ok (.iadd, 1) := dq0 kk_96 (by decide +kernel)
theorem dX12_insert_60 : decode cX12_insert 60 = .ok (.iastore, 1) := dq0 kk_79 (by decide +kernel)
theorem dX12_insert_61 : decode cX12_insert 61 = .ok (.return_, 1) := dq0 kk_177 (by decide +kernel)
set_option maxRecDepth 4000 in
theorem s_X12_insert {l : Launch} {D : va_G} {B : Nat} {cy : Nat → ClassId} {M : Mem} {a n q hv ed : Nat} {K L : Nat → Nat} (hk : kd a = (22, 28, 0)) (hW : isR M a n q hv ed K L) (hwf : wf n q hv ed K L) {t x : Nat} (ht : t ≤ n) (hn9 : n < 12) (hx9 : x ≤ 2) : Cv l D B cy yX12_insert cX12_insert 4 0 0 [.ref (B + a), .int (zI (t : Int)), .int (zI (x : Int))] M (fun M1 => isR M1 a (n + 1) q hv ed (insF K t x) (insF L t 0) ∧ Fr1 M1 M a) := by
  refine s_any (by decide) (Nat.le_of_ble_eq_true rfl) ?_
  intro p e s m below meth c ls F hr hlocks w hl
  have F : CallFix p m c cX12_insert 4 s _ TB RX12 := F
  have hx := F.1
  have hb := F.2.1
  have hl : lv_has ls 4 [(0, .ref (B + a)), (1, .int (zI (t : Int))), (2, .int (zI (x : Int)))] := hl
  have hwf0 := hwf
  obtain ⟨hn, hq, hhv, hed, hKL⟩ := hwf0
  refine lv_aload_n hx hb dX12_insert_0 rfl (lv_at hl 0 rfl) ?_
  refine lv_iconst (v := zI 0) hx hb dX12_insert_1 rfl ?_
  refine g_iald F w (a := a) hk (j := 0) ⟨by decide, by decide⟩ (by omega) dX12_insert_2 ?_
  refine r_val (v := (zI (n : Int))) (hW.1) ?_
  refine lv_istore_n (lv' := [(3, .int (zI (n : Int))), (0, .ref (B + a)), (1, .int (zI (t : Int))), (2, .int (zI (x : Int)))]) hx hb dX12_insert_3 rfl hl (by decide) rfl (fun ls hl => ?_)
  have hl : lv_has ls 4 [(3, .int (zI ((t + (n - t) : Nat) : Int))), (0, .ref (B + a)), (1, .int (zI (t : Int))), (2, .int (zI (x : Int)))] := by rw [show t + (n - t) = n by omega]; exact hl
  rw [← riM_n M a n] at w
  rw [show riM M a n n = riM M a n (t + (n - t)) by rw [show t + (n - t) = n by omega]] at w
  refine lp_X12_insert  F (Nat.le_of_ble_eq_true rfl) (Nat.le_of_ble_eq_true rfl) hk hW hwf ht hn9 hx9 (fun d H locs ls x0 w hl => ?_) n (n - t) (by omega) (by omega) _ _ ls w (lv_sub hl [0, 1, 2, 3] rfl)
  subst x0
  refine lv_aload_n hx hb dX12_insert_41 rfl (lv_at hl 1 rfl) ?_
  refine lv_iconst (v := zI 1) hx hb dX12_insert_42 rfl ?_
  refine lv_iload_n hx hb dX12_insert_43 rfl (lv_at hl 2 rfl) ?_
  refine z_iadd (z := (((1 + t) : Nat) : Int)) hx hb dX12_insert_44 (by omega) ?_
  refine lv_iload_n hx hb dX12_insert_45 rfl (lv_at hl 3 rfl) ?_
  refine g_iast F w (a := a) hk (j := (1 + t)) (ix_n (by omega)) (by omega) dX12_insert_46 (fun H locs w => ?_)
  refine lv_aload_n hx hb dX12_insert_47 rfl (lv_at hl 1 rfl) ?_
  refine lv_bipush (v := zI 13) hx hb dX12_insert_48 (by decide) ?_
  refine lv_iload_n hx hb dX12_insert_50 rfl (lv_at hl 2 rfl) ?_
  refine z_iadd (z := (((13 + t) : Nat) : Int)) hx hb dX12_insert_51 (by omega) ?_
  refine lv_iconst (v := zI 0) hx hb dX12_insert_52 rfl ?_
  refine g_iast F w (a := a) hk (j := (13 + t)) (ix_n (by omega)) (by omega) dX12_insert_53 (fun H locs w => ?_)
  refine lv_aload_n hx hb dX12_insert_54 rfl (lv_at hl 1 rfl) ?_
  refine lv_iconst (v := zI 0) hx hb dX12_insert_55 rfl ?_
  refine lv_dup2_11 hx hb dX12_insert_56 rfl rfl ?_
  refine g_iald F w (a := a) hk (j := 0) ⟨by decide, by decide⟩ (by omega) dX12_insert_57 ?_
  refine r_val (v := (zI (n : Int))) ((st_ne (Or.inr (by omega))).trans ((st_ne (Or.inr (by omega))).trans (riM_0.trans hW.1))) ?_
  refine lv_iconst (v := zI 1) hx hb dX12_insert_58 rfl ?_
  refine z_iadd (z := (((n + 1) : Nat) : Int)) hx hb dX12_insert_59 (by omega) ?_
  refine g_iast F w (a := a) hk (j := 0) ⟨by decide, by decide⟩ (by omega) dX12_insert_60 (fun H locs w => ?_)
  exact e_v F w hr hlocks (riM_end hW ht hn9) dX12_insert_61
