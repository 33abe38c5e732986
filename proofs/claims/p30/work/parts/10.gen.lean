def maxP (F : Nat → Nat) : Nat → Nat
  | 0 => 0
  | t + 1 => if maxP F t < F t then F t else maxP F t
theorem maxP_z (F : Nat → Nat) (t : Nat) (h1 : maxP F t < 2147483648) (h2 : F t < 2147483648) : (if zI (maxP F t : Int) < zI (F t : Int) then zI (F t : Int) else zI (maxP F t : Int)) = zI ((maxP F (t + 1) : Nat) : Int) := by
  rw [maxP]
  by_cases h : maxP F t < F t
  · rw [if_pos ((zI_lt (by omega) (by omega)).mpr (by omega)), if_pos h]
  · rw [if_neg (fun q => h (by have := (zI_lt (by omega) (by omega)).mp q; omega)), if_neg h]
theorem maxP_le {F : Nat → Nat} {b : Nat} : ∀ {n : Nat}, (∀ k, k < n → F k ≤ b) → maxP F n ≤ b
  | 0, _ => Nat.zero_le _
  | n + 1, h => by
    rw [maxP]
    have h1 := maxP_le (n := n) (fun k hk => h k (by omega))
    have h2 := h n (by omega)
    by_cases h3 : maxP F n < F n
    · rw [if_pos h3]; exact h2
    · rw [if_neg h3]; exact h1
def sdR (f : Nat → Int32) (t u : Nat) : Nat → Int32 := fun i => if (1 + t ≤ i ∧ i < 1 + u) ∨ (13 + t ≤ i ∧ i < 13 + u) then f (i + 1) else f i
def rrM (M : Mem) (a t u : Nat) : Mem := sA M a (sdR (M.1 a) t u)
theorem rrM_t (M : Mem) (a t : Nat) : rrM M a t t = M := by
  unfold rrM
  rw [show sdR (M.1 a) t t = M.1 a from funext fun i => by simp only [sdR]; rw [if_neg (by omega)], sA_self]
theorem rrM_0 {M : Mem} {a t u : Nat} : (rrM M a t u).1 a 0 = M.1 a 0 := by
  have e : sdR (M.1 a) t u 0 = M.1 a 0 := by simp only [sdR]; rw [if_neg (by omega)]
  simp [rrM, sA, e]
theorem rrM_1 {M : Mem} {a t u k : Nat} (h : 1 + u ≤ k) (h2 : k ≤ 12) : (rrM M a t u).1 a k = M.1 a k := by
  have e : sdR (M.1 a) t u k = M.1 a k := by simp only [sdR]; rw [if_neg (by omega)]
  simp [rrM, sA, e]
theorem rrM_2 {M : Mem} {a t u k : Nat} (h : 13 + u ≤ k) : (rrM M a t u).1 a k = M.1 a k := by
  have e : sdR (M.1 a) t u k = M.1 a k := by simp only [sdR]; rw [if_neg (by omega)]
  simp [rrM, sA, e]
theorem rrM_step {M : Mem} {a t u : Nat} (h : t ≤ u) (h12 : u < 11) : st (st (rrM M a t u) a (1 + u) (M.1 a (1 + u + 1))) a (13 + u) (M.1 a (13 + u + 1)) = rrM M a t (u + 1) := by
  refine Prod.ext (funext fun c => ?_) rfl
  by_cases hc : c = a
  · subst hc
    simp only [st, rrM, sA]
    simp
    funext i
    simp only [upd, sdR]
    by_cases h1 : i = 13 + u
    · subst h1
      rw [if_pos rfl, if_pos (by omega)]
    · by_cases h2 : i = 1 + u
      · subst h2
        rw [if_neg h1, if_pos rfl, if_pos (by omega)]
      · rw [if_neg h1, if_neg h2]
        by_cases h3 : (1 + t ≤ i ∧ i < 1 + u) ∨ (13 + t ≤ i ∧ i < 13 + u)
        · rw [if_pos h3, if_pos (by omega)]
        · rw [if_neg h3, if_neg (by omega)]
  · simp [st, rrM, sA, hc]
theorem rrM_end {M : Mem} {a n q hv ed t : Nat} {K L : Nat → Nat} (hW : isR M a n q hv ed K L) (ht : t < n) (hn : n ≤ 12) : isR (st (rrM M a t (n - 1)) a 0 (zI ((n : Int) - 1))) a (n - 1) q hv ed (remF K t) (remF L t) ∧ Fr1 (st (rrM M a t (n - 1)) a 0 (zI ((n : Int) - 1))) M a := by
  obtain ⟨w0, w1, w2, w3, w4, w5⟩ := hW
  refine ⟨⟨by simp [st, sA, upd]; exact congrArg zI (by omega), ?_, ?_, ?_, fun k hk => ?_, fun k hk => ?_⟩, ⟨fun c h => by simp [st, rrM, sA, h], rfl⟩⟩
  · simp only [st, sA, rrM]; simp; simp only [upd, sdR]; rw [if_neg (by omega), if_neg (by omega)]; exact w1
  · simp only [st, sA, rrM]; simp; simp only [upd, sdR]; rw [if_neg (by omega), if_neg (by omega)]; exact w2
  · simp only [st, sA, rrM]; simp; simp only [upd, sdR]; rw [if_neg (by omega), if_neg (by omega)]; exact w3
  · simp only [st, sA, rrM, remF]; simp; simp only [upd, sdR]
    rw [if_neg (by omega)]
    by_cases h2 : k < t
    · rw [if_neg (by omega), if_pos h2]; exact w4 k (by omega)
    · rw [if_pos (by omega), if_neg h2, show 1 + k + 1 = 1 + (k + 1) by omega]; exact w4 (k + 1) (by omega)
  · simp only [st, sA, rrM, remF]; simp; simp only [upd, sdR]
    rw [if_neg (by omega)]
    by_cases h2 : k < t
    · rw [if_neg (by omega), if_pos h2]; exact w5 k (by omega)
    · rw [if_pos (by omega), if_neg h2, show 13 + k + 1 = 13 + (k + 1) by omega]; exact w5 (k + 1) (by omega)
theorem dX12_remove_2 : decode cX12_remove 2 = .ok (.iload_n 2, 1) := dq0 kk_28 (by decide +kernel)
theorem dX12_remove_3 : decode cX12_remove 3 = .ok (.iconst 1, 1) := dq0 kk_4 (by decide +kernel)
theorem dX12_remove_4 : decode cX12_remove 4 = .ok (.iadd, 1) := dq0 kk_96 (by decide +kernel)
theorem dX12_remove_5 : decode cX12_remove 5 = .ok (.aload_n 0, 1) := dq0 kk_42 (by decide +kernel)
theorem dX12_remove_6 : decode cX12_remove 6 = .ok (.iconst 0, 1) := dq0 kk_3 (by decide +kernel)
theorem dX12_remove_7 : decode cX12_remove 7 = .ok (.iaload, 1) := dq0 kk_46 (by decide +kernel)
theorem dX12_remove_8 : decode cX12_remove 8 = .ok (.if_icmp .ge 35, 3) := dqT kk_162 (by decide +kernel)
theorem dX12_remove_11 : decode cX12_remove 11 = .ok (.aload_n 0, 1) := dq0 kk_42 (by decide +kernel)
theorem dX12_remove_12 : decode cX12_remove 12 = .ok (.iconst 1, 1) := dq0 kk_4 (by decide +kernel)
theorem dX12_remove_13 : decode cX12_remove 13 = .ok (.iload_n 2, 1) := dq0 kk_28 (by decide +kernel)
theorem dX12_remove_14 : decode cX12_remove 14 = .ok (.iadd, 1) := dq0 kk_96 (by decide +kernel)
theorem dX12_remove_15 : decode cX12_remove 15 = .ok (.aload_n 0, 1) := dq0 kk_42 (by decide +kernel)
theorem dX12_remove_16 : decode cX12_remove 16 = .ok (.iconst 1, 1) := dq0 kk_4 (by decide +kernel)
theorem dX12_remove_17 : decode cX12_remove 17 = .ok (.iload_n 2, 1) := dq0 kk_28 (by decide +kernel)
theorem dX12_remove_18 : decode cX12_remove 18 = .ok (.iadd, 1) := dq0 kk_96 (by decide +kernel)
theorem dX12_remove_19 : decode cX12_remove 19 = .ok (.iconst 1, 1) := dq0 kk_4 (by decide +kernel)
theorem dX12_remove_20 : decode cX12_remove 20 = .ok (.iadd, 1) := dq0 kk_96 (by decide +kernel)
theorem dX12_remove_21 : decode cX12_remove 21 = .ok (.iaload, 1) := dq0 kk_46 (by decide +kernel)
theorem dX12_remove_22 : decode cX12_remove 22 = .ok (.iastore, 1) := dq0 kk_79 (by decide +kernel)
theorem dX12_remove_23 : decode cX12_remove 23 = .ok (.aload_n 0, 1) := dq0 kk_42 (by decide +kernel)
theorem dX12_remove_24 : decode cX12_remove 24 = .ok (.bipush 13, 2) := dqS kk_16 (by decide +kernel)
theorem dX12_remove_26 : decode cX12_remove 26 = .ok (.iload_n 2, 1) := dq0 kk_28 (by decide +kernel)
theorem dX12_remove_27 : decode cX12_remove 27 = .ok (.iadd, 1) := dq0 kk_96 (by decide +kernel)
theorem dX12_remove_28 : decode cX12_remove 28 = .ok (.aload_n 0, 1) := dq0 kk_42 (by decide +kernel)
theorem dX12_remove_29 : decode cX12_remove 29 = .ok (.bipush 13, 2) := dqS kk_16 (by decide +kernel)
theorem dX12_remove_31 : decode cX12_remove 31 = .ok (.iload_n 2, 1) := dq0 kk_28 (by decide +kernel)
theorem dX12_remove_32 : decode cX12_remove 32 = .ok (.iadd, 1) := dq0 kk_96 (by decide +kernel)
theorem dX12_remove_33 : decode cX12_remove 33 = .ok (.iconst 1, 1) := dq0 kk_4 (by decide +kernel)
theorem dX12_remove_34 : decode cX12_remove 34 = .ok (.iadd, 1) := dq0 kk_96 (by decide +kernel)
theorem dX12_remove_35 : decode cX12_remove 35 = .ok (.iaload, 1) := dq0 kk_46 (by decide +kernel)
theorem dX12_remove_36 : decode cX12_remove 36 = .ok (.iastore, 1) := dq0 kk_79 (by decide +kernel)
theorem dX12_remove_37 : decode cX12_remove 37 = .ok (.iinc 2 1, 3) := dqI kk_132 (by decide +kernel)
theorem dX12_remove_40 : decode cX12_remove 40 = .ok (.goto (-38), 3) := dqT kk_167 (by decide +kernel)
set_option maxRecDepth 4000 in
theorem lp_X12_remove {p : Program} {l : Launch} {e : Env} {s : State} {m : MethodId} {args : Array Value} {below : List Frame} {meth : Method} {c : Code} {D : va_G} {B : Nat} {cy : Nat → ClassId} {H0 : Heap} {Q : State → Prop} {M : Mem} {R : Room} {a n q hv ed : Nat} {K L : Nat → Nat}  {t : Nat} (F : CallFix p m c cX12_remove 3 s args TB RX12) (hR1 : 0 ≤ R.frames) (hR2 : 0 ≤ R.locals) (hk : kd a = (22, 28, 0)) (hW : isR M a n q hv ed K L) (hwf : wf n q hv ed K L) (ht : t < n) (kk : ∀ (u : Nat) (H : Heap) (locs : List Loc) (ls : Array Slot), (u = n - 1) → Wd D B cy s H0 (rrM M a t u) H locs → lv_has ls 3 [(2, .int (zI (u : Int))), (0, .ref (B + a)), (1, .int (zI (t : Int)))] → W p l e R s m args below meth c H locs 0 0 Q (F0 m 43 ls [])) : ∀ (f : Nat) (u : Nat), (t ≤ u) → (u < n) → (n ≤ u + 1 + f) → ∀ (H : Heap) (locs : List Loc) (ls : Array Slot), Wd D B cy s H0 (rrM M a t u) H locs → lv_has ls 3 [(2, .int (zI (u : Int))), (0, .ref (B + a)), (1, .int (zI (t : Int)))] → W p l e R s m args below meth c H locs 0 0 Q (F0 m 2 ls []) := by
  have hx := F.1
  have hb := F.2.1
  have hwf0 := hwf
  obtain ⟨hn, hq, hhv, hed, hKL⟩ := hwf0
  intro f
  induction f with
  | zero =>
    intro u i0 i1 hf H locs ls w hl
    refine lv_iload_n hx hb dX12_remove_2 rfl (lv_at hl 0 rfl) ?_
    refine lv_iconst (v := zI 1) hx hb dX12_remove_3 rfl ?_
    refine z_iadd (z := (((u + 1) : Nat) : Int)) hx hb dX12_remove_4 (by omega) ?_
    refine lv_aload_n hx hb dX12_remove_5 rfl (lv_at hl 1 rfl) ?_
    refine lv_iconst (v := zI 0) hx hb dX12_remove_6 rfl ?_
    refine g_iald F w (a := a) hk (j := 0) ⟨by decide, by decide⟩ (by omega) dX12_remove_7 ?_
    refine r_val (v := (zI (n : Int))) (rrM_0.trans hW.1) ?_
    refine z_icmp_ge (tgt := 43) hx hb (by omega) (by omega) dX12_remove_8 (by decide) (fun c1 => ?_) (fun c1 => False.elim (by omega))
    exact kk u _ _ ls (by omega) w (lv_sub hl [0, 1, 2] rfl)
  | succ f ih =>
    intro u i0 i1 hf H locs ls w hl
    refine lv_iload_n hx hb dX12_remove_2 rfl (lv_at hl 0 rfl) ?_
    refine lv_iconst (v := zI 1) hx hb dX12_remove_3 rfl ?_
    refine z_iadd (z := (((u + 1) : Nat) : Int)) hx hb dX12_remove_4 (by omega) ?_
    refine lv_aload_n hx hb dX12_remove_5 rfl (lv_at hl 1 rfl) ?_
    refine lv_iconst (v := zI 0) hx hb dX12_remove_6 rfl ?_
    refine g_iald F w (a := a) hk (j := 0) ⟨by decide, by decide⟩ (by omega) dX12_remove_7 ?_
    refine r_val (v := (zI (n : Int))) (rrM_0.trans hW.1) ?_
    refine z_icmp_ge (tgt := 43) hx hb (by omega) (by omega) dX12_remove_8 (by decide) (fun c1 => ?_) (fun c1 => ?_)
    · exact kk u _ _ ls (by omega) w (lv_sub hl [0, 1, 2] rfl)
    · refine lv_aload_n hx hb dX12_remove_11 rfl (lv_at hl 1 rfl) ?_
      refine lv_iconst (v := zI 1) hx hb dX12_remove_12 rfl ?_
      refine lv_iload_n hx hb dX12_remove_13 rfl (lv_at hl 0 rfl) ?_
      refine z_iadd (z := (((1 + u) : Nat) : Int)) hx hb dX12_remove_14 (by omega) ?_
      refine lv_aload_n hx hb dX12_remove_15 rfl (lv_at hl 1 rfl) ?_
      refine lv_iconst (v := zI 1) hx hb dX12_remove_16 rfl ?_
      refine lv_iload_n hx hb dX12_remove_17 rfl (lv_at hl 0 rfl) ?_
      refine z_iadd (z := (((1 + u) : Nat) : Int)) hx hb dX12_remove_18 (by omega) ?_
      refine lv_iconst (v := zI 1) hx hb dX12_remove_19 rfl ?_
      refine z_iadd (z := ((((1 + u) + 1) : Nat) : Int)) hx hb dX12_remove_20 (by omega) ?_
      refine g_iald F w (a := a) hk (j := ((1 + u) + 1)) (ix_n (by omega)) (by omega) dX12_remove_21 ?_
      refine r_val (v := (M.1 a ((1 + u) + 1))) (rrM_1 (by omega) (by omega)) ?_
      refine g_iast F w (a := a) hk (j := (1 + u)) (ix_n (by omega)) (by omega) dX12_remove_22 (fun H locs w => ?_)
      refine lv_aload_n hx hb dX12_remove_23 rfl (lv_at hl 1 rfl) ?_
      refine lv_bipush (v := zI 13) hx hb dX12_remove_24 (by decide) ?_
      refine lv_iload_n hx hb dX12_remove_26 rfl (lv_at hl 0 rfl) ?_
      refine z_iadd (z := (((13 + u) : Nat) : Int)) hx hb dX12_remove_27 (by omega) ?_
      refine lv_aload_n hx hb dX12_remove_28 rfl (lv_at hl 1 rfl) ?_
      refine lv_bipush (v := zI 13) hx hb dX12_remove_29 (by decide) ?_
      refine lv_iload_n hx hb dX12_remove_31 rfl (lv_at hl 0 rfl) ?_
      refine z_iadd (z := (((13 + u) : Nat) : Int)) hx hb dX12_remove_32 (by omega) ?_
      refine lv_iconst (v := zI 1) hx hb dX12_remove_33 rfl ?_
      refine z_iadd (z := ((((13 + u) + 1) : Nat) : Int)) hx hb dX12_remove_34 (by omega) ?_
      refine g_iald F w (a := a) hk (j := ((13 + u) + 1)) (ix_n (by omega)) (by omega) dX12_remove_35 ?_
      refine r_val (v := (M.1 a ((13 + u) + 1))) ((st_ne (Or.inr (by omega))).trans (rrM_2 (by omega))) ?_
      refine g_iast F w (a := a) hk (j := (13 + u)) (ix_n (by omega)) (by omega) dX12_remove_36 (fun H locs w => ?_)
      refine z_iinc (v := (((u + 1) : Nat) : Int)) (lv' := [(2, .int (zI (((u + 1) : Nat) : Int))), (0, .ref (B + a)), (1, .int (zI (t : Int)))]) hx hb dX12_remove_37 hl (k := 0) rfl (by omega) (by decide) rfl (fun ls hl => ?_)
      refine lv_goto (tgt := 2) hx hb dX12_remove_40 (by decide) ?_
      rw [rrM_step (by omega) (by omega)] at w
      exact ih (u + 1) (by omega) (by omega) (by omega) _ _ ls w (lv_sub hl [0, 1, 2] rfl)
theorem dX12_remove_0 : decode cX12_remove 0 = .ok (.iload_n 1, 1) := dq0 kk_27 (by decide +kernel)
theorem dX12_remove_1 : decode cX12_remove 1 = .ok (.istore_n 2, 1) := dq0 kk_61 (by decide +kernel)
theorem dX12_remove_43 : decode cX12_remove 43 = .ok (.aload_n 0, 1) := dq0 kk_42 (by decide +kernel)
theorem dX12_remove_44 : decode cX12_remove 44 = .ok (.iconst 0, 1) := dq0 kk_3 (by decide +kernel)
theorem dX12_remove_45 : decode cX12_remove 45 = .ok (.dup2, 1) := dq0 kk_92 (by decide +kernel)
theorem dX12_remove_46 : decode cX12_remove 46 = .ok (.iaload, 1) := dq0 kk_46 (by decide +kernel)
theorem dX12_remove_47 : decode cX12_remove 47 = .ok (.iconst 1, 1) := dq0 kk_4 (by decide +kernel)
theorem dX12_remove_48 : decode cX12_remove 48 = .ok (.isub, 1) := dq0 kk_100 (by decide +kernel)
theorem dX12_remove_49 : decode cX12_remove 49 = .ok (.iastore, 1) := dq0 kk_79 (by decide +kernel)
theorem dX12_remove_50 : decode cX12_remove 50 = .ok (.return_, 1) := dq0 kk_177 (by decide +kernel)
set_option maxRecDepth 4000 in
theorem s_X12_remove {l : Launch} {D : va_G} {B : Nat} {cy : Nat → ClassId} {M : Mem} {a n q hv ed : Nat} {K L : Nat → Nat} (hk : kd a = (22, 28, 0)) (hW : isR M a n q hv ed K L) (hwf : wf n q hv ed K L) {t : Nat} (ht : t < n) : Cv l D B cy yX12_remove cX12_remove 3 0 0 [.ref (B + a), .int (zI (t : Int))] M (fun M1 => isR M1 a (n - 1) q hv ed (remF K t) (remF L t) ∧ Fr1 M1 M a) := by
  refine s_any (by decide) (Nat.le_of_ble_eq_true rfl) ?_
  intro p e s m below meth c ls F hr hlocks w hl
  have F : CallFix p m c cX12_remove 3 s _ TB RX12 := F
  have hx := F.1
  have hb := F.2.1
  have hl : lv_has ls 3 [(0, .ref (B + a)), (1, .int (zI (t : Int)))] := hl
  have hwf0 := hwf
  obtain ⟨hn, hq, hhv, hed, hKL⟩ := hwf0
  refine lv_iload_n hx hb dX12_remove_0 rfl (lv_at hl 1 rfl) ?_
  refine lv_istore_n (lv' := [(2, .int (zI (t : Int))), (0, .ref (B + a)), (1, .int (zI (t : Int)))]) hx hb dX12_remove_1 rfl hl (by decide) rfl (fun ls hl => ?_)
  rw [← rrM_t M a t] at w
  refine lp_X12_remove  F (Nat.le_of_ble_eq_true rfl) (Nat.le_of_ble_eq_true rfl) hk hW hwf ht (fun u H locs ls x0 w hl => ?_) n t (by omega) (by omega) (by omega) _ _ ls w (lv_sub hl [0, 1, 2] rfl)
  subst x0
  refine lv_aload_n hx hb dX12_remove_43 rfl (lv_at hl 1 rfl) ?_
  refine lv_iconst (v := zI 0) hx hb dX12_remove_44 rfl ?_
  refine lv_dup2_11 hx hb dX12_remove_45 rfl rfl ?_
  refine g_iald F w (a := a) hk (j := 0) ⟨by decide, by decide⟩ (by omega) dX12_remove_46 ?_
  refine r_val (v := (zI (n : Int))) (rrM_0.trans hW.1) ?_
  refine lv_iconst (v := zI 1) hx hb dX12_remove_47 rfl ?_
  refine z_isub (z := ((n : Int) - 1)) hx hb dX12_remove_48 (by omega) ?_
  refine g_iast F w (a := a) hk (j := 0) ⟨by decide, by decide⟩ (by omega) dX12_remove_49 (fun H locs w => ?_)
  exact e_v F w hr hlocks (rrM_end hW ht hn) dX12_remove_50
theorem dX4_isOf_0 : decode cX4_isOf 0 = .ok (.aload_n 0, 1) := dq0 kk_42 (by decide +kernel)
theorem dX4_isOf_1 : decode cX4_isOf 1 = .ok (.getfield 9, 3) := dqV kk_180 (by decide +kernel)
theorem tb_49 : Cond.fieldLink "ToneLines$Rule" 9 "ToneLines$Rule" "parts" "[I" ∈ TB := rtb_58
theorem dX4_isOf_4 : decode cX4_isOf 4 = .ok (.iconst 2, 1) := dq0 kk_5 (by decide +kernel)
theorem dX4_isOf_5 : decode cX4_isOf 5 = .ok (.iaload, 1) := dq0 kk_46 (by decide +kernel)
theorem dX4_isOf_6 : decode cX4_isOf 6 = .ok (.iconst 3, 1) := dq0 kk_6 (by decide +kernel)
theorem dX4_isOf_7 : decode cX4_isOf 7 = .ok (.if_icmp .eq 13, 3) := dqT kk_159 (by decide +kernel)
theorem dX4_isOf_20 : decode cX4_isOf 20 = .ok (.iconst 1, 1) := dq0 kk_4 (by decide +kernel)
theorem dX4_isOf_21 : decode cX4_isOf 21 = .ok (.goto 4, 3) := dqT kk_167 (by decide +kernel)
theorem dX4_isOf_25 : decode cX4_isOf 25 = .ok (.ireturn, 1) := dq0 kk_172 (by decide +kernel)
theorem dX4_isOf_10 : decode cX4_isOf 10 = .ok (.aload_n 0, 1) := dq0 kk_42 (by decide +kernel)
theorem dX4_isOf_11 : decode cX4_isOf 11 = .ok (.getfield 9, 3) := dqV kk_180 (by decide +kernel)
theorem dX4_isOf_14 : decode cX4_isOf 14 = .ok (.iconst 2, 1) := dq0 kk_5 (by decide +kernel)
theorem dX4_isOf_15 : decode cX4_isOf 15 = .ok (.iaload, 1) := dq0 kk_46 (by decide +kernel)
theorem dX4_isOf_16 : decode cX4_isOf 16 = .ok (.iload_n 1, 1) := dq0 kk_27 (by decide +kernel)
theorem dX4_isOf_17 : decode cX4_isOf 17 = .ok (.if_icmp .ne 7, 3) := dqT kk_160 (by decide +kernel)
theorem dX4_isOf_24 : decode cX4_isOf 24 = .ok (.iconst 0, 1) := dq0 kk_3 (by decide +kernel)
set_option maxRecDepth 4000 in
theorem s_X4_isOf {l : Launch} {D : va_G} {B : Nat} {cy : Nat → ClassId} {M : Mem} {a : Nat} {P : Nat → Int} (hk : kd a = (4, 0, 0)) (hU : isU M a P) (hP : okP P) {z : Int} (hz : rg z) : Ci l D B cy yX4_isOf cX4_isOf 2 (some .boolean) 0 0 [.ref (B + a), .int (zI z)] M (fun r M1 => ((P 2 = 3 ∨ P 2 = z) ∧ r = zI 1 ∨ ¬ (P 2 = 3 ∨ P 2 = z) ∧ r = zI 0) ∧ M1 = M) := by
  refine s_any (by decide) (Nat.le_of_ble_eq_true rfl) ?_
  intro p e s m below meth c ls F hr hlocks w hl
  have F : CallFix p m c cX4_isOf 2 s _ TB RX4 := F
  have hx := F.1
  have hb := F.2.1
  have hl : lv_has ls 2 [(0, .ref (B + a)), (1, .int (zI z))] := hl
  have hP0 := hP 0 (by decide)
  have hP1 := hP 1 (by decide)
  have hP2 := hP 2 (by decide)
  have hP3 := hP 3 (by decide)
  have hP4 := hP 4 (by decide)
  have hP5 := hP 5 (by decide)
  have hP6 := hP 6 (by decide)
  have hP7 := hP 7 (by decide)
  refine lv_aload_n hx hb dX4_isOf_0 rfl (lv_at hl 0 rfl) ?_
  refine f_4_0 F w (a := a) hk tb_49 dX4_isOf_1 ?_
  refine lv_iconst (v := zI 2) hx hb dX4_isOf_4 rfl ?_
  refine g_iald F w (a := (a + 1)) (kd_r1 hk) (j := 2) ⟨by decide, by decide⟩ (by omega) dX4_isOf_5 ?_
  refine r_val (v := (zI (P 2))) (hU 2 (by decide)) ?_
  refine lv_iconst (v := zI 3) hx hb dX4_isOf_6 rfl ?_
  refine z_icmp_eq (tgt := 20) hx hb (by omega) (by omega) dX4_isOf_7 (by decide) (fun c1 => ?_) (fun c1 => ?_)
  · refine lv_iconst (v := zI 1) hx hb dX4_isOf_20 rfl ?_
    refine lv_goto (tgt := 25) hx hb dX4_isOf_21 (by decide) ?_
    exact e_z F w hr hlocks (by decide) ⟨Or.inl ⟨by omega, rfl⟩, rfl⟩ dX4_isOf_25
  · refine lv_aload_n hx hb dX4_isOf_10 rfl (lv_at hl 0 rfl) ?_
    refine f_4_0 F w (a := a) hk tb_49 dX4_isOf_11 ?_
    refine lv_iconst (v := zI 2) hx hb dX4_isOf_14 rfl ?_
    refine g_iald F w (a := (a + 1)) (kd_r1 hk) (j := 2) ⟨by decide, by decide⟩ (by omega) dX4_isOf_15 ?_
    refine r_val (v := (zI (P 2))) (hU 2 (by decide)) ?_
    refine lv_iload_n hx hb dX4_isOf_16 rfl (lv_at hl 1 rfl) ?_
    refine z_icmp_ne (tgt := 24) hx hb (by omega) (by omega) dX4_isOf_17 (by decide) (fun c2 => ?_) (fun c2 => ?_)
    · refine lv_iconst (v := zI 0) hx hb dX4_isOf_24 rfl ?_
      exact e_z F w hr hlocks (by decide) ⟨Or.inr ⟨by omega, rfl⟩, rfl⟩ dX4_isOf_25
    · refine lv_iconst (v := zI 1) hx hb dX4_isOf_20 rfl ?_
      refine lv_goto (tgt := 25) hx hb dX4_isOf_21 (by decide) ?_
      exact e_z F w hr hlocks (by decide) ⟨Or.inl ⟨by omega, rfl⟩, rfl⟩ dX4_isOf_25
theorem dX4_goesLeft_0 : decode cX4_goesLeft 0 = .ok (.aload_n 0, 1) := dq0 kk_42 (by decide +kernel)
theorem dX4_goesLeft_1 : decode cX4_goesLeft 1 = .ok (.getfield 9, 3) := dqV kk_180 (by decide +kernel)
theorem dX4_goesLeft_4 : decode cX4_goesLeft 4 = .ok (.iconst 0, 1) := dq0 kk_3 (by decide +kernel)
theorem dX4_goesLeft_5 : decode cX4_goesLeft 5 = .ok (.iaload, 1) := dq0 kk_46 (by decide +kernel)
theorem dX4_goesLeft_6 : decode cX4_goesLeft 6 = .ok (.istore_n 1, 1) := dq0 kk_60 (by decide +kernel)
theorem dX4_goesLeft_7 : decode cX4_goesLeft 7 = .ok (.aload_n 0, 1) := dq0 kk_42 (by decide +kernel)
theorem dX4_goesLeft_8 : decode cX4_goesLeft 8 = .ok (.getfield 9, 3) := dqV kk_180 (by decide +kernel)
theorem dX4_goesLeft_11 : decode cX4_goesLeft 11 = .ok (.iconst 4, 1) := dq0 kk_7 (by decide +kernel)
theorem dX4_goesLeft_12 : decode cX4_goesLeft 12 = .ok (.iaload, 1) := dq0 kk_46 (by decide +kernel)
theorem dX4_goesLeft_13 : decode cX4_goesLeft 13 = .ok (.iconst 1, 1) := dq0 kk_4 (by decide +kernel)
theorem dX4_goesLeft_14 : decode cX4_goesLeft 14 = .ok (.if_icmp .ne 22, 3) := dqT kk_160 (by decide +kernel)
theorem dX4_goesLeft_36 : decode cX4_goesLeft 36 = .ok (.iconst 0, 1) := dq0 kk_3 (by decide +kernel)
theorem dX4_goesLeft_37 : decode cX4_goesLeft 37 = .ok (.ireturn, 1) := dq0 kk_172 (by decide +kernel)
theorem dX4_goesLeft_17 : decode cX4_goesLeft 17 = .ok (.iload_n 1, 1) := dq0 kk_27 (by decide +kernel)
theorem dX4_goesLeft_18 : decode cX4_goesLeft 18 = .ok (.iconst 1, 1) := dq0 kk_4 (by decide +kernel)
theorem dX4_goesLeft_19 : decode cX4_goesLeft 19 = .ok (.if_icmp .eq 13, 3) := dqT kk_159 (by decide +kernel)
theorem dX4_goesLeft_32 : decode cX4_goesLeft 32 = .ok (.iconst 1, 1) := dq0 kk_4 (by decide +kernel)
theorem dX4_goesLeft_33 : decode cX4_goesLeft 33 = .ok (.goto 4, 3) := dqT kk_167 (by decide +kernel)
theorem dX4_goesLeft_22 : decode cX4_goesLeft 22 = .ok (.iload_n 1, 1) := dq0 kk_27 (by decide +kernel)
theorem dX4_goesLeft_23 : decode cX4_goesLeft 23 = .ok (.iconst 2, 1) := dq0 kk_5 (by decide +kernel)
theorem dX4_goesLeft_24 : decode cX4_goesLeft 24 = .ok (.if_icmp .eq 8, 3) := dqT kk_159 (by decide +kernel)
theorem dX4_goesLeft_27 : decode cX4_goesLeft 27 = .ok (.iload_n 1, 1) := dq0 kk_27 (by decide +kernel)
theorem dX4_goesLeft_28 : decode cX4_goesLeft 28 = .ok (.iconst 4, 1) := dq0 kk_7 (by decide +kernel)
theorem dX4_goesLeft_29 : decode cX4_goesLeft 29 = .ok (.if_icmp .ne 7, 3) := dqT kk_160 (by decide +kernel)
set_option maxRecDepth 4000 in
theorem s_X4_goesLeft {l : Launch} {D : va_G} {B : Nat} {cy : Nat → ClassId} {M : Mem} {a : Nat} {P : Nat → Int} (hk : kd a = (4, 0, 0)) (hU : isU M a P) (hP : okP P)  : Ci l D B cy yX4_goesLeft cX4_goesLeft 2 (some .boolean) 0 0 [.ref (B + a)] M (fun r M1 => ((P 4 = 1 ∧ (P 0 = 1 ∨ P 0 = 2 ∨ P 0 = 4)) ∧ r = zI 1 ∨ ¬ (P 4 = 1 ∧ (P 0 = 1 ∨ P 0 = 2 ∨ P 0 = 4)) ∧ r = zI 0) ∧ M1 = M) := by
  refine s_any (by decide) (Nat.le_of_ble_eq_true rfl) ?_
  intro p e s m below meth c ls F hr hlocks w hl
  have F : CallFix p m c cX4_goesLeft 2 s _ TB RX4 := F
  have hx := F.1
  have hb := F.2.1
  have hl : lv_has ls 2 [(0, .ref (B + a))] := hl
  have hP0 := hP 0 (by decide)
  have hP1 := hP 1 (by decide)
  have hP2 := hP 2 (by decide)
  have hP3 := hP 3 (by decide)
  have hP4 := hP 4 (by decide)
  have hP5 := hP 5 (by decide)
  have hP6 := hP 6 (by decide)
  have hP7 := hP 7 (by decide)
  refine lv_aload_n hx hb dX4_goesLeft_0 rfl (lv_at hl 0 rfl) ?_
  refine f_4_0 F w (a := a) hk tb_49 dX4_goesLeft_1 ?_
  refine lv_iconst (v := zI 0) hx hb dX4_goesLeft_4 rfl ?_
  refine g_iald F w (a := (a + 1)) (kd_r1 hk) (j := 0) ⟨by decide, by decide⟩ (by omega) dX4_goesLeft_5 ?_
  refine r_val (v := (zI (P 0))) (hU 0 (by decide)) ?_
  refine lv_istore_n (lv' := [(1, .int (zI (P 0))), (0, .ref (B + a))]) hx hb dX4_goesLeft_6 rfl hl (by decide) rfl (fun ls hl => ?_)
  refine lv_aload_n hx hb dX4_goesLeft_7 rfl (lv_at hl 1 rfl) ?_
  refine f_4_0 F w (a := a) hk tb_49 dX4_goesLeft_8 ?_
  refine lv_iconst (v := zI 4) hx hb dX4_goesLeft_11 rfl ?_
  refine g_iald F w (a := (a + 1)) (kd_r1 hk) (j := 4) ⟨by decide, by decide⟩ (by omega) dX4_goesLeft_12 ?_
  refine r_val (v := (zI (P 4))) (hU 4 (by decide)) ?_
  refine lv_iconst (v := zI 1) hx hb dX4_goesLeft_13 rfl ?_
  refine z_icmp_ne (tgt := 36) hx hb (by omega) (by omega) dX4_goesLeft_14 (by decide) (fun c1 => ?_) (fun c1 => ?_)
  · refine lv_iconst (v := zI 0) hx hb dX4_goesLeft_36 rfl ?_
    exact e_z F w hr hlocks (by decide) ⟨Or.inr ⟨by omega, rfl⟩, rfl⟩ dX4_goesLeft_37
  · refine lv_iload_n hx hb dX4_goesLeft_17 rfl (lv_at hl 0 rfl) ?_
    refine lv_iconst (v := zI 1) hx hb dX4_goesLeft_18 rfl ?_
    refine z_icmp_eq (tgt := 32) hx hb (by omega) (by omega) dX4_goesLeft_19 (by decide) (fun c2 => ?_) (fun c2 => ?_)
    · refine lv_iconst (v := zI 1) hx hb dX4_goesLeft_32 rfl ?_
      refine lv_goto (tgt := 37) hx hb dX4_goesLeft_33 (by decide) ?_
      exact e_z F w hr hlocks (by decide) ⟨Or.inl ⟨by omega, rfl⟩, rfl⟩ dX4_goesLeft_37
    · refine lv_iload_n hx hb dX4_goesLeft_22 rfl (lv_at hl 0 rfl) ?_
      refine lv_iconst (v := zI 2) hx hb dX4_goesLeft_23 rfl ?_
      refine z_icmp_eq (tgt := 32) hx hb (by omega) (by omega) dX4_goesLeft_24 (by decide) (fun c3 => ?_) (fun c3 => ?_)
      · refine lv_iconst (v := zI 1) hx hb dX4_goesLeft_32 rfl ?_
        refine lv_goto (tgt := 37) hx hb dX4_goesLeft_33 (by decide) ?_
        exact e_z F w hr hlocks (by decide) ⟨Or.inl ⟨by omega, rfl⟩, rfl⟩ dX4_goesLeft_37
      · refine lv_iload_n hx hb dX4_goesLeft_27 rfl (lv_at hl 0 rfl) ?_
        refine lv_iconst (v := zI 4) hx hb dX4_goesLeft_28 rfl ?_
        refine z_icmp_ne (tgt := 36) hx hb (by omega) (by omega) dX4_goesLeft_29 (by decide) (fun c4 => ?_) (fun c4 => ?_)
        · refine lv_iconst (v := zI 0) hx hb dX4_goesLeft_36 rfl ?_
          exact e_z F w hr hlocks (by decide) ⟨Or.inr ⟨by omega, rfl⟩, rfl⟩ dX4_goesLeft_37
        · refine lv_iconst (v := zI 1) hx hb dX4_goesLeft_32 rfl ?_
          refine lv_goto (tgt := 37) hx hb dX4_goesLeft_33 (by decide) ?_
          exact e_z F w hr hlocks (by decide) ⟨Or.inl ⟨by omega, rfl⟩, rfl⟩ dX4_goesLeft_37
theorem dX4_isTestKind_0 : decode cX4_isTestKind 0 = .ok (.iload_n 1, 1) := dq0 kk_27 (by decide +kernel)
theorem dX4_isTestKind_1 : decode cX4_isTestKind 1 = .ok (.iconst (-1), 1) := dq0 kk_2 (by decide +kernel)
theorem dX4_isTestKind_2 : decode cX4_isTestKind 2 = .ok (.if_icmp .eq 29, 3) := dqT kk_159 (by decide +kernel)
theorem dX4_isTestKind_31 : decode cX4_isTestKind 31 = .ok (.iconst 0, 1) := dq0 kk_3 (by decide +kernel)
theorem dX4_isTestKind_32 : decode cX4_isTestKind 32 = .ok (.ireturn, 1) := dq0 kk_172 (by decide +kernel)
theorem dX4_isTestKind_5 : decode cX4_isTestKind 5 = .ok (.aload_n 0, 1) := dq0 kk_42 (by decide +kernel)
theorem dX4_isTestKind_6 : decode cX4_isTestKind 6 = .ok (.getfield 9, 3) := dqV kk_180 (by decide +kernel)
theorem dX4_isTestKind_9 : decode cX4_isTestKind 9 = .ok (.bipush 7, 2) := dqS kk_16 (by decide +kernel)
theorem dX4_isTestKind_11 : decode cX4_isTestKind 11 = .ok (.iaload, 1) := dq0 kk_46 (by decide +kernel)
theorem dX4_isTestKind_12 : decode cX4_isTestKind 12 = .ok (.iconst 3, 1) := dq0 kk_6 (by decide +kernel)
theorem dX4_isTestKind_13 : decode cX4_isTestKind 13 = .ok (.if_icmp .eq 14, 3) := dqT kk_159 (by decide +kernel)
theorem dX4_isTestKind_27 : decode cX4_isTestKind 27 = .ok (.iconst 1, 1) := dq0 kk_4 (by decide +kernel)
theorem dX4_isTestKind_28 : decode cX4_isTestKind 28 = .ok (.goto 4, 3) := dqT kk_167 (by decide +kernel)
theorem dX4_isTestKind_16 : decode cX4_isTestKind 16 = .ok (.aload_n 0, 1) := dq0 kk_42 (by decide +kernel)
theorem dX4_isTestKind_17 : decode cX4_isTestKind 17 = .ok (.getfield 9, 3) := dqV kk_180 (by decide +kernel)
theorem dX4_isTestKind_20 : decode cX4_isTestKind 20 = .ok (.bipush 7, 2) := dqS kk_16 (by decide +kernel)
theorem dX4_isTestKind_22 : decode cX4_isTestKind 22 = .ok (.iaload, 1) := dq0 kk_46 (by decide +kernel)
theorem dX4_isTestKind_23 : decode cX4_isTestKind 23 = .ok (.iload_n 1, 1) := dq0 kk_27 (by decide +kernel)
theorem dX4_isTestKind_24 : decode cX4_isTestKind 24 = .ok (.if_icmp .ne 7, 3) := dqT kk_160 (by decide +kernel)
set_option maxRecDepth 4000 in
theorem s_X4_isTestKind {l : Launch} {D : va_G} {B : Nat} {cy : Nat → ClassId} {M : Mem} {a : Nat} {P : Nat → Int} (hk : kd a = (4, 0, 0)) (hU : isU M a P) (hP : okP P) {z : Int} (hz : rg z) : Ci l D B cy yX4_isTestKind cX4_isTestKind 2 (some .boolean) 0 0 [.ref (B + a), .int (zI z)] M (fun r M1 => ((z ≠ -1 ∧ (P 7 = 3 ∨ P 7 = z)) ∧ r = zI 1 ∨ ¬ (z ≠ -1 ∧ (P 7 = 3 ∨ P 7 = z)) ∧ r = zI 0) ∧ M1 = M) := by
  refine s_any (by decide) (Nat.le_of_ble_eq_true rfl) ?_
  intro p e s m below meth c ls F hr hlocks w hl
  have F : CallFix p m c cX4_isTestKind 2 s _ TB RX4 := F
  have hx := F.1
  have hb := F.2.1
  have hl : lv_has ls 2 [(0, .ref (B + a)), (1, .int (zI z))] := hl
  have hP0 := hP 0 (by decide)
  have hP1 := hP 1 (by decide)
  have hP2 := hP 2 (by decide)
  have hP3 := hP 3 (by decide)
  have hP4 := hP 4 (by decide)
  have hP5 := hP 5 (by decide)
  have hP6 := hP 6 (by decide)
  have hP7 := hP 7 (by decide)
  refine lv_iload_n hx hb dX4_isTestKind_0 rfl (lv_at hl 1 rfl) ?_
  refine lv_iconst (v := zI (-1)) hx hb dX4_isTestKind_1 rfl ?_
  refine z_icmp_eq (tgt := 31) hx hb (by omega) (by omega) dX4_isTestKind_2 (by decide) (fun c1 => ?_) (fun c1 => ?_)
  · refine lv_iconst (v := zI 0) hx hb dX4_isTestKind_31 rfl ?_
    exact e_z F w hr hlocks (by decide) ⟨Or.inr ⟨by omega, rfl⟩, rfl⟩ dX4_isTestKind_32
  · refine lv_aload_n hx hb dX4_isTestKind_5 rfl (lv_at hl 0 rfl) ?_
    refine f_4_0 F w (a := a) hk tb_49 dX4_isTestKind_6 ?_
    refine lv_bipush (v := zI 7) hx hb dX4_isTestKind_9 (by decide) ?_
    refine g_iald F w (a := (a + 1)) (kd_r1 hk) (j := 7) ⟨by decide, by decide⟩ (by omega) dX4_isTestKind_11 ?_
    refine r_val (v := (zI (P 7))) (hU 7 (by decide)) ?_
    refine lv_iconst (v := zI 3) hx hb dX4_isTestKind_12 rfl ?_
    refine z_icmp_eq (tgt := 27) hx hb (by omega) (by omega) dX4_isTestKind_13 (by decide) (fun c2 => ?_) (fun c2 => ?_)
    · refine lv_iconst (v := zI 1) hx hb dX4_isTestKind_27 rfl ?_
      refine lv_goto (tgt := 32) hx hb dX4_isTestKind_28 (by decide) ?_
      exact e_z F w hr hlocks (by decide) ⟨Or.inl ⟨by omega, rfl⟩, rfl⟩ dX4_isTestKind_32
    · refine lv_aload_n hx hb dX4_isTestKind_16 rfl (lv_at hl 0 rfl) ?_
      refine f_4_0 F w (a := a) hk tb_49 dX4_isTestKind_17 ?_
      refine lv_bipush (v := zI 7) hx hb dX4_isTestKind_20 (by decide) ?_
      refine g_iald F w (a := (a + 1)) (kd_r1 hk) (j := 7) ⟨by decide, by decide⟩ (by omega) dX4_isTestKind_22 ?_
      refine r_val (v := (zI (P 7))) (hU 7 (by decide)) ?_
      refine lv_iload_n hx hb dX4_isTestKind_23 rfl (lv_at hl 1 rfl) ?_
      refine z_icmp_ne (tgt := 31) hx hb (by omega) (by omega) dX4_isTestKind_24 (by decide) (fun c3 => ?_) (fun c3 => ?_)
      · refine lv_iconst (v := zI 0) hx hb dX4_isTestKind_31 rfl ?_
        exact e_z F w hr hlocks (by decide) ⟨Or.inr ⟨by omega, rfl⟩, rfl⟩ dX4_isTestKind_32
      · refine lv_iconst (v := zI 1) hx hb dX4_isTestKind_27 rfl ?_
        refine lv_goto (tgt := 32) hx hb dX4_isTestKind_28 (by decide) ?_
        exact e_z F w hr hlocks (by decide) ⟨Or.inl ⟨by omega, rfl⟩, rfl⟩ dX4_isTestKind_32
theorem dX9_mostSyllables_4 : decode cX9_mostSyllables 4 = .ok (.iload_n 2, 1) := dq0 kk_28 (by decide +kernel)
theorem dX9_mostSyllables_5 : decode cX9_mostSyllables 5 = .ok (.aload_n 0, 1) := dq0 kk_42 (by decide +kernel)
theorem dX9_mostSyllables_6 : decode cX9_mostSyllables 6 = .ok (.getfield 9, 3) := dqV kk_180 (by decide +kernel)
theorem dX9_mostSyllables_9 : decode cX9_mostSyllables 9 = .ok (.if_icmp .ge 23, 3) := dqT kk_162 (by decide +kernel)
theorem dX9_mostSyllables_12 : decode cX9_mostSyllables 12 = .ok (.iload_n 1, 1) := dq0 kk_27 (by decide +kernel)
theorem dX9_mostSyllables_13 : decode cX9_mostSyllables 13 = .ok (.aload_n 0, 1) := dq0 kk_42 (by decide +kernel)
theorem dX9_mostSyllables_14 : decode cX9_mostSyllables 14 = .ok (.getfield 28, 3) := dqV kk_180 (by decide +kernel)
theorem dX9_mostSyllables_17 : decode cX9_mostSyllables 17 = .ok (.iload_n 2, 1) := dq0 kk_28 (by decide +kernel)
theorem dX9_mostSyllables_18 : decode cX9_mostSyllables 18 = .ok (.iaload, 1) := dq0 kk_46 (by decide +kernel)
theorem dX9_mostSyllables_19 : decode cX9_mostSyllables 19 = .ok (.invokestatic 60, 3) := dqV kk_184 (by decide +kernel)
theorem dX9_mostSyllables_22 : decode cX9_mostSyllables 22 = .ok (.invokestatic 69, 3) := dqV kk_184 (by decide +kernel)
theorem tb_50 : Cond.methodLink "ToneLines$Word" 69 yJ9_max_7cf53 ∈ TB := tbm (tc4 (List.mem_of_getElem? (i := 144) rfl)) rfl
theorem tb_51 : Cond.static yJ9_max_7cf53 ∈ TB := tbm (tc2 (List.mem_of_getElem? (i := 154) rfl)) rfl
theorem tb_52 : Cond.initialized "java/lang/Math" ∈ TB := rtb_93
theorem tq_max : Cond.code Lib.Math.max.name Lib.Math.max.code 2 (some .int) ∈ TB := tbm (tc2 (List.mem_of_getElem? (i := 155) rfl)) rfl
theorem dX9_mostSyllables_25 : decode cX9_mostSyllables 25 = .ok (.istore_n 1, 1) := dq0 kk_60 (by decide +kernel)
theorem dX9_mostSyllables_26 : decode cX9_mostSyllables 26 = .ok (.iinc 2 1, 3) := dqI kk_132 (by decide +kernel)
theorem dX9_mostSyllables_29 : decode cX9_mostSyllables 29 = .ok (.goto (-25), 3) := dqT kk_167 (by decide +kernel)
set_option maxRecDepth 4000 in
theorem lp_X9_mostSyllables {p : Program} {l : Launch} {e : Env} {s : State} {m : MethodId} {args : Array Value} {below : List Frame} {meth : Method} {c : Code} {D : va_G} {B : Nat} {cy : Nat → ClassId} {H0 : Heap} {Q : State → Prop} {M : Mem} {R : Room} {a n q hv ed : Nat} {K L : Nat → Nat}  (F : CallFix p m c cX9_mostSyllables 3 s args TB RX9) (hR1 : 1 ≤ R.frames) (hR2 : 20 ≤ R.locals) (hk : kd a = (9, 0, 0)) (hW : isW M a n q hv ed K L) (hwf : wf n q hv ed K L) (kk : ∀ (t : Nat) (H : Heap) (locs : List Loc) (ls : Array Slot), (t = n) → Wd D B cy s H0 M H locs → lv_has ls 3 [(2, .int (zI (t : Int))), (1, .int (zI (((maxP (fun t => pop (L t)) t) : Nat) : Int))), (0, .ref (B + a))] → W p l e R s m args below meth c H locs 0 0 Q (F0 m 32 ls [])) : ∀ (f : Nat) (t : Nat), (t ≤ n) → (n ≤ t + f) → ∀ (H : Heap) (locs : List Loc) (ls : Array Slot), Wd D B cy s H0 M H locs → lv_has ls 3 [(2, .int (zI (t : Int))), (1, .int (zI (((maxP (fun t => pop (L t)) t) : Nat) : Int))), (0, .ref (B + a))] → W p l e R s m args below meth c H locs 0 0 Q (F0 m 4 ls []) := by
  have hx := F.1
  have hb := F.2.1
  have hwf0 := hwf
  obtain ⟨hn, hq, hhv, hed, hKL⟩ := hwf0
  intro f
  induction f with
  | zero =>
    intro t i0 hf H locs ls w hl
    have hmx : maxP (fun t => pop (L t)) t ≤ 12 := maxP_le (fun k hk9 => (pop_le (L k) (hKL k (by omega)).2).1)
    refine lv_iload_n hx hb dX9_mostSyllables_4 rfl (lv_at hl 0 rfl) ?_
    refine lv_aload_n hx hb dX9_mostSyllables_5 rfl (lv_at hl 2 rfl) ?_
    refine f_9_0 F w (a := a) hk tb_0 dX9_mostSyllables_6 ?_
    refine r_val (v := (zI (n : Int))) (hW.1) ?_
    refine z_icmp_ge (tgt := 32) hx hb (by omega) (by omega) dX9_mostSyllables_9 (by decide) (fun c1 => ?_) (fun c1 => False.elim (by omega))
    exact kk t _ _ ls (by omega) w (lv_sub hl [0, 1, 2] rfl)
  | succ f ih =>
    intro t i0 hf H locs ls w hl
    have hmx : maxP (fun t => pop (L t)) t ≤ 12 := maxP_le (fun k hk9 => (pop_le (L k) (hKL k (by omega)).2).1)
    refine lv_iload_n hx hb dX9_mostSyllables_4 rfl (lv_at hl 0 rfl) ?_
    refine lv_aload_n hx hb dX9_mostSyllables_5 rfl (lv_at hl 2 rfl) ?_
    refine f_9_0 F w (a := a) hk tb_0 dX9_mostSyllables_6 ?_
    refine r_val (v := (zI (n : Int))) (hW.1) ?_
    refine z_icmp_ge (tgt := 32) hx hb (by omega) (by omega) dX9_mostSyllables_9 (by decide) (fun c1 => ?_) (fun c1 => ?_)
    · exact kk t _ _ ls (by omega) w (lv_sub hl [0, 1, 2] rfl)
    · refine lv_iload_n hx hb dX9_mostSyllables_12 rfl (lv_at hl 1 rfl) ?_
      refine lv_aload_n hx hb dX9_mostSyllables_13 rfl (lv_at hl 2 rfl) ?_
      refine f_9_5 F w (a := a) hk tb_6 dX9_mostSyllables_14 ?_
      refine lv_iload_n hx hb dX9_mostSyllables_17 rfl (lv_at hl 0 rfl) ?_
      refine g_iald F w (a := (a + 2)) (kd_w2 hk) (j := t) (ix_n (by omega)) (by omega) dX9_mostSyllables_18 ?_
      have hL1 := (hKL t (by omega)).2
      refine r_val (v := (zI (((L t) : Nat) : Int))) (hW.2.2.2.2.2 t (by omega)) ?_
      refine x_Si F w (As := [.int (zI (((L t) : Nat) : Int))]) (rest := [.int (zI (((maxP (fun t => pop (L t)) t) : Nat) : Int))]) (s_bitCountN (m := (L t)) (by omega)) gs_X9_60 hs_J6_bitCount_0f7a4 ⟨(by omega), (by omega)⟩ hl.1 rfl (Nat.le_of_ble_eq_true rfl) ⟨Nat.zero_le _, Nat.zero_le _⟩ dX9_mostSyllables_19 (fun H locs w => ?_)
      have hp1 := (pop_le (L t) (by omega)).1
      refine g_max F hl.1 tb_50 tb_51 tb_52 tq_max (by omega) (by show 0 + 13 ≤ R.locals; omega) (Nat.zero_le _) (Nat.zero_le _) (v := (zI (((maxP (fun t => pop (L t)) (t + 1)) : Nat) : Int))) (maxP_z (fun t => pop (L t)) t (by omega) (by omega)) dX9_mostSyllables_22 ?_
      refine lv_istore_n (lv' := [(1, .int (zI (((maxP (fun t => pop (L t)) (t + 1)) : Nat) : Int))), (2, .int (zI (t : Int))), (0, .ref (B + a))]) hx hb dX9_mostSyllables_25 rfl hl (by decide) rfl (fun ls hl => ?_)
      refine z_iinc (v := (((t + 1) : Nat) : Int)) (lv' := [(2, .int (zI (((t + 1) : Nat) : Int))), (1, .int (zI (((maxP (fun t => pop (L t)) (t + 1)) : Nat) : Int))), (0, .ref (B + a))]) hx hb dX9_mostSyllables_26 hl (k := 1) rfl (by omega) (by decide) rfl (fun ls hl => ?_)
      refine lv_goto (tgt := 4) hx hb dX9_mostSyllables_29 (by decide) ?_
      exact ih (t + 1) (by omega) (by omega) _ _ ls w (lv_sub hl [0, 1, 2] rfl)
theorem dX9_mostSyllables_0 : decode cX9_mostSyllables 0 = .ok (.iconst 0, 1) := dq0 kk_3 (by decide +kernel)
theorem dX9_mostSyllables_1 : decode cX9_mostSyllables 1 = .ok (.istore_n 1, 1) := dq0 kk_60 (by decide +kernel)
theorem dX9_mostSyllables_2 : decode cX9_mostSyllables 2 = .ok (.iconst 0, 1) := dq0 kk_3 (by decide +kernel)
theorem dX9_mostSyllables_3 : decode cX9_mostSyllables 3 = .ok (.istore_n 2, 1) := dq0 kk_61 (by decide +kernel)
theorem dX9_mostSyllables_32 : decode cX9_mostSyllables 32 = .ok (.iload_n 1, 1) := dq0 kk_27 (by decide +kernel)
theorem dX9_mostSyllables_33 : decode cX9_mostSyllables 33 = .ok (.ireturn, 1) := dq0 kk_172 (by decide +kernel)
set_option maxRecDepth 4000 in
theorem s_X9_mostSyllables {l : Launch} {D : va_G} {B : Nat} {cy : Nat → ClassId} {M : Mem} {a n q hv ed : Nat} {K L : Nat → Nat} (hk : kd a = (9, 0, 0)) (hW : isW M a n q hv ed K L) (hwf : wf n q hv ed K L)  : Ci l D B cy yX9_mostSyllables cX9_mostSyllables 3 (some .int) 1 20 [.ref (B + a)] M (fun r M1 => r = zI (((maxP (fun t => pop (L t)) n) : Nat) : Int) ∧ M1 = M) := by
  refine s_any (by decide) (Nat.le_of_ble_eq_true rfl) ?_
  intro p e s m below meth c ls F hr hlocks w hl
  have F : CallFix p m c cX9_mostSyllables 3 s _ TB RX9 := F
  have hx := F.1
  have hb := F.2.1
  have hl : lv_has ls 3 [(0, .ref (B + a))] := hl
  have hwf0 := hwf
  obtain ⟨hn, hq, hhv, hed, hKL⟩ := hwf0
  refine lv_iconst (v := zI 0) hx hb dX9_mostSyllables_0 rfl ?_
  refine lv_istore_n (lv' := [(1, .int (zI 0)), (0, .ref (B + a))]) hx hb dX9_mostSyllables_1 rfl hl (by decide) rfl (fun ls hl => ?_)
  refine lv_iconst (v := zI 0) hx hb dX9_mostSyllables_2 rfl ?_
  refine lv_istore_n (lv' := [(2, .int (zI 0)), (1, .int (zI 0)), (0, .ref (B + a))]) hx hb dX9_mostSyllables_3 rfl hl (by decide) rfl (fun ls hl => ?_)
  refine lp_X9_mostSyllables  F (Nat.le_of_ble_eq_true rfl) (Nat.le_of_ble_eq_true rfl) hk hW hwf (fun t H locs ls x0 w hl => ?_) n 0 (by omega) (by omega) _ _ ls w (lv_sub hl [0, 1, 2] rfl)
  subst x0
  refine lv_iload_n hx hb dX9_mostSyllables_32 rfl (lv_at hl 1 rfl) ?_
  exact e_i F w hr hlocks ⟨rfl, rfl⟩ dX9_mostSyllables_33
