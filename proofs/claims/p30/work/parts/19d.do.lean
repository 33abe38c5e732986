theorem max_z0 {y : Int} (hy : rg y) (h : 0 ≤ y) : (if zI 0 < zI y then zI y else zI 0) = zI y := by
  by_cases h1 : 0 < y
  · exact if_pos ((zI_lt (by constructor <;> decide) hy).mpr h1)
  · rw [if_neg (fun q => h1 ((zI_lt (by constructor <;> decide) hy).mp q)), show y = 0 by omega]
/-- the end of the lines that a tone goes to -/
def ext (x m : Nat) : Nat := if x = 0 then hig m else low m
def lvF (t x : Nat) (o : Wo) : Wo × Nat := if andn (o.2.2 t) (2 ^ ext x (o.2.2 t)) = 0 then (o, 0) else ((o.1, o.2.1, updF o.2.2 t (andn (o.2.2 t) (2 ^ ext x (andn (o.2.2 t) (2 ^ ext x (o.2.2 t)))))), 1)
theorem lv_n {t x : Nat} {o : Wo} (h : andn (o.2.2 t) (2 ^ ext x (o.2.2 t)) = 0) : lvF t x o = (o, 0) := by unfold lvF; rw [if_pos h]
theorem lv_y {t x : Nat} {o : Wo} (h : andn (o.2.2 t) (2 ^ ext x (o.2.2 t)) ≠ 0) : lvF t x o = ((o.1, o.2.1, updF o.2.2 t (andn (o.2.2 t) (2 ^ ext x (andn (o.2.2 t) (2 ^ ext x (o.2.2 t)))))), 1) := by unfold lvF; rw [if_neg h]
theorem pop_low : ∀ m, m < 4096 → m ≠ 0 → pop (andn m (2 ^ low m)) + 1 = pop m := pop_low_f
theorem pop_hig : ∀ m, m < 4096 → m ≠ 0 → pop (andn m (2 ^ hig m)) + 1 = pop m := pop_hig_f
/-- the first or the last of a set: flat's end -/
def fex (x m : Nat) : Nat := if x = 1 then hig m else low m
theorem pop_fex {x m : Nat} (hm : m < 4096) (h0 : m ≠ 0) : pop (andn m (2 ^ fex x m)) + 1 = pop m := by
  unfold fex
  by_cases h : x = 1
  · rw [if_pos h]; exact pop_hig m hm h0
  · rw [if_neg h]; exact pop_low m hm h0
theorem fex_t {x m : Nat} (hm : m < 4096) (h0 : m ≠ 0) : m.testBit (fex x m) = true ∧ fex x m < 12 := by
  unfold fex
  by_cases h : x = 1
  · rw [if_pos h]; exact hig_t m hm h0
  · rw [if_neg h]; exact low_t m hm h0
/-- k lines of a syllable go, from one end -/
def flR (x s9 : Nat) : Nat → Nat → (Nat → Nat) → (Nat → Nat)
  | 0, _, L => L
  | k + 1, m, L => flR x s9 k (andn m (2 ^ fex x m)) (updF L (fex x m) (andn (L (fex x m)) (2 ^ s9)))
/-- a syllable is flattened to at most n9 lines -/
def flS (x n9 s9 : Nat) (o : Wo) : Wo × Nat := ((o.1, o.2.1, flR x s9 (pop (tmk o.2.2 s9 o.1) - n9) (tmk o.2.2 s9 o.1) o.2.2), pop (tmk o.2.2 s9 o.1) - n9)
/-- .. the first i ones -/
def flP (x n9 : Nat) : Nat → Wo → Wo × Nat
  | 0, o => (o, 0)
  | i + 1, o => ((flS x n9 i (flP x n9 i o).1).1, (flP x n9 i o).2 + (flS x n9 i (flP x n9 i o).1).2)
theorem wdX1_leave_0 : decode cX1_leave 0 = .ok (.aload_n 1, 1) := dq0 kk_43 (by decide +kernel)
theorem wdX1_leave_1 : decode cX1_leave 1 = .ok (.iload_n 2, 1) := dq0 kk_28 (by decide +kernel)
theorem wdX1_leave_2 : decode cX1_leave 2 = .ok (.invokevirtual 56, 3) := dqV kk_182 (by decide +kernel)
theorem wdX1_leave_5 : decode cX1_leave 5 = .ok (.istore 4, 2) := dqU kk_54 (by decide +kernel)
theorem wdX1_leave_7 : decode cX1_leave 7 = .ok (.iconst 1, 1) := dq0 kk_4 (by decide +kernel)
theorem wdX1_leave_8 : decode cX1_leave 8 = .ok (.iconst 0, 1) := dq0 kk_3 (by decide +kernel)
theorem wdX1_leave_9 : decode cX1_leave 9 = .ok (.iload_n 3, 1) := dq0 kk_29 (by decide +kernel)
theorem wdX1_leave_10 : decode cX1_leave 10 = .ok (.ifCond .eq 11, 3) := dqT kk_153 (by decide +kernel)
theorem wdX1_leave_21 : decode cX1_leave 21 = .ok (.iload 4, 2) := dqU kk_21 (by decide +kernel)
theorem wdX1_leave_23 : decode cX1_leave 23 = .ok (.invokestatic 72, 3) := dqV kk_184 (by decide +kernel)
theorem wdX1_leave_26 : decode cX1_leave 26 = .ok (.invokestatic 130, 3) := dqV kk_184 (by decide +kernel)
theorem wtb_37 : Cond.methodLink "ToneLines$Doer" 130 yJ9_max_7cf53 ∈ TB := tbm (tc4 (List.mem_of_getElem? (i := 89) rfl)) rfl
theorem wtb_38 : Cond.static yJ9_max_7cf53 ∈ TB := tb_51
theorem wtb_39 : Cond.initialized "java/lang/Math" ∈ TB := rtb_93
theorem wtq_max : Cond.code Lib.Math.max.name Lib.Math.max.code 2 (some .int) ∈ TB := tq_max
theorem wdX1_leave_29 : decode cX1_leave 29 = .ok (.ishl, 1) := dq0 kk_120 (by decide +kernel)
theorem wdX1_leave_30 : decode cX1_leave 30 = .ok (.istore 5, 2) := dqU kk_54 (by decide +kernel)
theorem wdX1_leave_32 : decode cX1_leave 32 = .ok (.iload 4, 2) := dqU kk_21 (by decide +kernel)
theorem wdX1_leave_34 : decode cX1_leave 34 = .ok (.iload 5, 2) := dqU kk_21 (by decide +kernel)
theorem wdX1_leave_36 : decode cX1_leave 36 = .ok (.iconst (-1), 1) := dq0 kk_2 (by decide +kernel)
theorem wdX1_leave_37 : decode cX1_leave 37 = .ok (.ixor, 1) := dq0 kk_130 (by decide +kernel)
theorem wdX1_leave_38 : decode cX1_leave 38 = .ok (.iand, 1) := dq0 kk_126 (by decide +kernel)
theorem wdX1_leave_39 : decode cX1_leave 39 = .ok (.istore 6, 2) := dqU kk_54 (by decide +kernel)
theorem wdX1_leave_41 : decode cX1_leave 41 = .ok (.iload 6, 2) := dqU kk_21 (by decide +kernel)
theorem wdX1_leave_43 : decode cX1_leave 43 = .ok (.ifCond .ne 5, 3) := dqT kk_154 (by decide +kernel)
theorem wdX1_leave_48 : decode cX1_leave 48 = .ok (.aload_n 1, 1) := dq0 kk_43 (by decide +kernel)
theorem wdX1_leave_49 : decode cX1_leave 49 = .ok (.getfield 50, 3) := dqV kk_180 (by decide +kernel)
theorem wdX1_leave_52 : decode cX1_leave 52 = .ok (.iload_n 2, 1) := dq0 kk_28 (by decide +kernel)
theorem wdX1_leave_53 : decode cX1_leave 53 = .ok (.dup2, 1) := dq0 kk_92 (by decide +kernel)
theorem wdX1_leave_54 : decode cX1_leave 54 = .ok (.iaload, 1) := dq0 kk_46 (by decide +kernel)
theorem wdX1_leave_55 : decode cX1_leave 55 = .ok (.iconst 1, 1) := dq0 kk_4 (by decide +kernel)
theorem wdX1_leave_56 : decode cX1_leave 56 = .ok (.iload_n 3, 1) := dq0 kk_29 (by decide +kernel)
theorem wdX1_leave_57 : decode cX1_leave 57 = .ok (.ifCond .eq 11, 3) := dqT kk_153 (by decide +kernel)
theorem wdX1_leave_68 : decode cX1_leave 68 = .ok (.iload 6, 2) := dqU kk_21 (by decide +kernel)
theorem wdX1_leave_70 : decode cX1_leave 70 = .ok (.invokestatic 72, 3) := dqV kk_184 (by decide +kernel)
theorem wdX1_leave_73 : decode cX1_leave 73 = .ok (.ishl, 1) := dq0 kk_120 (by decide +kernel)
theorem wdX1_leave_74 : decode cX1_leave 74 = .ok (.iconst (-1), 1) := dq0 kk_2 (by decide +kernel)
theorem wdX1_leave_75 : decode cX1_leave 75 = .ok (.ixor, 1) := dq0 kk_130 (by decide +kernel)
theorem wdX1_leave_76 : decode cX1_leave 76 = .ok (.iand, 1) := dq0 kk_126 (by decide +kernel)
theorem wdX1_leave_77 : decode cX1_leave 77 = .ok (.iastore, 1) := dq0 kk_79 (by decide +kernel)
theorem wdX1_leave_78 : decode cX1_leave 78 = .ok (.iconst 1, 1) := dq0 kk_4 (by decide +kernel)
theorem wdX1_leave_79 : decode cX1_leave 79 = .ok (.ireturn, 1) := dq0 kk_172 (by decide +kernel)
theorem wdX1_leave_46 : decode cX1_leave 46 = .ok (.iconst 0, 1) := dq0 kk_3 (by decide +kernel)
theorem wdX1_leave_47 : decode cX1_leave 47 = .ok (.ireturn, 1) := dq0 kk_172 (by decide +kernel)
set_option maxRecDepth 4000 in
theorem s_X1_leave_0 {l : Launch} {D : va_G} {B : Nat} {cy : Nat → ClassId} {M : Mem} {a q hv ed : Nat} {o : Wo} (hk : kd a = (9, 0, 0)) (hC : CW M a q hv ed o) {t x : Nat} (ht : t < o.1) (hxv : x = 0) (h0 : o.2.2 t ≠ 0) : Ci l D B cy yX1_leave cX1_leave 7 (some .int) 2 42 [.ref (B + 23), .ref (B + a), .int (zI (t : Int)), .int (zI (x : Int))] M (fun r M1 => ∃ o1 cc, lvF t x o = (o1, cc) ∧ r = zI ((cc : Nat) : Int) ∧ CW M1 a q hv ed o1 ∧ Fr3 M1 M a ∧ cc ≤ 1) := by
  refine s_any (by decide) (Nat.le_of_ble_eq_true rfl) ?_
  intro p e s m below meth c ls F hr hlocks w hl
  have F : CallFix p m c cX1_leave 7 s _ TB RX1 := F
  have hx := F.1
  have hb := F.2.1
  have hl : lv_has ls 7 [(0, .ref (B + 23)), (1, .ref (B + a)), (2, .int (zI (t : Int))), (3, .int (zI (x : Int)))] := hl
  have hW := hC.1
  have hwf := hC.wf
  have hKL := hwf.2.2.2.2
  have hn12 := hwf.1
  have hq12 := hwf.2.1
  refine lv_aload_n hx hb wdX1_leave_0 rfl (lv_at hl 1 rfl) ?_
  refine lv_iload_n hx hb wdX1_leave_1 rfl (lv_at hl 2 rfl) ?_
  refine k_Vi F w (As := [.int (zI (t : Int))]) (rest := []) (a := a) (kd_lt (a := a) hk (by decide)) (sh_9 hk _ _) rfl (s_X9_linesFrom hk hW hwf (by omega)) wgv_X1_56 whv_X9_linesFrom ⟨(Nat.le_of_ble_eq_true rfl), (Nat.le_of_ble_eq_true rfl)⟩ hl.1 rfl (Nat.le_of_ble_eq_true rfl) ⟨Nat.zero_le _, Nat.zero_le _⟩ wdX1_leave_2 (fun r Ma2 H locs hp w => ?_)
  rcases hp with ⟨⟨k1, ek1, hk1, rfl⟩ | ⟨nk1, rfl⟩, hMe⟩
  · obtain rfl : t = k1 := by omega
    rw [hMe] at w
    have gk1 := (hKL t (by omega)).2
    refine lv_istore (lv' := [(4, .int (zI (((o.2.2 t) : Nat) : Int))), (0, .ref (B + 23)), (1, .ref (B + a)), (2, .int (zI (t : Int))), (3, .int (zI (x : Int)))]) hx hb wdX1_leave_5 hl (by decide) rfl (fun ls hl => ?_)
    refine lv_iconst (v := zI 1) hx hb wdX1_leave_7 rfl ?_
    refine lv_iconst (v := zI 0) hx hb wdX1_leave_8 rfl ?_
    refine lv_iload_n hx hb wdX1_leave_9 rfl (lv_at hl 4 rfl) ?_
    refine z_if_eq (tgt := 21) hx hb (by omega) wdX1_leave_10 (by decide) (fun c3 => ?_) (fun c3 => False.elim (by omega))
    refine lv_iload hx hb wdX1_leave_21 (lv_at hl 0 rfl) ?_
    refine x_Ni F w (As := [.int (zI (((o.2.2 t) : Nat) : Int))]) (rest := [.int (zI 0), .int (zI 1)]) (s_X11_highest (m9 := (o.2.2 t)) (by omega)) wgc_X11_highest wtb_5 wtb_7 (by decide) whs_X11_highest ⟨(Nat.le_of_ble_eq_true rfl), (Nat.le_of_ble_eq_true rfl)⟩ hl.1 rfl (Nat.le_of_ble_eq_true rfl) ⟨Nat.zero_le _, Nat.zero_le _⟩ wdX1_leave_23 (fun H locs w => ?_)
    have hw3 := higI_rg (o.2.2 t) (by omega)
    refine r_val (v := zI ((hig (o.2.2 t) : Nat) : Int)) (congrArg zI (higI_nz h0)) ?_
    have he4 := (hig_t (o.2.2 t) (by omega) h0).2
    refine g_max F hl.1 wtb_37 wtb_38 wtb_39 wtq_max (Nat.le_of_ble_eq_true rfl) (Nat.le_of_ble_eq_true rfl) (Nat.zero_le _) (Nat.zero_le _) (v := (zI (((hig (o.2.2 t)) : Nat) : Int))) (max_z0 (by omega) (by omega)) wdX1_leave_26 ?_
    refine lv_ishl hx hb wdX1_leave_29 ?_
    refine r_val (v := (zI (((2 ^ (hig (o.2.2 t))) : Nat) : Int))) (zb_shl (n := (hig (o.2.2 t))) (by omega)) ?_
    have q5 := p2_b (n := (hig (o.2.2 t))) (by omega)
    refine lv_istore (lv' := [(5, .int (zI (((2 ^ (hig (o.2.2 t))) : Nat) : Int))), (4, .int (zI (((o.2.2 t) : Nat) : Int))), (0, .ref (B + 23)), (1, .ref (B + a)), (2, .int (zI (t : Int))), (3, .int (zI (x : Int)))]) hx hb wdX1_leave_30 hl (by decide) rfl (fun ls hl => ?_)
    refine lv_iload hx hb wdX1_leave_32 (lv_at hl 1 rfl) ?_
    refine lv_iload hx hb wdX1_leave_34 (lv_at hl 0 rfl) ?_
    refine lv_iconst (v := zI (-1)) hx hb wdX1_leave_36 rfl ?_
    refine lv_ixor hx hb wdX1_leave_37 ?_
    refine lv_iand hx hb wdX1_leave_38 ?_
    refine r_val (v := (zI (((andn (o.2.2 t) (2 ^ (hig (o.2.2 t)))) : Nat) : Int))) (zb_andn _ _) ?_
    have q7 := andn_le (o.2.2 t) (2 ^ (hig (o.2.2 t)))
    refine lv_istore (lv' := [(6, .int (zI (((andn (o.2.2 t) (2 ^ (hig (o.2.2 t)))) : Nat) : Int))), (5, .int (zI (((2 ^ (hig (o.2.2 t))) : Nat) : Int))), (4, .int (zI (((o.2.2 t) : Nat) : Int))), (0, .ref (B + 23)), (1, .ref (B + a)), (2, .int (zI (t : Int))), (3, .int (zI (x : Int)))]) hx hb wdX1_leave_39 hl (by decide) rfl (fun ls hl => ?_)
    refine lv_iload hx hb wdX1_leave_41 (lv_at hl 0 rfl) ?_
    refine z_if_ne (tgt := 48) hx hb (by omega) wdX1_leave_43 (by decide) (fun c8 => ?_) (fun c8 => ?_)
    · refine lv_aload_n hx hb wdX1_leave_48 rfl (lv_at hl 4 rfl) ?_
      refine f_9_5 F w (a := a) hk wtb_27 wdX1_leave_49 ?_
      refine lv_iload_n hx hb wdX1_leave_52 rfl (lv_at hl 5 rfl) ?_
      refine lv_dup2_11 hx hb wdX1_leave_53 rfl rfl ?_
      refine g_iald F w (a := (a + 2)) (kd_w2 hk) (j := t) (ix_n (by omega)) (by omega) wdX1_leave_54 ?_
      have hL8 := (hKL t (by omega)).2
      refine r_val (v := (zI (((o.2.2 t) : Nat) : Int))) (hW.2.2.2.2.2 t (by omega)) ?_
      refine lv_iconst (v := zI 1) hx hb wdX1_leave_55 rfl ?_
      refine lv_iload_n hx hb wdX1_leave_56 rfl (lv_at hl 6 rfl) ?_
      refine z_if_eq (tgt := 68) hx hb (by omega) wdX1_leave_57 (by decide) (fun c9 => ?_) (fun c9 => False.elim (by omega))
      refine lv_iload hx hb wdX1_leave_68 (lv_at hl 0 rfl) ?_
      refine x_Ni F w (As := [.int (zI (((andn (o.2.2 t) (2 ^ (hig (o.2.2 t)))) : Nat) : Int))]) (rest := [.int (zI 1), .int (zI (((o.2.2 t) : Nat) : Int)), .int (zI (t : Int)), .ref (B + (a + 2))]) (s_X11_highest (m9 := (andn (o.2.2 t) (2 ^ (hig (o.2.2 t))))) (by omega)) wgc_X11_highest wtb_5 wtb_7 (by decide) whs_X11_highest ⟨(Nat.le_of_ble_eq_true rfl), (Nat.le_of_ble_eq_true rfl)⟩ hl.1 rfl (Nat.le_of_ble_eq_true rfl) ⟨Nat.zero_le _, Nat.zero_le _⟩ wdX1_leave_70 (fun H locs w => ?_)
      have hw9 := higI_rg (andn (o.2.2 t) (2 ^ (hig (o.2.2 t)))) (by omega)
      have hr0 : (andn (o.2.2 t) (2 ^ hig (o.2.2 t))) ≠ 0 := by omega
      refine r_val (v := zI ((hig (andn (o.2.2 t) (2 ^ hig (o.2.2 t))) : Nat) : Int)) (congrArg zI (higI_nz hr0)) ?_
      have he10 := (hig_t (andn (o.2.2 t) (2 ^ hig (o.2.2 t))) (by omega) hr0).2
      refine lv_ishl hx hb wdX1_leave_73 ?_
      refine r_val (v := (zI (((2 ^ (hig (andn (o.2.2 t) (2 ^ hig (o.2.2 t))))) : Nat) : Int))) (zb_shl (n := (hig (andn (o.2.2 t) (2 ^ hig (o.2.2 t))))) (by omega)) ?_
      have q11 := p2_b (n := (hig (andn (o.2.2 t) (2 ^ hig (o.2.2 t))))) (by omega)
      refine lv_iconst (v := zI (-1)) hx hb wdX1_leave_74 rfl ?_
      refine lv_ixor hx hb wdX1_leave_75 ?_
      refine lv_iand hx hb wdX1_leave_76 ?_
      refine r_val (v := (zI (((andn (o.2.2 t) (2 ^ (hig (andn (o.2.2 t) (2 ^ hig (o.2.2 t)))))) : Nat) : Int))) (zb_andn _ _) ?_
      have q13 := andn_le (o.2.2 t) (2 ^ (hig (andn (o.2.2 t) (2 ^ hig (o.2.2 t)))))
      refine g_iast F w (a := (a + 2)) (kd_w2 hk) (j := t) (ix_n (by omega)) (by omega) wdX1_leave_77 (fun H locs w => ?_)
      refine lv_iconst (v := zI 1) hx hb wdX1_leave_78 rfl ?_
      exact e_i F w hr hlocks ⟨_, _, by subst hxv; exact lv_y (show andn (o.2.2 t) (2 ^ ext 0 (o.2.2 t)) ≠ 0 from by show (andn (o.2.2 t) (2 ^ hig (o.2.2 t))) ≠ 0; omega), rfl, ⟨wlineW hW, okW_line hC.2.1 (andn_lt (hC.2.1.2.2 t ht).2), hC.2.2⟩, wlineF Fr3.rf, Nat.le_refl _⟩ wdX1_leave_79
    · refine lv_iconst (v := zI 0) hx hb wdX1_leave_46 rfl ?_
      exact e_i F w hr hlocks ⟨o, 0, by subst hxv; exact lv_n (show andn (o.2.2 t) (2 ^ ext 0 (o.2.2 t)) = 0 from by show (andn (o.2.2 t) (2 ^ hig (o.2.2 t))) = 0; omega), rfl, hC, Fr3.rf, by omega⟩ wdX1_leave_47
  · exact False.elim (by omega)
theorem wdX1_leave_13 : decode cX1_leave 13 = .ok (.iload 4, 2) := dqU kk_21 (by decide +kernel)
theorem wdX1_leave_15 : decode cX1_leave 15 = .ok (.invokestatic 75, 3) := dqV kk_184 (by decide +kernel)
theorem wdX1_leave_18 : decode cX1_leave 18 = .ok (.goto 8, 3) := dqT kk_167 (by decide +kernel)
theorem wdX1_leave_60 : decode cX1_leave 60 = .ok (.iload 6, 2) := dqU kk_21 (by decide +kernel)
theorem wdX1_leave_62 : decode cX1_leave 62 = .ok (.invokestatic 75, 3) := dqV kk_184 (by decide +kernel)
theorem wdX1_leave_65 : decode cX1_leave 65 = .ok (.goto 8, 3) := dqT kk_167 (by decide +kernel)
set_option maxRecDepth 4000 in
theorem s_X1_leave_1 {l : Launch} {D : va_G} {B : Nat} {cy : Nat → ClassId} {M : Mem} {a q hv ed : Nat} {o : Wo} (hk : kd a = (9, 0, 0)) (hC : CW M a q hv ed o) {t x : Nat} (ht : t < o.1) (hxv : x = 1) (h0 : o.2.2 t ≠ 0) : Ci l D B cy yX1_leave cX1_leave 7 (some .int) 2 42 [.ref (B + 23), .ref (B + a), .int (zI (t : Int)), .int (zI (x : Int))] M (fun r M1 => ∃ o1 cc, lvF t x o = (o1, cc) ∧ r = zI ((cc : Nat) : Int) ∧ CW M1 a q hv ed o1 ∧ Fr3 M1 M a ∧ cc ≤ 1) := by
  refine s_any (by decide) (Nat.le_of_ble_eq_true rfl) ?_
  intro p e s m below meth c ls F hr hlocks w hl
  have F : CallFix p m c cX1_leave 7 s _ TB RX1 := F
  have hx := F.1
  have hb := F.2.1
  have hl : lv_has ls 7 [(0, .ref (B + 23)), (1, .ref (B + a)), (2, .int (zI (t : Int))), (3, .int (zI (x : Int)))] := hl
  have hW := hC.1
  have hwf := hC.wf
  have hKL := hwf.2.2.2.2
  have hn12 := hwf.1
  have hq12 := hwf.2.1
  refine lv_aload_n hx hb wdX1_leave_0 rfl (lv_at hl 1 rfl) ?_
  refine lv_iload_n hx hb wdX1_leave_1 rfl (lv_at hl 2 rfl) ?_
  refine k_Vi F w (As := [.int (zI (t : Int))]) (rest := []) (a := a) (kd_lt (a := a) hk (by decide)) (sh_9 hk _ _) rfl (s_X9_linesFrom hk hW hwf (by omega)) wgv_X1_56 whv_X9_linesFrom ⟨(Nat.le_of_ble_eq_true rfl), (Nat.le_of_ble_eq_true rfl)⟩ hl.1 rfl (Nat.le_of_ble_eq_true rfl) ⟨Nat.zero_le _, Nat.zero_le _⟩ wdX1_leave_2 (fun r Ma2 H locs hp w => ?_)
  rcases hp with ⟨⟨k1, ek1, hk1, rfl⟩ | ⟨nk1, rfl⟩, hMe⟩
  · obtain rfl : t = k1 := by omega
    rw [hMe] at w
    have gk1 := (hKL t (by omega)).2
    refine lv_istore (lv' := [(4, .int (zI (((o.2.2 t) : Nat) : Int))), (0, .ref (B + 23)), (1, .ref (B + a)), (2, .int (zI (t : Int))), (3, .int (zI (x : Int)))]) hx hb wdX1_leave_5 hl (by decide) rfl (fun ls hl => ?_)
    refine lv_iconst (v := zI 1) hx hb wdX1_leave_7 rfl ?_
    refine lv_iconst (v := zI 0) hx hb wdX1_leave_8 rfl ?_
    refine lv_iload_n hx hb wdX1_leave_9 rfl (lv_at hl 4 rfl) ?_
    refine z_if_eq (tgt := 21) hx hb (by omega) wdX1_leave_10 (by decide) (fun c3 => False.elim (by omega)) (fun c3 => ?_)
    refine lv_iload hx hb wdX1_leave_13 (lv_at hl 0 rfl) ?_
    refine x_Ni F w (As := [.int (zI (((o.2.2 t) : Nat) : Int))]) (rest := [.int (zI 0), .int (zI 1)]) (s_X11_lowest (m9 := (o.2.2 t)) (by omega)) wgc_X11_lowest wtb_5 wtb_6 (by decide) whs_X11_lowest ⟨(Nat.le_of_ble_eq_true rfl), (Nat.le_of_ble_eq_true rfl)⟩ hl.1 rfl (Nat.le_of_ble_eq_true rfl) ⟨Nat.zero_le _, Nat.zero_le _⟩ wdX1_leave_15 (fun H locs w => ?_)
    have hw3 := lowI_rg (o.2.2 t) (by omega)
    refine r_val (v := zI ((low (o.2.2 t) : Nat) : Int)) (congrArg zI (lowI_nz h0)) ?_
    have he4 := (low_t (o.2.2 t) (by omega) h0).2
    refine lv_goto (tgt := 26) hx hb wdX1_leave_18 (by decide) ?_
    refine g_max F hl.1 wtb_37 wtb_38 wtb_39 wtq_max (Nat.le_of_ble_eq_true rfl) (Nat.le_of_ble_eq_true rfl) (Nat.zero_le _) (Nat.zero_le _) (v := (zI (((low (o.2.2 t)) : Nat) : Int))) (max_z0 (by omega) (by omega)) wdX1_leave_26 ?_
    refine lv_ishl hx hb wdX1_leave_29 ?_
    refine r_val (v := (zI (((2 ^ (low (o.2.2 t))) : Nat) : Int))) (zb_shl (n := (low (o.2.2 t))) (by omega)) ?_
    have q5 := p2_b (n := (low (o.2.2 t))) (by omega)
    refine lv_istore (lv' := [(5, .int (zI (((2 ^ (low (o.2.2 t))) : Nat) : Int))), (4, .int (zI (((o.2.2 t) : Nat) : Int))), (0, .ref (B + 23)), (1, .ref (B + a)), (2, .int (zI (t : Int))), (3, .int (zI (x : Int)))]) hx hb wdX1_leave_30 hl (by decide) rfl (fun ls hl => ?_)
    refine lv_iload hx hb wdX1_leave_32 (lv_at hl 1 rfl) ?_
    refine lv_iload hx hb wdX1_leave_34 (lv_at hl 0 rfl) ?_
    refine lv_iconst (v := zI (-1)) hx hb wdX1_leave_36 rfl ?_
    refine lv_ixor hx hb wdX1_leave_37 ?_
    refine lv_iand hx hb wdX1_leave_38 ?_
    refine r_val (v := (zI (((andn (o.2.2 t) (2 ^ (low (o.2.2 t)))) : Nat) : Int))) (zb_andn _ _) ?_
    have q7 := andn_le (o.2.2 t) (2 ^ (low (o.2.2 t)))
    refine lv_istore (lv' := [(6, .int (zI (((andn (o.2.2 t) (2 ^ (low (o.2.2 t)))) : Nat) : Int))), (5, .int (zI (((2 ^ (low (o.2.2 t))) : Nat) : Int))), (4, .int (zI (((o.2.2 t) : Nat) : Int))), (0, .ref (B + 23)), (1, .ref (B + a)), (2, .int (zI (t : Int))), (3, .int (zI (x : Int)))]) hx hb wdX1_leave_39 hl (by decide) rfl (fun ls hl => ?_)
    refine lv_iload hx hb wdX1_leave_41 (lv_at hl 0 rfl) ?_
    refine z_if_ne (tgt := 48) hx hb (by omega) wdX1_leave_43 (by decide) (fun c8 => ?_) (fun c8 => ?_)
    · refine lv_aload_n hx hb wdX1_leave_48 rfl (lv_at hl 4 rfl) ?_
      refine f_9_5 F w (a := a) hk wtb_27 wdX1_leave_49 ?_
      refine lv_iload_n hx hb wdX1_leave_52 rfl (lv_at hl 5 rfl) ?_
      refine lv_dup2_11 hx hb wdX1_leave_53 rfl rfl ?_
      refine g_iald F w (a := (a + 2)) (kd_w2 hk) (j := t) (ix_n (by omega)) (by omega) wdX1_leave_54 ?_
      have hL8 := (hKL t (by omega)).2
      refine r_val (v := (zI (((o.2.2 t) : Nat) : Int))) (hW.2.2.2.2.2 t (by omega)) ?_
      refine lv_iconst (v := zI 1) hx hb wdX1_leave_55 rfl ?_
      refine lv_iload_n hx hb wdX1_leave_56 rfl (lv_at hl 6 rfl) ?_
      refine z_if_eq (tgt := 68) hx hb (by omega) wdX1_leave_57 (by decide) (fun c9 => False.elim (by omega)) (fun c9 => ?_)
      refine lv_iload hx hb wdX1_leave_60 (lv_at hl 0 rfl) ?_
      refine x_Ni F w (As := [.int (zI (((andn (o.2.2 t) (2 ^ (low (o.2.2 t)))) : Nat) : Int))]) (rest := [.int (zI 1), .int (zI (((o.2.2 t) : Nat) : Int)), .int (zI (t : Int)), .ref (B + (a + 2))]) (s_X11_lowest (m9 := (andn (o.2.2 t) (2 ^ (low (o.2.2 t))))) (by omega)) wgc_X11_lowest wtb_5 wtb_6 (by decide) whs_X11_lowest ⟨(Nat.le_of_ble_eq_true rfl), (Nat.le_of_ble_eq_true rfl)⟩ hl.1 rfl (Nat.le_of_ble_eq_true rfl) ⟨Nat.zero_le _, Nat.zero_le _⟩ wdX1_leave_62 (fun H locs w => ?_)
      have hw9 := lowI_rg (andn (o.2.2 t) (2 ^ (low (o.2.2 t)))) (by omega)
      have hr0 : (andn (o.2.2 t) (2 ^ low (o.2.2 t))) ≠ 0 := by omega
      refine r_val (v := zI ((low (andn (o.2.2 t) (2 ^ low (o.2.2 t))) : Nat) : Int)) (congrArg zI (lowI_nz hr0)) ?_
      have he10 := (low_t (andn (o.2.2 t) (2 ^ low (o.2.2 t))) (by omega) hr0).2
      refine lv_goto (tgt := 73) hx hb wdX1_leave_65 (by decide) ?_
      refine lv_ishl hx hb wdX1_leave_73 ?_
      refine r_val (v := (zI (((2 ^ (low (andn (o.2.2 t) (2 ^ low (o.2.2 t))))) : Nat) : Int))) (zb_shl (n := (low (andn (o.2.2 t) (2 ^ low (o.2.2 t))))) (by omega)) ?_
      have q11 := p2_b (n := (low (andn (o.2.2 t) (2 ^ low (o.2.2 t))))) (by omega)
      refine lv_iconst (v := zI (-1)) hx hb wdX1_leave_74 rfl ?_
      refine lv_ixor hx hb wdX1_leave_75 ?_
      refine lv_iand hx hb wdX1_leave_76 ?_
      refine r_val (v := (zI (((andn (o.2.2 t) (2 ^ (low (andn (o.2.2 t) (2 ^ low (o.2.2 t)))))) : Nat) : Int))) (zb_andn _ _) ?_
      have q13 := andn_le (o.2.2 t) (2 ^ (low (andn (o.2.2 t) (2 ^ low (o.2.2 t)))))
      refine g_iast F w (a := (a + 2)) (kd_w2 hk) (j := t) (ix_n (by omega)) (by omega) wdX1_leave_77 (fun H locs w => ?_)
      refine lv_iconst (v := zI 1) hx hb wdX1_leave_78 rfl ?_
      exact e_i F w hr hlocks ⟨_, _, by subst hxv; exact lv_y (show andn (o.2.2 t) (2 ^ ext 1 (o.2.2 t)) ≠ 0 from by show (andn (o.2.2 t) (2 ^ low (o.2.2 t))) ≠ 0; omega), rfl, ⟨wlineW hW, okW_line hC.2.1 (andn_lt (hC.2.1.2.2 t ht).2), hC.2.2⟩, wlineF Fr3.rf, Nat.le_refl _⟩ wdX1_leave_79
    · refine lv_iconst (v := zI 0) hx hb wdX1_leave_46 rfl ?_
      exact e_i F w hr hlocks ⟨o, 0, by subst hxv; exact lv_n (show andn (o.2.2 t) (2 ^ ext 1 (o.2.2 t)) = 0 from by show (andn (o.2.2 t) (2 ^ low (o.2.2 t))) = 0; omega), rfl, hC, Fr3.rf, by omega⟩ wdX1_leave_47
  · exact False.elim (by omega)
theorem wdX1_spread_0 : decode cX1_spread 0 = .ok (.iconst 0, 1) := dX1_spread_0
theorem wdX1_spread_1 : decode cX1_spread 1 = .ok (.istore 5, 2) := dX1_spread_1
theorem wdX1_spread_3 : decode cX1_spread 3 = .ok (.iconst 0, 1) := dX1_spread_3
theorem wdX1_spread_4 : decode cX1_spread 4 = .ok (.istore 6, 2) := dX1_spread_4
theorem wdX1_spread_6 : decode cX1_spread 6 = .ok (.iload 6, 2) := dX1_spread_6
theorem wdX1_spread_8 : decode cX1_spread 8 = .ok (.iload 4, 2) := dX1_spread_8
theorem wdX1_spread_10 : decode cX1_spread 10 = .ok (.if_icmp .ge 121, 3) := dX1_spread_10
theorem wdX1_spread_131 : decode cX1_spread 131 = .ok (.iload 5, 2) := dX1_spread_131
theorem wdX1_spread_133 : decode cX1_spread 133 = .ok (.ireturn, 1) := dX1_spread_133
theorem wdX1_spread_13 : decode cX1_spread 13 = .ok (.aload_n 1, 1) := dX1_spread_13
theorem wdX1_spread_14 : decode cX1_spread 14 = .ok (.iload_n 2, 1) := dX1_spread_14
theorem wdX1_spread_15 : decode cX1_spread 15 = .ok (.invokevirtual 56, 3) := dX1_spread_15
theorem wdX1_spread_18 : decode cX1_spread 18 = .ok (.ifCond .eq 113, 3) := dX1_spread_18
set_option maxRecDepth 4000 in
theorem s_X1_spread_f {l : Launch} {D : va_G} {B : Nat} {cy : Nat → ClassId} {M : Mem} {a q hv ed : Nat} {o : Wo} (hk : kd a = (9, 0, 0)) (hC : CW M a q hv ed o) {t x : Nat} {z9 : Int} (ht : t < o.1) (h0 : o.2.2 t = 0) (hz9 : rg z9) : Ci l D B cy yX1_spread cX1_spread 10 (some .int) 2 42 [.ref (B + 23), .ref (B + a), .int (zI (t : Int)), .int (zI (x : Int)), .int (zI z9)] M (fun r M1 => r = zI 0 ∧ M1 = M) := by
  refine s_any (by decide) (Nat.le_of_ble_eq_true rfl) ?_
  intro p e s m below meth c ls F hr hlocks w hl
  have F : CallFix p m c cX1_spread 10 s _ TB RX1 := F
  have hx := F.1
  have hb := F.2.1
  have hl : lv_has ls 10 [(0, .ref (B + 23)), (1, .ref (B + a)), (2, .int (zI (t : Int))), (3, .int (zI (x : Int))), (4, .int (zI z9))] := hl
  have hW := hC.1
  have hwf := hC.wf
  have hKL := hwf.2.2.2.2
  have hn12 := hwf.1
  have hq12 := hwf.2.1
  refine lv_iconst (v := zI 0) hx hb wdX1_spread_0 rfl ?_
  refine lv_istore (lv' := [(5, .int (zI 0)), (0, .ref (B + 23)), (1, .ref (B + a)), (2, .int (zI (t : Int))), (3, .int (zI (x : Int))), (4, .int (zI z9))]) hx hb wdX1_spread_1 hl (by decide) rfl (fun ls hl => ?_)
  refine lv_iconst (v := zI 0) hx hb wdX1_spread_3 rfl ?_
  refine lv_istore (lv' := [(6, .int (zI 0)), (5, .int (zI 0)), (0, .ref (B + 23)), (1, .ref (B + a)), (2, .int (zI (t : Int))), (3, .int (zI (x : Int))), (4, .int (zI z9))]) hx hb wdX1_spread_4 hl (by decide) rfl (fun ls hl => ?_)
  refine lv_iload hx hb wdX1_spread_6 (lv_at hl 0 rfl) ?_
  refine lv_iload hx hb wdX1_spread_8 (lv_at hl 6 rfl) ?_
  refine z_icmp_ge (tgt := 131) hx hb (by omega) (by omega) wdX1_spread_10 (by decide) (fun c1 => ?_) (fun c1 => ?_)
  · refine lv_iload hx hb wdX1_spread_131 (lv_at hl 1 rfl) ?_
    exact e_i F w hr hlocks ⟨rfl, rfl⟩ wdX1_spread_133
  · refine lv_aload_n hx hb wdX1_spread_13 rfl (lv_at hl 3 rfl) ?_
    refine lv_iload_n hx hb wdX1_spread_14 rfl (lv_at hl 4 rfl) ?_
    refine k_Vi F w (As := [.int (zI (t : Int))]) (rest := []) (a := a) (kd_lt (a := a) hk (by decide)) (sh_9 hk _ _) rfl (s_X9_linesFrom hk hW hwf (by omega)) wgv_X1_56 whv_X9_linesFrom ⟨(Nat.le_of_ble_eq_true rfl), (Nat.le_of_ble_eq_true rfl)⟩ hl.1 rfl (Nat.le_of_ble_eq_true rfl) ⟨Nat.zero_le _, Nat.zero_le _⟩ wdX1_spread_15 (fun r Ma3 H locs hp w => ?_)
    rcases hp with ⟨⟨k2, ek2, hk2, rfl⟩ | ⟨nk2, rfl⟩, hMe⟩
    · obtain rfl : t = k2 := by omega
      rw [hMe] at w
      have gk2 := (hKL t (by omega)).2
      refine z_if_eq (tgt := 131) hx hb (by omega) wdX1_spread_18 (by decide) (fun c4 => ?_) (fun c4 => False.elim (by omega))
      refine lv_iload hx hb wdX1_spread_131 (lv_at hl 1 rfl) ?_
      exact e_i F w hr hlocks ⟨rfl, rfl⟩ wdX1_spread_133
    · exact False.elim (by omega)
