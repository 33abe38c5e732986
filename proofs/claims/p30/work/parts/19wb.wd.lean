-- what the class's readers of a word say
def RTQ (T : Nat → Nat) (N : Nat) (R : Option (Nat × Wo)) (y : Sy) (M : Mem) (r : Int32) (M1 : Mem) : Prop := (∃ i2 o2, R = some (i2, o2) ∧ r = zI 1 ∧ DS M1 T N i2 y o2 ∧ FrD M1 M) ∨ (R = none ∧ r = zI 0 ∧ (∃ j : Nat, M1.1 3 1 = zI (j : Int) ∧ j ≤ N) ∧ FrD M1 M)
def RSQ (T : Nat → Nat) (N : Nat) (R : Option (Nat × Sy)) (o : Wo) (M : Mem) (r : Int32) (M1 : Mem) : Prop := (∃ i2 y2, R = some (i2, y2) ∧ r = zI 1 ∧ DS M1 T N i2 y2 o ∧ FrD M1 M) ∨ (R = none ∧ r = zI 0 ∧ (∃ j : Nat, M1.1 3 1 = zI (j : Int) ∧ j ≤ N) ∧ FrD M1 M)
def RLQ (T : Nat → Nat) (N : Nat) (R : Option Wo) (y : Sy) (M : Mem) (r : Int32) (M1 : Mem) : Prop := (∃ i2 o2, R = some o2 ∧ r = zI 1 ∧ DS M1 T N i2 y o2 ∧ FrD M1 M) ∨ (R = none ∧ r = zI 0 ∧ (∃ j : Nat, M1.1 3 1 = zI (j : Int) ∧ j ≤ N) ∧ FrD M1 M)
theorem DS.o {M : Mem} {T : Nat → Nat} {N i : Nat} {y : Sy} {o : Wo} (h : DS M T N i y o) : ∃ j : Nat, M.1 3 1 = zI (j : Int) ∧ j ≤ N := ⟨i, h.2.1, h.2.2.1⟩
theorem wo0_ok : okW 0 wo0 := ⟨by decide, by decide, fun k hk => absurd hk (Nat.not_lt_zero k)⟩
theorem CS.d {M M1 : Mem} {Ps : Nat → Nat → Int} {m rd k : Nat} {x : Fw} {Hs : Nat → Fw} (h : CS M Ps m x rd Hs k) (hF : FrD M1 M) : CS M1 Ps m x rd Hs k := h.fr (hF.1 22 (by decide) (by decide) (by decide) (by decide)) (fun b a1 a2 => hF.1 b (by omega) (by omega) (by omega) (by omega))
theorem CS.s1 {M : Mem} {Ps : Nat → Nat → Int} {m rd k : Nat} {x : Fw} {Hs : Nat → Fw} {j : Nat} {v : Int32} (h : CS M Ps m x rd Hs k) : CS (st M 1 j v) Ps m x rd Hs k := h.fr (st_ob (by decide)) (fun b a1 a2 => st_ob (by omega))
/-- another word is told: no acts, no stage ready -/
theorem CS.word {M M1 : Mem} {Ps : Nat → Nat → Int} {m rd k : Nat} {x y : Fw} {Hs : Nat → Fw} (h : CS M Ps m x rd Hs k) (hF : Fr3 M1 M 44) (hC : CF M1 44 y) : CS (st (st (st (st M1 71 2 (zI 0)) 22 7 (zI 0)) 109 0 (zI 0)) 135 0 (zI 0)) Ps m y 0 Hs 0 := by
  obtain ⟨h1, h2, nx, h3⟩ := h
  have e : ∀ b, b ≠ 71 → b ≠ 22 → b ≠ 109 → b ≠ 135 → (st (st (st (st M1 71 2 (zI 0)) 22 7 (zI 0)) 109 0 (zI 0)) 135 0 (zI 0)).1 b = M1.1 b := fun b a0 a1 a2 a3 => by rw [st_ob a3, st_ob a2, st_ob a1, st_ob a0]
  refine ⟨h1.fr ?_ (fun b a1 a2 => (e b (by omega) (by omega) (by omega) (by omega)).trans (hF.1 b (by omega) (by omega) (by omega))), ⟨?_, Nat.zero_le _, fun i hi => ?_, fun i hi => absurd hi (Nat.not_lt_zero i)⟩, nx, ⟨?_, h3.2.1, ?_, by decide, fun j hj => absurd hj (Nat.not_lt_zero j)⟩⟩
  · rw [st_ob (by decide), st_ob (by decide), st_ne (Or.inr (by decide)), st_ob (by decide), hF.1 22 (by decide) (by decide) (by decide)]
  · rw [st_ob (by decide), st_ob (by decide)]; exact st_at
  · obtain rfl : i = 0 := by omega
    exact hC.fr (e _ (by omega) (by omega) (by omega) (by omega)) (e _ (by omega) (by omega) (by omega) (by omega)) (e _ (by omega) (by omega) (by omega) (by omega))
  · rw [st_ob (by decide), st_ob (by decide), st_ob (by decide), st_ne (Or.inr (by decide)), hF.1 71 (by decide) (by decide) (by decide)]; exact h3.1
  · rw [st_ob (by decide), st_ob (by decide), st_ob (by decide)]; exact st_at
theorem udX10_readNumber_0 : decode cX10_readNumber 0 = .ok (.aload_n 0, 1) := dq0 kk_42 (by decide +kernel)
theorem udX10_readNumber_1 : decode cX10_readNumber 1 = .ok (.getfield 15, 3) := dqV kk_180 (by decide +kernel)
theorem utb_25 : Cond.fieldLink "ToneLines$WordReader" 15 "ToneLines$WordReader" "tape" "LToneLines$Tape;" ∈ TB := tbm (tc1 (List.mem_of_getElem? (i := 54) rfl)) rfl
theorem udX10_readNumber_4 : decode cX10_readNumber 4 = .ok (.aload_n 0, 1) := dq0 kk_42 (by decide +kernel)
theorem udX10_readNumber_5 : decode cX10_readNumber 5 = .ok (.getfield 9, 3) := dqV kk_180 (by decide +kernel)
theorem utb_26 : Cond.fieldLink "ToneLines$WordReader" 9 "ToneLines$WordReader" "at" "I" ∈ TB := tbm (tc1 (List.mem_of_getElem? (i := 55) rfl)) rfl
theorem udX10_readNumber_8 : decode cX10_readNumber 8 = .ok (.invokevirtual 43, 3) := dqV kk_182 (by decide +kernel)
theorem utk_X8_signAt : Cond.code yX8_signAt cX8_signAt 2 (some .int) ∈ TB := rtk_X8_signAt
theorem ugc_X8_signAt : GoodIn TB (cw yX8_signAt cX8_signAt 2 (some .int)) := goodIn_c2 utk_X8_signAt
theorem utb_27 : Cond.methodLink "ToneLines$WordReader" 43 yX8_signAt ∈ TB := tbm (tc2 (List.mem_of_getElem? (i := 120) rfl)) rfl
theorem utb_28 : Cond.instanceMethod yX8_signAt ∈ TB := rtb_25
theorem utb_29 : Cond.selects "ToneLines$Tape" yX8_signAt yX8_signAt ∈ TB := rtb_26
theorem utb_30 : Cond.initialized "ToneLines$Tape" ∈ TB := rtb_27
theorem ugv_X10_43 : GoodIn TB (wsV RX10 43 RX8 yX8_signAt (cw yX8_signAt cX8_signAt 2 (some .int))) := goodIn_4 utb_27 utb_28 utb_29 utb_30 ugc_X8_signAt
theorem uhv_X8_signAt : yX8_signAt.cls = RX8 ∧ yX8_signAt.cls ≠ "java/lang/invoke/MethodHandle" ∧ yX8_signAt.cls ≠ "java/lang/invoke/VarHandle" ∧ (parseMethodDescriptor yX8_signAt.desc).map (fun d => d.parameters.length) = some 1 := rhv_X8_signAt
theorem udX10_readNumber_11 : decode cX10_readNumber 11 = .ok (.invokestatic 82, 3) := dqV kk_184 (by decide +kernel)
theorem utk_X11_digitOf : Cond.code yX11_digitOf cX11_digitOf 1 (some .int) ∈ TB := rtk_X11_digitOf
theorem ugc_X11_digitOf : GoodIn TB (cw yX11_digitOf cX11_digitOf 1 (some .int)) := goodIn_c2 utk_X11_digitOf
theorem uhs_X11_digitOf : yX11_digitOf.cls ≠ "java/lang/invoke/MethodHandle" ∧ yX11_digitOf.cls ≠ "java/lang/invoke/VarHandle" ∧ (parseMethodDescriptor yX11_digitOf.desc).map (fun d => d.parameters.length) = some 1 := rhs_X11_digitOf
theorem utb_31 : Cond.initialized "ToneLines" ∈ TB := rtb_28
theorem utb_32 : Cond.static yX11_digitOf ∈ TB := rtb_51
theorem udX10_readNumber_14 : decode cX10_readNumber 14 = .ok (.istore_n 2, 1) := dq0 kk_61 (by decide +kernel)
theorem udX10_readNumber_15 : decode cX10_readNumber 15 = .ok (.iload_n 2, 1) := dq0 kk_28 (by decide +kernel)
theorem udX10_readNumber_16 : decode cX10_readNumber 16 = .ok (.iconst (-1), 1) := dq0 kk_2 (by decide +kernel)
theorem udX10_readNumber_17 : decode cX10_readNumber 17 = .ok (.if_icmp .ne 5, 3) := dqT kk_160 (by decide +kernel)
theorem udX10_readNumber_22 : decode cX10_readNumber 22 = .ok (.aload_n 0, 1) := dq0 kk_42 (by decide +kernel)
theorem udX10_readNumber_23 : decode cX10_readNumber 23 = .ok (.getfield 15, 3) := dqV kk_180 (by decide +kernel)
theorem udX10_readNumber_26 : decode cX10_readNumber 26 = .ok (.aload_n 0, 1) := dq0 kk_42 (by decide +kernel)
theorem udX10_readNumber_27 : decode cX10_readNumber 27 = .ok (.getfield 9, 3) := dqV kk_180 (by decide +kernel)
theorem udX10_readNumber_30 : decode cX10_readNumber 30 = .ok (.iconst 1, 1) := dq0 kk_4 (by decide +kernel)
theorem udX10_readNumber_31 : decode cX10_readNumber 31 = .ok (.iadd, 1) := dq0 kk_96 (by decide +kernel)
theorem udX10_readNumber_32 : decode cX10_readNumber 32 = .ok (.invokevirtual 43, 3) := dqV kk_182 (by decide +kernel)
theorem udX10_readNumber_35 : decode cX10_readNumber 35 = .ok (.invokestatic 82, 3) := dqV kk_184 (by decide +kernel)
theorem udX10_readNumber_38 : decode cX10_readNumber 38 = .ok (.istore_n 3, 1) := dq0 kk_62 (by decide +kernel)
theorem udX10_readNumber_39 : decode cX10_readNumber 39 = .ok (.iload_n 3, 1) := dq0 kk_29 (by decide +kernel)
theorem udX10_readNumber_40 : decode cX10_readNumber 40 = .ok (.iconst (-1), 1) := dq0 kk_2 (by decide +kernel)
theorem udX10_readNumber_41 : decode cX10_readNumber 41 = .ok (.if_icmp .ne 7, 3) := dqT kk_160 (by decide +kernel)
theorem udX10_readNumber_48 : decode cX10_readNumber 48 = .ok (.iload_n 2, 1) := dq0 kk_28 (by decide +kernel)
theorem udX10_readNumber_49 : decode cX10_readNumber 49 = .ok (.bipush 10, 2) := dqS kk_16 (by decide +kernel)
theorem udX10_readNumber_51 : decode cX10_readNumber 51 = .ok (.imul, 1) := dq0 kk_104 (by decide +kernel)
theorem udX10_readNumber_52 : decode cX10_readNumber 52 = .ok (.iload_n 3, 1) := dq0 kk_29 (by decide +kernel)
theorem udX10_readNumber_53 : decode cX10_readNumber 53 = .ok (.iadd, 1) := dq0 kk_96 (by decide +kernel)
theorem udX10_readNumber_54 : decode cX10_readNumber 54 = .ok (.istore 4, 2) := dqU kk_54 (by decide +kernel)
theorem udX10_readNumber_56 : decode cX10_readNumber 56 = .ok (.iload 4, 2) := dqU kk_21 (by decide +kernel)
theorem udX10_readNumber_58 : decode cX10_readNumber 58 = .ok (.iload_n 1, 1) := dq0 kk_27 (by decide +kernel)
theorem udX10_readNumber_59 : decode cX10_readNumber 59 = .ok (.if_icmp .lt 5, 3) := dqT kk_161 (by decide +kernel)
theorem udX10_readNumber_64 : decode cX10_readNumber 64 = .ok (.aload_n 0, 1) := dq0 kk_42 (by decide +kernel)
theorem udX10_readNumber_65 : decode cX10_readNumber 65 = .ok (.dup, 1) := dq0 kk_89 (by decide +kernel)
theorem udX10_readNumber_66 : decode cX10_readNumber 66 = .ok (.getfield 9, 3) := dqV kk_180 (by decide +kernel)
theorem udX10_readNumber_69 : decode cX10_readNumber 69 = .ok (.iload_n 3, 1) := dq0 kk_29 (by decide +kernel)
theorem udX10_readNumber_70 : decode cX10_readNumber 70 = .ok (.iconst (-1), 1) := dq0 kk_2 (by decide +kernel)
theorem udX10_readNumber_71 : decode cX10_readNumber 71 = .ok (.if_icmp .ne 7, 3) := dqT kk_160 (by decide +kernel)
theorem udX10_readNumber_78 : decode cX10_readNumber 78 = .ok (.iconst 2, 1) := dq0 kk_5 (by decide +kernel)
theorem udX10_readNumber_79 : decode cX10_readNumber 79 = .ok (.iadd, 1) := dq0 kk_96 (by decide +kernel)
theorem udX10_readNumber_80 : decode cX10_readNumber 80 = .ok (.putfield 9, 3) := dqV kk_181 (by decide +kernel)
theorem udX10_readNumber_83 : decode cX10_readNumber 83 = .ok (.iload 4, 2) := dqU kk_21 (by decide +kernel)
theorem udX10_readNumber_85 : decode cX10_readNumber 85 = .ok (.ireturn, 1) := dq0 kk_172 (by decide +kernel)
theorem udX10_readNumber_62 : decode cX10_readNumber 62 = .ok (.iconst (-1), 1) := dq0 kk_2 (by decide +kernel)
theorem udX10_readNumber_63 : decode cX10_readNumber 63 = .ok (.ireturn, 1) := dq0 kk_172 (by decide +kernel)
theorem udX10_readNumber_44 : decode cX10_readNumber 44 = .ok (.iload_n 2, 1) := dq0 kk_28 (by decide +kernel)
theorem udX10_readNumber_45 : decode cX10_readNumber 45 = .ok (.goto 9, 3) := dqT kk_167 (by decide +kernel)
theorem udX10_readNumber_74 : decode cX10_readNumber 74 = .ok (.iconst 1, 1) := dq0 kk_4 (by decide +kernel)
theorem udX10_readNumber_75 : decode cX10_readNumber 75 = .ok (.goto 4, 3) := dqT kk_167 (by decide +kernel)
theorem udX10_readNumber_20 : decode cX10_readNumber 20 = .ok (.iconst (-1), 1) := dq0 kk_2 (by decide +kernel)
theorem udX10_readNumber_21 : decode cX10_readNumber 21 = .ok (.ireturn, 1) := dq0 kk_172 (by decide +kernel)
set_option maxRecDepth 4000 in
theorem s_X10_readNumber {l : Launch} {D : va_G} {B : Nat} {cy : Nat → ClassId} {M : Mem} {T : Nat → Nat} {tn : Nat} (hT : okT T tn) {b : Nat} {y : Sy} {o : Wo} (hD : DS M T tn b y o) {bl : Nat} (hbl : bl ≤ 12) : Ci l D B cy yX10_readNumber cX10_readNumber 5 (some .int) 1 21 [.ref (B + 3), .int (zI (bl : Int))] M (fun r M1 => (∃ v j : Nat, nmF T tn b bl = some (v, j) ∧ r = zI (v : Int) ∧ M1 = st M 3 1 (zI (j : Int)) ∧ v < bl ∧ b < j ∧ j ≤ tn) ∨ (nmF T tn b bl = none ∧ r = zI (-1) ∧ M1 = M)) := by
  refine s_any (by decide) (Nat.le_of_ble_eq_true rfl) ?_
  intro p e s m below meth c ls F hr hlocks w hl
  have F : CallFix p m c cX10_readNumber 5 s _ TB RX10 := F
  have hx := F.1
  have hb := F.2.1
  have hl : lv_has ls 5 [(0, .ref (B + 3)), (1, .int (zI (bl : Int)))] := hl
  have hN := hT.1
  have hbN := hD.2.2.1
  refine lv_aload_n hx hb udX10_readNumber_0 rfl (lv_at hl 0 rfl) ?_
  refine f_10_0 F w (a := 3) rfl utb_25 udX10_readNumber_1 ?_
  refine lv_aload_n hx hb udX10_readNumber_4 rfl (lv_at hl 0 rfl) ?_
  refine f_10_1 F w (a := 3) rfl utb_26 udX10_readNumber_5 ?_
  refine r_val (v := (zI (b : Int))) (hD.2.1) ?_
  refine x_Vi F w (As := [.int (zI (b : Int))]) (rest := []) (a := 1) (kd_lt (a := 1) (show kd 1 = (8, 0, 0) from rfl) (by decide)) (sh_8 rfl _ _) rfl (s_X8_signAt hT hD.1 (z := (b : Int)) (by omega)) ugv_X10_43 uhv_X8_signAt ⟨(Nat.le_of_ble_eq_true rfl), (Nat.le_of_ble_eq_true rfl)⟩ hl.1 rfl (Nat.le_of_ble_eq_true rfl) ⟨Nat.zero_le _, Nat.zero_le _⟩ udX10_readNumber_8 (fun H locs w => ?_)
  have hg0 := sg_rg hT (b : Int)
  have hh0 := sg_c (T := T) (N := tn) b
  have ht0 := hT.2 b
  refine k_Ni F w (As := [.int (zI (sg T tn (b : Int)))]) (rest := []) (s_X11_digitOf (z := (sg T tn (b : Int))) (by omega)) ugc_X11_digitOf utb_31 utb_32 (by decide) uhs_X11_digitOf ⟨(Nat.le_of_ble_eq_true rfl), (Nat.le_of_ble_eq_true rfl)⟩ hl.1 rfl (Nat.le_of_ble_eq_true rfl) ⟨Nat.zero_le _, Nat.zero_le _⟩ udX10_readNumber_11 (fun r Ma3 H locs hp w => ?_)
  rcases hp with ⟨⟨hb2, rfl⟩ | ⟨hb2, rfl⟩, hMe⟩
  · rw [hMe] at w
    refine lv_istore_n (lv' := [(2, .int (zI ((sg T tn (b : Int)) - 48))), (0, .ref (B + 3)), (1, .int (zI (bl : Int)))]) hx hb udX10_readNumber_14 rfl hl (by decide) rfl (fun ls hl => ?_)
    refine lv_iload_n hx hb udX10_readNumber_15 rfl (lv_at hl 0 rfl) ?_
    refine lv_iconst (v := zI (-1)) hx hb udX10_readNumber_16 rfl ?_
    refine z_icmp_ne (tgt := 22) hx hb (by omega) (by omega) udX10_readNumber_17 (by decide) (fun c4 => ?_) (fun c4 => False.elim (by omega))
    refine lv_aload_n hx hb udX10_readNumber_22 rfl (lv_at hl 1 rfl) ?_
    refine f_10_0 F w (a := 3) rfl utb_25 udX10_readNumber_23 ?_
    refine lv_aload_n hx hb udX10_readNumber_26 rfl (lv_at hl 1 rfl) ?_
    refine f_10_1 F w (a := 3) rfl utb_26 udX10_readNumber_27 ?_
    refine r_val (v := (zI (b : Int))) (hD.2.1) ?_
    refine lv_iconst (v := zI 1) hx hb udX10_readNumber_30 rfl ?_
    refine z_iadd (z := (((b + 1) : Nat) : Int)) hx hb udX10_readNumber_31 (by omega) ?_
    refine x_Vi F w (As := [.int (zI (((b + 1) : Nat) : Int))]) (rest := []) (a := 1) (kd_lt (a := 1) (show kd 1 = (8, 0, 0) from rfl) (by decide)) (sh_8 rfl _ _) rfl (s_X8_signAt hT hD.1 (z := (((b + 1) : Nat) : Int)) (by omega)) ugv_X10_43 uhv_X8_signAt ⟨(Nat.le_of_ble_eq_true rfl), (Nat.le_of_ble_eq_true rfl)⟩ hl.1 rfl (Nat.le_of_ble_eq_true rfl) ⟨Nat.zero_le _, Nat.zero_le _⟩ udX10_readNumber_32 (fun H locs w => ?_)
    have hg4 := sg_rg hT (((b + 1) : Nat) : Int)
    have hh4 := sg_c (T := T) (N := tn) (b + 1)
    have ht4 := hT.2 (b + 1)
    refine k_Ni F w (As := [.int (zI (sg T tn (((b + 1) : Nat) : Int)))]) (rest := []) (s_X11_digitOf (z := (sg T tn (((b + 1) : Nat) : Int))) (by omega)) ugc_X11_digitOf utb_31 utb_32 (by decide) uhs_X11_digitOf ⟨(Nat.le_of_ble_eq_true rfl), (Nat.le_of_ble_eq_true rfl)⟩ hl.1 rfl (Nat.le_of_ble_eq_true rfl) ⟨Nat.zero_le _, Nat.zero_le _⟩ udX10_readNumber_35 (fun r Ma7 H locs hp w => ?_)
    rcases hp with ⟨⟨hb6, rfl⟩ | ⟨hb6, rfl⟩, hMe⟩
    · rw [hMe] at w
      refine lv_istore_n (lv' := [(3, .int (zI ((sg T tn (((b + 1) : Nat) : Int)) - 48))), (2, .int (zI ((sg T tn (b : Int)) - 48))), (0, .ref (B + 3)), (1, .int (zI (bl : Int)))]) hx hb udX10_readNumber_38 rfl hl (by decide) rfl (fun ls hl => ?_)
      refine lv_iload_n hx hb udX10_readNumber_39 rfl (lv_at hl 0 rfl) ?_
      refine lv_iconst (v := zI (-1)) hx hb udX10_readNumber_40 rfl ?_
      refine z_icmp_ne (tgt := 48) hx hb (by omega) (by omega) udX10_readNumber_41 (by decide) (fun c8 => ?_) (fun c8 => False.elim (by omega))
      refine lv_iload_n hx hb udX10_readNumber_48 rfl (lv_at hl 1 rfl) ?_
      refine lv_bipush (v := zI 10) hx hb udX10_readNumber_49 (by decide) ?_
      refine z_imul (z := (((sg T tn (b : Int)) - 48) * 10)) hx hb udX10_readNumber_51 (by omega) ?_
      refine lv_iload_n hx hb udX10_readNumber_52 rfl (lv_at hl 0 rfl) ?_
      refine z_iadd (z := ((((sg T tn (b : Int)) - 48) * 10) + ((sg T tn (((b + 1) : Nat) : Int)) - 48))) hx hb udX10_readNumber_53 (by omega) ?_
      refine lv_istore (lv' := [(4, .int (zI ((((sg T tn (b : Int)) - 48) * 10) + ((sg T tn (((b + 1) : Nat) : Int)) - 48)))), (3, .int (zI ((sg T tn (((b + 1) : Nat) : Int)) - 48))), (2, .int (zI ((sg T tn (b : Int)) - 48))), (0, .ref (B + 3)), (1, .int (zI (bl : Int)))]) hx hb udX10_readNumber_54 hl (by decide) rfl (fun ls hl => ?_)
      refine lv_iload hx hb udX10_readNumber_56 (lv_at hl 0 rfl) ?_
      refine lv_iload_n hx hb udX10_readNumber_58 rfl (lv_at hl 4 rfl) ?_
      refine z_icmp_lt (tgt := 64) hx hb (by omega) (by omega) udX10_readNumber_59 (by decide) (fun c9 => ?_) (fun c9 => ?_)
      · refine lv_aload_n hx hb udX10_readNumber_64 rfl (lv_at hl 3 rfl) ?_
        refine lv_dup hx hb udX10_readNumber_65 rfl ?_
        refine f_10_1 F w (a := 3) rfl utb_26 udX10_readNumber_66 ?_
        refine r_val (v := (zI (b : Int))) (hD.2.1) ?_
        refine lv_iload_n hx hb udX10_readNumber_69 rfl (lv_at hl 1 rfl) ?_
        refine lv_iconst (v := zI (-1)) hx hb udX10_readNumber_70 rfl ?_
        refine z_icmp_ne (tgt := 78) hx hb (by omega) (by omega) udX10_readNumber_71 (by decide) (fun c10 => ?_) (fun c10 => False.elim (by omega))
        refine lv_iconst (v := zI 2) hx hb udX10_readNumber_78 rfl ?_
        refine z_iadd (z := (((b + 2) : Nat) : Int)) hx hb udX10_readNumber_79 (by omega) ?_
        refine u_10_1 F w (a := 3) rfl utb_26 udX10_readNumber_80 (fun H locs w => ?_)
        refine lv_iload hx hb udX10_readNumber_83 (lv_at hl 0 rfl) ?_
        exact e_i F w hr hlocks (Or.inl ⟨Int.toNat ((((sg T tn (b : Int)) - 48) * 10) + ((sg T tn (((b + 1) : Nat) : Int)) - 48)), b + 2, nm_2 (by omega) (by omega) (by omega) (by omega), congrArg zI (by omega), rfl, by omega, by omega, by omega⟩) udX10_readNumber_85
      · refine lv_iconst (v := zI (-1)) hx hb udX10_readNumber_62 rfl ?_
        exact e_i F w hr hlocks (Or.inr ⟨nm_2n (by omega) (by omega) (by omega), rfl, rfl⟩) udX10_readNumber_63
    · rw [hMe] at w
      refine lv_istore_n (lv' := [(3, .int (zI (-1))), (2, .int (zI ((sg T tn (b : Int)) - 48))), (0, .ref (B + 3)), (1, .int (zI (bl : Int)))]) hx hb udX10_readNumber_38 rfl hl (by decide) rfl (fun ls hl => ?_)
      refine lv_iload_n hx hb udX10_readNumber_39 rfl (lv_at hl 0 rfl) ?_
      refine lv_iconst (v := zI (-1)) hx hb udX10_readNumber_40 rfl ?_
      refine z_icmp_ne (tgt := 48) hx hb (by omega) (by omega) udX10_readNumber_41 (by decide) (fun c11 => False.elim (by omega)) (fun c11 => ?_)
      refine lv_iload_n hx hb udX10_readNumber_44 rfl (lv_at hl 1 rfl) ?_
      refine lv_goto (tgt := 54) hx hb udX10_readNumber_45 (by decide) ?_
      refine lv_istore (lv' := [(4, .int (zI ((sg T tn (b : Int)) - 48))), (3, .int (zI (-1))), (2, .int (zI ((sg T tn (b : Int)) - 48))), (0, .ref (B + 3)), (1, .int (zI (bl : Int)))]) hx hb udX10_readNumber_54 hl (by decide) rfl (fun ls hl => ?_)
      refine lv_iload hx hb udX10_readNumber_56 (lv_at hl 0 rfl) ?_
      refine lv_iload_n hx hb udX10_readNumber_58 rfl (lv_at hl 4 rfl) ?_
      refine z_icmp_lt (tgt := 64) hx hb (by omega) (by omega) udX10_readNumber_59 (by decide) (fun c12 => ?_) (fun c12 => ?_)
      · refine lv_aload_n hx hb udX10_readNumber_64 rfl (lv_at hl 3 rfl) ?_
        refine lv_dup hx hb udX10_readNumber_65 rfl ?_
        refine f_10_1 F w (a := 3) rfl utb_26 udX10_readNumber_66 ?_
        refine r_val (v := (zI (b : Int))) (hD.2.1) ?_
        refine lv_iload_n hx hb udX10_readNumber_69 rfl (lv_at hl 1 rfl) ?_
        refine lv_iconst (v := zI (-1)) hx hb udX10_readNumber_70 rfl ?_
        refine z_icmp_ne (tgt := 78) hx hb (by omega) (by omega) udX10_readNumber_71 (by decide) (fun c13 => False.elim (by omega)) (fun c13 => ?_)
        refine lv_iconst (v := zI 1) hx hb udX10_readNumber_74 rfl ?_
        refine lv_goto (tgt := 79) hx hb udX10_readNumber_75 (by decide) ?_
        refine z_iadd (z := (((b + 1) : Nat) : Int)) hx hb udX10_readNumber_79 (by omega) ?_
        refine u_10_1 F w (a := 3) rfl utb_26 udX10_readNumber_80 (fun H locs w => ?_)
        refine lv_iload hx hb udX10_readNumber_83 (lv_at hl 0 rfl) ?_
        exact e_i F w hr hlocks (Or.inl ⟨Int.toNat ((sg T tn (b : Int)) - 48), b + 1, nm_1 (by omega) (by omega) (by omega) (by omega), congrArg zI (by omega), rfl, by omega, by omega, by omega⟩) udX10_readNumber_85
      · refine lv_iconst (v := zI (-1)) hx hb udX10_readNumber_62 rfl ?_
        exact e_i F w hr hlocks (Or.inr ⟨nm_1n (by omega) (by omega) (by omega), rfl, rfl⟩) udX10_readNumber_63
  · rw [hMe] at w
    refine lv_istore_n (lv' := [(2, .int (zI (-1))), (0, .ref (B + 3)), (1, .int (zI (bl : Int)))]) hx hb udX10_readNumber_14 rfl hl (by decide) rfl (fun ls hl => ?_)
    refine lv_iload_n hx hb udX10_readNumber_15 rfl (lv_at hl 0 rfl) ?_
    refine lv_iconst (v := zI (-1)) hx hb udX10_readNumber_16 rfl ?_
    refine z_icmp_ne (tgt := 22) hx hb (by omega) (by omega) udX10_readNumber_17 (by decide) (fun c14 => False.elim (by omega)) (fun c14 => ?_)
    refine lv_iconst (v := zI (-1)) hx hb udX10_readNumber_20 rfl ?_
    exact e_i F w hr hlocks (Or.inr ⟨nm_0 (by omega), rfl, rfl⟩) udX10_readNumber_21
theorem udX10_readColon_0 : decode cX10_readColon 0 = .ok (.aload_n 0, 1) := dq0 kk_42 (by decide +kernel)
theorem udX10_readColon_1 : decode cX10_readColon 1 = .ok (.aload_n 0, 1) := dq0 kk_42 (by decide +kernel)
theorem udX10_readColon_2 : decode cX10_readColon 2 = .ok (.getfield 15, 3) := dqV kk_180 (by decide +kernel)
theorem udX10_readColon_5 : decode cX10_readColon 5 = .ok (.aload_n 0, 1) := dq0 kk_42 (by decide +kernel)
theorem udX10_readColon_6 : decode cX10_readColon 6 = .ok (.getfield 9, 3) := dqV kk_180 (by decide +kernel)
theorem udX10_readColon_9 : decode cX10_readColon 9 = .ok (.invokevirtual 34, 3) := dqV kk_182 (by decide +kernel)
theorem utk_X8_skipBlanks : Cond.code yX8_skipBlanks cX8_skipBlanks 3 (some .int) ∈ TB := rtk_X8_skipBlanks
theorem ugc_X8_skipBlanks : GoodIn TB (cw yX8_skipBlanks cX8_skipBlanks 3 (some .int)) := goodIn_c2 utk_X8_skipBlanks
theorem utb_33 : Cond.methodLink "ToneLines$WordReader" 34 yX8_skipBlanks ∈ TB := tbm (tc2 (List.mem_of_getElem? (i := 116) rfl)) rfl
theorem utb_34 : Cond.instanceMethod yX8_skipBlanks ∈ TB := rtb_31
theorem utb_35 : Cond.selects "ToneLines$Tape" yX8_skipBlanks yX8_skipBlanks ∈ TB := rtb_32
theorem ugv_X10_34 : GoodIn TB (wsV RX10 34 RX8 yX8_skipBlanks (cw yX8_skipBlanks cX8_skipBlanks 3 (some .int))) := goodIn_4 utb_33 utb_34 utb_35 utb_30 ugc_X8_skipBlanks
theorem uhv_X8_skipBlanks : yX8_skipBlanks.cls = RX8 ∧ yX8_skipBlanks.cls ≠ "java/lang/invoke/MethodHandle" ∧ yX8_skipBlanks.cls ≠ "java/lang/invoke/VarHandle" ∧ (parseMethodDescriptor yX8_skipBlanks.desc).map (fun d => d.parameters.length) = some 1 := rhv_X8_skipBlanks
theorem udX10_readColon_12 : decode cX10_readColon 12 = .ok (.putfield 9, 3) := dqV kk_181 (by decide +kernel)
theorem udX10_readColon_15 : decode cX10_readColon 15 = .ok (.aload_n 0, 1) := dq0 kk_42 (by decide +kernel)
theorem udX10_readColon_16 : decode cX10_readColon 16 = .ok (.getfield 15, 3) := dqV kk_180 (by decide +kernel)
theorem udX10_readColon_19 : decode cX10_readColon 19 = .ok (.aload_n 0, 1) := dq0 kk_42 (by decide +kernel)
theorem udX10_readColon_20 : decode cX10_readColon 20 = .ok (.getfield 9, 3) := dqV kk_180 (by decide +kernel)
theorem udX10_readColon_23 : decode cX10_readColon 23 = .ok (.invokevirtual 43, 3) := dqV kk_182 (by decide +kernel)
theorem udX10_readColon_26 : decode cX10_readColon 26 = .ok (.bipush 58, 2) := dqS kk_16 (by decide +kernel)
theorem udX10_readColon_28 : decode cX10_readColon 28 = .ok (.if_icmp .eq 5, 3) := dqT kk_159 (by decide +kernel)
theorem udX10_readColon_33 : decode cX10_readColon 33 = .ok (.aload_n 0, 1) := dq0 kk_42 (by decide +kernel)
theorem udX10_readColon_34 : decode cX10_readColon 34 = .ok (.aload_n 0, 1) := dq0 kk_42 (by decide +kernel)
theorem udX10_readColon_35 : decode cX10_readColon 35 = .ok (.getfield 15, 3) := dqV kk_180 (by decide +kernel)
theorem udX10_readColon_38 : decode cX10_readColon 38 = .ok (.aload_n 0, 1) := dq0 kk_42 (by decide +kernel)
theorem udX10_readColon_39 : decode cX10_readColon 39 = .ok (.getfield 9, 3) := dqV kk_180 (by decide +kernel)
theorem udX10_readColon_42 : decode cX10_readColon 42 = .ok (.iconst 1, 1) := dq0 kk_4 (by decide +kernel)
theorem udX10_readColon_43 : decode cX10_readColon 43 = .ok (.iadd, 1) := dq0 kk_96 (by decide +kernel)
theorem udX10_readColon_44 : decode cX10_readColon 44 = .ok (.invokevirtual 34, 3) := dqV kk_182 (by decide +kernel)
theorem udX10_readColon_47 : decode cX10_readColon 47 = .ok (.putfield 9, 3) := dqV kk_181 (by decide +kernel)
theorem udX10_readColon_50 : decode cX10_readColon 50 = .ok (.iconst 1, 1) := dq0 kk_4 (by decide +kernel)
theorem udX10_readColon_51 : decode cX10_readColon 51 = .ok (.ireturn, 1) := dq0 kk_172 (by decide +kernel)
theorem udX10_readColon_31 : decode cX10_readColon 31 = .ok (.iconst 0, 1) := dq0 kk_3 (by decide +kernel)
theorem udX10_readColon_32 : decode cX10_readColon 32 = .ok (.ireturn, 1) := dq0 kk_172 (by decide +kernel)
set_option maxRecDepth 4000 in
theorem s_X10_readColon {l : Launch} {D : va_G} {B : Nat} {cy : Nat → ClassId} {M : Mem} {T : Nat → Nat} {tn : Nat} (hT : okT T tn) {b : Nat} {y : Sy} {o : Wo} (hD : DS M T tn b y o) : Ci l D B cy yX10_readColon cX10_readColon 1 (some .boolean) 1 22 [.ref (B + 3)] M (fun r M1 => (sg T tn ((sk T tn b : Nat) : Int) = 58 ∧ sk T tn b < tn ∧ r = zI 1 ∧ M1 = st (st M 3 1 (zI ((sk T tn b : Nat) : Int))) 3 1 (zI ((sk T tn (sk T tn b + 1) : Nat) : Int))) ∨ (sg T tn ((sk T tn b : Nat) : Int) ≠ 58 ∧ r = zI 0 ∧ M1 = st M 3 1 (zI ((sk T tn b : Nat) : Int)))) := by
  refine s_any (by decide) (Nat.le_of_ble_eq_true rfl) ?_
  intro p e s m below meth c ls F hr hlocks w hl
  have F : CallFix p m c cX10_readColon 1 s _ TB RX10 := F
  have hx := F.1
  have hb := F.2.1
  have hl : lv_has ls 1 [(0, .ref (B + 3))] := hl
  have hN := hT.1
  have hbN := hD.2.2.1
  refine lv_aload_n hx hb udX10_readColon_0 rfl (lv_at hl 0 rfl) ?_
  refine lv_aload_n hx hb udX10_readColon_1 rfl (lv_at hl 0 rfl) ?_
  refine f_10_0 F w (a := 3) rfl utb_25 udX10_readColon_2 ?_
  refine lv_aload_n hx hb udX10_readColon_5 rfl (lv_at hl 0 rfl) ?_
  refine f_10_1 F w (a := 3) rfl utb_26 udX10_readColon_6 ?_
  refine r_val (v := (zI (b : Int))) (hD.2.1) ?_
  refine x_Vi F w (As := [.int (zI (b : Int))]) (rest := [.ref (B + 3)]) (a := 1) (kd_lt (a := 1) (show kd 1 = (8, 0, 0) from rfl) (by decide)) (sh_8 rfl _ _) rfl (s_X8_skipBlanks hT hD.1 (i := b) (by omega)) ugv_X10_34 uhv_X8_skipBlanks ⟨(Nat.le_of_ble_eq_true rfl), (Nat.le_of_ble_eq_true rfl)⟩ hl.1 rfl (Nat.le_of_ble_eq_true rfl) ⟨Nat.zero_le _, Nat.zero_le _⟩ udX10_readColon_9 (fun H locs w => ?_)
  have hk0 := sk_le (T := T) (N := tn) (i := b) (by omega)
  refine u_10_1 F w (a := 3) rfl utb_26 udX10_readColon_12 (fun H locs w => ?_)
  refine lv_aload_n hx hb udX10_readColon_15 rfl (lv_at hl 0 rfl) ?_
  refine f_10_0 F w (a := 3) rfl utb_25 udX10_readColon_16 ?_
  refine lv_aload_n hx hb udX10_readColon_19 rfl (lv_at hl 0 rfl) ?_
  refine f_10_1 F w (a := 3) rfl utb_26 udX10_readColon_20 ?_
  refine r_val (v := (zI (((sk T tn b) : Nat) : Int))) (st_at) ?_
  have hD2 : DS (st M 3 1 (zI (((sk T tn b) : Nat) : Int))) T tn (sk T tn b) y o := DS.at hD (by omega)
  have fD2 : FrD (st M 3 1 (zI (((sk T tn b) : Nat) : Int))) M := FrD.tr FrD.rf FrD.s
  refine x_Vi F w (As := [.int (zI (((sk T tn b) : Nat) : Int))]) (rest := []) (a := 1) (kd_lt (a := 1) (show kd 1 = (8, 0, 0) from rfl) (by decide)) (sh_8 rfl _ _) rfl (s_X8_signAt hT hD2.1 (z := (((sk T tn b) : Nat) : Int)) (by omega)) ugv_X10_43 uhv_X8_signAt ⟨(Nat.le_of_ble_eq_true rfl), (Nat.le_of_ble_eq_true rfl)⟩ hl.1 rfl (Nat.le_of_ble_eq_true rfl) ⟨Nat.zero_le _, Nat.zero_le _⟩ udX10_readColon_23 (fun H locs w => ?_)
  have hg2 := sg_rg hT (((sk T tn b) : Nat) : Int)
  have hh2 := sg_c (T := T) (N := tn) (sk T tn b)
  have ht2 := hT.2 (sk T tn b)
  refine lv_bipush (v := zI 58) hx hb udX10_readColon_26 (by decide) ?_
  refine z_icmp_eq (tgt := 33) hx hb (by omega) (by omega) udX10_readColon_28 (by decide) (fun c4 => ?_) (fun c4 => ?_)
  · refine lv_aload_n hx hb udX10_readColon_33 rfl (lv_at hl 0 rfl) ?_
    refine lv_aload_n hx hb udX10_readColon_34 rfl (lv_at hl 0 rfl) ?_
    refine f_10_0 F w (a := 3) rfl utb_25 udX10_readColon_35 ?_
    refine lv_aload_n hx hb udX10_readColon_38 rfl (lv_at hl 0 rfl) ?_
    refine f_10_1 F w (a := 3) rfl utb_26 udX10_readColon_39 ?_
    refine r_val (v := (zI (((sk T tn b) : Nat) : Int))) (hD2.2.1) ?_
    refine lv_iconst (v := zI 1) hx hb udX10_readColon_42 rfl ?_
    refine z_iadd (z := ((((sk T tn b) + 1) : Nat) : Int)) hx hb udX10_readColon_43 (by omega) ?_
    refine x_Vi F w (As := [.int (zI ((((sk T tn b) + 1) : Nat) : Int))]) (rest := [.ref (B + 3)]) (a := 1) (kd_lt (a := 1) (show kd 1 = (8, 0, 0) from rfl) (by decide)) (sh_8 rfl _ _) rfl (s_X8_skipBlanks hT hD2.1 (i := ((sk T tn b) + 1)) (by omega)) ugv_X10_34 uhv_X8_skipBlanks ⟨(Nat.le_of_ble_eq_true rfl), (Nat.le_of_ble_eq_true rfl)⟩ hl.1 rfl (Nat.le_of_ble_eq_true rfl) ⟨Nat.zero_le _, Nat.zero_le _⟩ udX10_readColon_44 (fun H locs w => ?_)
    have hk4 := sk_le (T := T) (N := tn) (i := ((sk T tn b) + 1)) (by omega)
    refine u_10_1 F w (a := 3) rfl utb_26 udX10_readColon_47 (fun H locs w => ?_)
    refine lv_iconst (v := zI 1) hx hb udX10_readColon_50 rfl ?_
    exact e_z F w hr hlocks (nar_z (by omega)) (Or.inl ⟨by omega, by omega, rfl, rfl⟩) udX10_readColon_51
  · refine lv_iconst (v := zI 0) hx hb udX10_readColon_31 rfl ?_
    exact e_z F w hr hlocks (nar_z (by omega)) (Or.inr ⟨by omega, rfl, rfl⟩) udX10_readColon_32
