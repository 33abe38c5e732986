-- bytes come behind the tape
def by8 (y : Int32) : Nat := y.toBitVec.toNat % 256
theorem by8_lt (y : Int32) : by8 y < 256 := Nat.mod_lt _ (by decide)
theorem by8_and (y : Int32) : y &&& zI 255 = zI ((by8 y : Nat) : Int) := by
  rw [zI_nI]
  refine Int32.toBitVec_inj.mp (BitVec.eq_of_toNat_eq ?_)
  rw [Int32.toBitVec_and, BitVec.toNat_and]
  show y.toBitVec.toNat &&& 255 = (BitVec.ofNat 32 (by8 y)).toNat
  rw [BitVec.toNat_ofNat, Nat.mod_eq_of_lt (by have := by8_lt y; omega)]
  exact Nat.and_two_pow_sub_one_eq_mod _ 8
theorem sb_bmod (n : Nat) : sb (n % 256) = Int.bmod (n : Int) 256 := by
  unfold sb Int.bmod
  by_cases h : n % 256 < 128
  · rw [if_pos h, if_pos (by omega)]; omega
  · rw [if_neg h, if_neg (by omega)]; omega
theorem i2b_by (y : Int32) : y.toInt8.toInt32 = zI (sb (by8 y)) := by
  rw [zI_of y.toInt8.toInt32, Int8.toInt_toInt32]
  refine congrArg zI ?_
  unfold by8
  rw [sb_bmod, Int32.toInt_toInt8]
  have h : y.toInt = Int.bmod (y.toBitVec.toNat : Int) (2 ^ 32) := BitVec.toInt_eq_toNat_bmod y.toBitVec
  rw [h]
  exact Int.bmod_bmod_of_dvd (by decide)
def ap1 (T : Nat → Nat) (n v : Nat) : Nat → Nat := fun i => if i = n then v else T i
theorem ap1_ok {T : Nat → Nat} {n v : Nat} (h : ∀ i, T i < 256) (hv : v < 256) : ∀ i, ap1 T n v i < 256 := fun i => by
  unfold ap1
  by_cases h1 : i = n
  · rw [if_pos h1]; exact hv
  · rw [if_neg h1]; exact h i
theorem isTc.a {M : Mem} {T : Nat → Nat} {n v : Nat} (h : isTc M T n) : isTc (st (st M 2 n (zI (sb v))) 1 1 (zI ((n + 1 : Nat) : Int))) (ap1 T n v) (n + 1) := by
  refine ⟨st_at, fun i hi => ?_⟩
  rw [st_o (by decide)]
  unfold ap1
  by_cases h1 : i = n
  · subst h1; rw [if_pos rfl]; exact st_at
  · rw [if_neg h1, st_k h1]; exact h.2 i (by omega)
theorem isTr.a {M : Mem} {T : Nat → Nat} {n v : Nat} (h : isTr M T n) : isTr (st (st M 150 n (zI ((v : Nat) : Int))) 146 8 (zI ((n + 1 : Nat) : Int))) (ap1 T n v) (n + 1) := by
  refine ⟨st_at, fun i hi => ?_⟩
  rw [st_o (by decide)]
  unfold ap1
  by_cases h1 : i = n
  · subst h1; rw [if_pos rfl]; exact st_at
  · rw [if_neg h1, st_k h1]; exact h.2 i (by omega)
def ap4 (T : Nat → Nat) (n : Nat) (y : Int32) : Nat → Nat := ap1 (ap1 (ap1 (ap1 T n (by8 (y >>> (zI 24 &&& 31)))) (n + 1) (by8 (y >>> (zI 16 &&& 31)))) (n + 1 + 1) (by8 (y >>> (zI 8 &&& 31)))) (n + 1 + 1 + 1) (by8 (y >>> (zI 0 &&& 31)))
theorem ap4_ok {T : Nat → Nat} {n : Nat} {y : Int32} (h : ∀ i, T i < 256) : ∀ i, ap4 T n y i < 256 := ap1_ok (ap1_ok (ap1_ok (ap1_ok h (by8_lt _)) (by8_lt _)) (by8_lt _)) (by8_lt _)
def ap20 (T : Nat → Nat) (n : Nat) (a b c d e : Int32) : Nat → Nat := ap4 (ap4 (ap4 (ap4 (ap4 T n a) (n + 4) b) (n + 4 + 4) c) (n + 4 + 4 + 4) d) (n + 4 + 4 + 4 + 4) e
theorem ap20_ok {T : Nat → Nat} {n : Nat} {a b c d e : Int32} (h : ∀ i, T i < 256) : ∀ i, ap20 T n a b c d e i < 256 := ap4_ok (ap4_ok (ap4_ok (ap4_ok (ap4_ok h))))
theorem rdX8_append_0 : decode cX8_append 0 = .ok (.bipush 24, 2) := dqS kk_16 (by decide +kernel)
theorem rdX8_append_2 : decode cX8_append 2 = .ok (.istore_n 2, 1) := dq0 kk_61 (by decide +kernel)
theorem rdX8_append_3 : decode cX8_append 3 = .ok (.iload_n 2, 1) := dq0 kk_28 (by decide +kernel)
theorem rdX8_append_4 : decode cX8_append 4 = .ok (.ifCond .lt 42, 3) := dqT kk_155 (by decide +kernel)
theorem rdX8_append_7 : decode cX8_append 7 = .ok (.aload_n 0, 1) := dq0 kk_42 (by decide +kernel)
theorem rdX8_append_8 : decode cX8_append 8 = .ok (.getfield 15, 3) := dqV kk_180 (by decide +kernel)
theorem rdX8_append_11 : decode cX8_append 11 = .ok (.sipush 300, 3) := dqT kk_17 (by decide +kernel)
theorem rdX8_append_14 : decode cX8_append 14 = .ok (.if_icmp .ge 32, 3) := dqT kk_162 (by decide +kernel)
theorem rdX8_append_17 : decode cX8_append 17 = .ok (.aload_n 0, 1) := dq0 kk_42 (by decide +kernel)
theorem rdX8_append_18 : decode cX8_append 18 = .ok (.getfield 9, 3) := dqV kk_180 (by decide +kernel)
theorem rdX8_append_21 : decode cX8_append 21 = .ok (.aload_n 0, 1) := dq0 kk_42 (by decide +kernel)
theorem rdX8_append_22 : decode cX8_append 22 = .ok (.getfield 15, 3) := dqV kk_180 (by decide +kernel)
theorem rdX8_append_25 : decode cX8_append 25 = .ok (.iload_n 1, 1) := dq0 kk_27 (by decide +kernel)
theorem rdX8_append_26 : decode cX8_append 26 = .ok (.iload_n 2, 1) := dq0 kk_28 (by decide +kernel)
theorem rdX8_append_27 : decode cX8_append 27 = .ok (.ishr, 1) := dq0 kk_122 (by decide +kernel)
theorem rdX8_append_28 : decode cX8_append 28 = .ok (.i2b, 1) := dq0 kk_145 (by decide +kernel)
theorem rdX8_append_29 : decode cX8_append 29 = .ok (.bastore, 1) := dq0 kk_84 (by decide +kernel)
theorem rdX8_append_30 : decode cX8_append 30 = .ok (.aload_n 0, 1) := dq0 kk_42 (by decide +kernel)
theorem rdX8_append_31 : decode cX8_append 31 = .ok (.dup, 1) := dq0 kk_89 (by decide +kernel)
theorem rdX8_append_32 : decode cX8_append 32 = .ok (.getfield 15, 3) := dqV kk_180 (by decide +kernel)
theorem rdX8_append_35 : decode cX8_append 35 = .ok (.iconst 1, 1) := dq0 kk_4 (by decide +kernel)
theorem rdX8_append_36 : decode cX8_append 36 = .ok (.iadd, 1) := dq0 kk_96 (by decide +kernel)
theorem rdX8_append_37 : decode cX8_append 37 = .ok (.putfield 15, 3) := dqV kk_181 (by decide +kernel)
theorem rdX8_append_40 : decode cX8_append 40 = .ok (.iinc 2 (-8), 3) := dqI kk_132 (by decide +kernel)
theorem rdX8_append_43 : decode cX8_append 43 = .ok (.goto (-40), 3) := dqT kk_167 (by decide +kernel)
theorem rdX8_append_46 : decode cX8_append 46 = .ok (.return_, 1) := dq0 kk_177 (by decide +kernel)
set_option maxRecDepth 4000 in
theorem s_X8_append {l : Launch} {D : va_G} {B : Nat} {cy : Nat → ClassId} {M : Mem} {T : Nat → Nat} {tn : Nat} (htn : tn ≤ 296) (hTc : isTc M T tn) {z : Int} : Cv l D B cy yX8_append cX8_append 3 0 0 [.ref (B + 1), .int (zI z)] M (fun M1 => isTc M1 (ap4 T tn (zI z)) (tn + 4) ∧ ∀ a, a ≠ 1 → a ≠ 2 → M1.1 a = M.1 a) := by
  refine s_any (by decide) (Nat.le_of_ble_eq_true rfl) ?_
  intro p e s m below meth c ls F hr hlocks w hl
  have F : CallFix p m c cX8_append 3 s _ TB RX8 := F
  have hx := F.1
  have hb := F.2.1
  have hl : lv_has ls 3 [(0, .ref (B + 1)), (1, .int (zI z))] := hl
  refine lv_bipush (v := zI 24) hx hb rdX8_append_0 (by decide) ?_
  refine lv_istore_n (lv' := [(2, .int (zI 24)), (0, .ref (B + 1)), (1, .int (zI z))]) hx hb rdX8_append_2 rfl hl (by decide) rfl (fun ls hl => ?_)
  refine lv_iload_n hx hb rdX8_append_3 rfl (lv_at hl 0 rfl) ?_
  refine z_if_lt (tgt := 46) hx hb (by omega) rdX8_append_4 (by decide) (fun c1 => False.elim (by omega)) (fun c1 => ?_)
  refine lv_aload_n hx hb rdX8_append_7 rfl (lv_at hl 1 rfl) ?_
  refine f_8_1 F w (a := 1) rfl rtb_19 rdX8_append_8 ?_
  refine r_val (v := (zI (tn : Int))) (hTc.1) ?_
  refine lv_sipush (v := zI 300) hx hb rdX8_append_11 (by decide) ?_
  refine z_icmp_ge (tgt := 46) hx hb (by omega) (by omega) rdX8_append_14 (by decide) (fun c2 => False.elim (by omega)) (fun c2 => ?_)
  refine lv_aload_n hx hb rdX8_append_17 rfl (lv_at hl 1 rfl) ?_
  refine f_8_0 F w (a := 1) rfl rtb_20 rdX8_append_18 ?_
  refine lv_aload_n hx hb rdX8_append_21 rfl (lv_at hl 1 rfl) ?_
  refine f_8_1 F w (a := 1) rfl rtb_19 rdX8_append_22 ?_
  refine r_val (v := (zI (tn : Int))) (hTc.1) ?_
  refine lv_iload_n hx hb rdX8_append_25 rfl (lv_at hl 2 rfl) ?_
  refine lv_iload_n hx hb rdX8_append_26 rfl (lv_at hl 0 rfl) ?_
  refine lv_ishr hx hb rdX8_append_27 ?_
  refine lv_i2b (v := (zI (sb (by8 ((zI z) >>> ((zI 24) &&& 31)))))) hx hb rdX8_append_28 (i2b_by _) ?_
  have hsb3 := sb_rg (by8_lt ((zI z) >>> ((zI 24) &&& 31)))
  refine g_bast F w (a := 2) rfl (j := tn) (ix_n (by omega)) (by omega) rdX8_append_29 (fun H locs w => ?_)
  rw [nar_b (z := (sb (by8 ((zI z) >>> ((zI 24) &&& 31))))) (by omega)] at w
  refine lv_aload_n hx hb rdX8_append_30 rfl (lv_at hl 1 rfl) ?_
  refine lv_dup hx hb rdX8_append_31 rfl ?_
  refine f_8_1 F w (a := 1) rfl rtb_19 rdX8_append_32 ?_
  refine r_val (v := (zI (tn : Int))) ((st_ne (Or.inl (by omega))).trans (hTc.1)) ?_
  refine lv_iconst (v := zI 1) hx hb rdX8_append_35 rfl ?_
  refine z_iadd (z := (((tn + 1) : Nat) : Int)) hx hb rdX8_append_36 (by omega) ?_
  refine u_8_1 F w (a := 1) rfl rtb_19 rdX8_append_37 (fun H locs w => ?_)
  refine z_iinc (v := 16) (lv' := [(2, .int (zI 16)), (0, .ref (B + 1)), (1, .int (zI z))]) hx hb rdX8_append_40 hl (k := 0) rfl (by omega) (by decide) rfl (fun ls hl => ?_)
  refine lv_goto (tgt := 3) hx hb rdX8_append_43 (by decide) ?_
  refine lv_iload_n hx hb rdX8_append_3 rfl (lv_at hl 0 rfl) ?_
  refine z_if_lt (tgt := 46) hx hb (by omega) rdX8_append_4 (by decide) (fun c4 => False.elim (by omega)) (fun c4 => ?_)
  refine lv_aload_n hx hb rdX8_append_7 rfl (lv_at hl 1 rfl) ?_
  refine f_8_1 F w (a := 1) rfl rtb_19 rdX8_append_8 ?_
  refine r_val (v := (zI (((tn + 1) : Nat) : Int))) (st_at) ?_
  refine lv_sipush (v := zI 300) hx hb rdX8_append_11 (by decide) ?_
  refine z_icmp_ge (tgt := 46) hx hb (by omega) (by omega) rdX8_append_14 (by decide) (fun c5 => False.elim (by omega)) (fun c5 => ?_)
  refine lv_aload_n hx hb rdX8_append_17 rfl (lv_at hl 1 rfl) ?_
  refine f_8_0 F w (a := 1) rfl rtb_20 rdX8_append_18 ?_
  refine lv_aload_n hx hb rdX8_append_21 rfl (lv_at hl 1 rfl) ?_
  refine f_8_1 F w (a := 1) rfl rtb_19 rdX8_append_22 ?_
  refine r_val (v := (zI (((tn + 1) : Nat) : Int))) (st_at) ?_
  refine lv_iload_n hx hb rdX8_append_25 rfl (lv_at hl 2 rfl) ?_
  refine lv_iload_n hx hb rdX8_append_26 rfl (lv_at hl 0 rfl) ?_
  refine lv_ishr hx hb rdX8_append_27 ?_
  refine lv_i2b (v := (zI (sb (by8 ((zI z) >>> ((zI 16) &&& 31)))))) hx hb rdX8_append_28 (i2b_by _) ?_
  have hsb6 := sb_rg (by8_lt ((zI z) >>> ((zI 16) &&& 31)))
  refine g_bast F w (a := 2) rfl (j := (tn + 1)) (ix_n (by omega)) (by omega) rdX8_append_29 (fun H locs w => ?_)
  rw [nar_b (z := (sb (by8 ((zI z) >>> ((zI 16) &&& 31))))) (by omega)] at w
  refine lv_aload_n hx hb rdX8_append_30 rfl (lv_at hl 1 rfl) ?_
  refine lv_dup hx hb rdX8_append_31 rfl ?_
  refine f_8_1 F w (a := 1) rfl rtb_19 rdX8_append_32 ?_
  refine r_val (v := (zI (((tn + 1) : Nat) : Int))) ((st_ne (Or.inl (by omega))).trans st_at) ?_
  refine lv_iconst (v := zI 1) hx hb rdX8_append_35 rfl ?_
  refine z_iadd (z := ((((tn + 1) + 1) : Nat) : Int)) hx hb rdX8_append_36 (by omega) ?_
  refine u_8_1 F w (a := 1) rfl rtb_19 rdX8_append_37 (fun H locs w => ?_)
  refine z_iinc (v := 8) (lv' := [(2, .int (zI 8)), (0, .ref (B + 1)), (1, .int (zI z))]) hx hb rdX8_append_40 hl (k := 0) rfl (by omega) (by decide) rfl (fun ls hl => ?_)
  refine lv_goto (tgt := 3) hx hb rdX8_append_43 (by decide) ?_
  refine lv_iload_n hx hb rdX8_append_3 rfl (lv_at hl 0 rfl) ?_
  refine z_if_lt (tgt := 46) hx hb (by omega) rdX8_append_4 (by decide) (fun c7 => False.elim (by omega)) (fun c7 => ?_)
  refine lv_aload_n hx hb rdX8_append_7 rfl (lv_at hl 1 rfl) ?_
  refine f_8_1 F w (a := 1) rfl rtb_19 rdX8_append_8 ?_
  refine r_val (v := (zI ((((tn + 1) + 1) : Nat) : Int))) (st_at) ?_
  refine lv_sipush (v := zI 300) hx hb rdX8_append_11 (by decide) ?_
  refine z_icmp_ge (tgt := 46) hx hb (by omega) (by omega) rdX8_append_14 (by decide) (fun c8 => False.elim (by omega)) (fun c8 => ?_)
  refine lv_aload_n hx hb rdX8_append_17 rfl (lv_at hl 1 rfl) ?_
  refine f_8_0 F w (a := 1) rfl rtb_20 rdX8_append_18 ?_
  refine lv_aload_n hx hb rdX8_append_21 rfl (lv_at hl 1 rfl) ?_
  refine f_8_1 F w (a := 1) rfl rtb_19 rdX8_append_22 ?_
  refine r_val (v := (zI ((((tn + 1) + 1) : Nat) : Int))) (st_at) ?_
  refine lv_iload_n hx hb rdX8_append_25 rfl (lv_at hl 2 rfl) ?_
  refine lv_iload_n hx hb rdX8_append_26 rfl (lv_at hl 0 rfl) ?_
  refine lv_ishr hx hb rdX8_append_27 ?_
  refine lv_i2b (v := (zI (sb (by8 ((zI z) >>> ((zI 8) &&& 31)))))) hx hb rdX8_append_28 (i2b_by _) ?_
  have hsb9 := sb_rg (by8_lt ((zI z) >>> ((zI 8) &&& 31)))
  refine g_bast F w (a := 2) rfl (j := ((tn + 1) + 1)) (ix_n (by omega)) (by omega) rdX8_append_29 (fun H locs w => ?_)
  rw [nar_b (z := (sb (by8 ((zI z) >>> ((zI 8) &&& 31))))) (by omega)] at w
  refine lv_aload_n hx hb rdX8_append_30 rfl (lv_at hl 1 rfl) ?_
  refine lv_dup hx hb rdX8_append_31 rfl ?_
  refine f_8_1 F w (a := 1) rfl rtb_19 rdX8_append_32 ?_
  refine r_val (v := (zI ((((tn + 1) + 1) : Nat) : Int))) ((st_ne (Or.inl (by omega))).trans st_at) ?_
  refine lv_iconst (v := zI 1) hx hb rdX8_append_35 rfl ?_
  refine z_iadd (z := (((((tn + 1) + 1) + 1) : Nat) : Int)) hx hb rdX8_append_36 (by omega) ?_
  refine u_8_1 F w (a := 1) rfl rtb_19 rdX8_append_37 (fun H locs w => ?_)
  refine z_iinc (v := 0) (lv' := [(2, .int (zI 0)), (0, .ref (B + 1)), (1, .int (zI z))]) hx hb rdX8_append_40 hl (k := 0) rfl (by omega) (by decide) rfl (fun ls hl => ?_)
  refine lv_goto (tgt := 3) hx hb rdX8_append_43 (by decide) ?_
  refine lv_iload_n hx hb rdX8_append_3 rfl (lv_at hl 0 rfl) ?_
  refine z_if_lt (tgt := 46) hx hb (by omega) rdX8_append_4 (by decide) (fun c10 => False.elim (by omega)) (fun c10 => ?_)
  refine lv_aload_n hx hb rdX8_append_7 rfl (lv_at hl 1 rfl) ?_
  refine f_8_1 F w (a := 1) rfl rtb_19 rdX8_append_8 ?_
  refine r_val (v := (zI (((((tn + 1) + 1) + 1) : Nat) : Int))) (st_at) ?_
  refine lv_sipush (v := zI 300) hx hb rdX8_append_11 (by decide) ?_
  refine z_icmp_ge (tgt := 46) hx hb (by omega) (by omega) rdX8_append_14 (by decide) (fun c11 => False.elim (by omega)) (fun c11 => ?_)
  refine lv_aload_n hx hb rdX8_append_17 rfl (lv_at hl 1 rfl) ?_
  refine f_8_0 F w (a := 1) rfl rtb_20 rdX8_append_18 ?_
  refine lv_aload_n hx hb rdX8_append_21 rfl (lv_at hl 1 rfl) ?_
  refine f_8_1 F w (a := 1) rfl rtb_19 rdX8_append_22 ?_
  refine r_val (v := (zI (((((tn + 1) + 1) + 1) : Nat) : Int))) (st_at) ?_
  refine lv_iload_n hx hb rdX8_append_25 rfl (lv_at hl 2 rfl) ?_
  refine lv_iload_n hx hb rdX8_append_26 rfl (lv_at hl 0 rfl) ?_
  refine lv_ishr hx hb rdX8_append_27 ?_
  refine lv_i2b (v := (zI (sb (by8 ((zI z) >>> ((zI 0) &&& 31)))))) hx hb rdX8_append_28 (i2b_by _) ?_
  have hsb12 := sb_rg (by8_lt ((zI z) >>> ((zI 0) &&& 31)))
  refine g_bast F w (a := 2) rfl (j := (((tn + 1) + 1) + 1)) (ix_n (by omega)) (by omega) rdX8_append_29 (fun H locs w => ?_)
  rw [nar_b (z := (sb (by8 ((zI z) >>> ((zI 0) &&& 31))))) (by omega)] at w
  refine lv_aload_n hx hb rdX8_append_30 rfl (lv_at hl 1 rfl) ?_
  refine lv_dup hx hb rdX8_append_31 rfl ?_
  refine f_8_1 F w (a := 1) rfl rtb_19 rdX8_append_32 ?_
  refine r_val (v := (zI (((((tn + 1) + 1) + 1) : Nat) : Int))) ((st_ne (Or.inl (by omega))).trans st_at) ?_
  refine lv_iconst (v := zI 1) hx hb rdX8_append_35 rfl ?_
  refine z_iadd (z := ((((((tn + 1) + 1) + 1) + 1) : Nat) : Int)) hx hb rdX8_append_36 (by omega) ?_
  refine u_8_1 F w (a := 1) rfl rtb_19 rdX8_append_37 (fun H locs w => ?_)
  refine z_iinc (v := (-8)) (lv' := [(2, .int (zI (-8))), (0, .ref (B + 1)), (1, .int (zI z))]) hx hb rdX8_append_40 hl (k := 0) rfl (by omega) (by decide) rfl (fun ls hl => ?_)
  refine lv_goto (tgt := 3) hx hb rdX8_append_43 (by decide) ?_
  refine lv_iload_n hx hb rdX8_append_3 rfl (lv_at hl 0 rfl) ?_
  refine z_if_lt (tgt := 46) hx hb (by omega) rdX8_append_4 (by decide) (fun c13 => ?_) (fun c13 => False.elim (by omega))
  exact e_v F w hr hlocks ⟨isTc.a (isTc.a (isTc.a (isTc.a hTc))), fun a h1 h2 => by rw [st_o h1, st_o h2, st_o h1, st_o h2, st_o h1, st_o h2, st_o h1, st_o h2]⟩ rdX8_append_46
theorem rdX11_feed_0 : decode cX11_feed 0 = .ok (.aload_n 0, 1) := dq0 kk_42 (by decide +kernel)
theorem rdX11_feed_1 : decode cX11_feed 1 = .ok (.getfield 12, 3) := dqV kk_180 (by decide +kernel)
theorem rdX11_feed_4 : decode cX11_feed 4 = .ok (.getfield 78, 3) := dqV kk_180 (by decide +kernel)
theorem rdX11_feed_7 : decode cX11_feed 7 = .ok (.bipush 20, 2) := dqS kk_16 (by decide +kernel)
theorem rdX11_feed_9 : decode cX11_feed 9 = .ok (.iadd, 1) := dq0 kk_96 (by decide +kernel)
theorem rdX11_feed_10 : decode cX11_feed 10 = .ok (.sipush 300, 3) := dqT kk_17 (by decide +kernel)
theorem rdX11_feed_13 : decode cX11_feed 13 = .ok (.if_icmp .le 5, 3) := dqT kk_164 (by decide +kernel)
theorem rdX11_feed_18 : decode cX11_feed 18 = .ok (.aload_n 0, 1) := dq0 kk_42 (by decide +kernel)
theorem rdX11_feed_19 : decode cX11_feed 19 = .ok (.getfield 12, 3) := dqV kk_180 (by decide +kernel)
theorem rdX11_feed_22 : decode cX11_feed 22 = .ok (.iload_n 1, 1) := dq0 kk_27 (by decide +kernel)
theorem rdX11_feed_23 : decode cX11_feed 23 = .ok (.invokevirtual 82, 3) := dqV kk_182 (by decide +kernel)
theorem rtk_X8_append : Cond.code yX8_append cX8_append 3 none ∈ TB := tbm (tc2 (List.mem_of_getElem? (i := 95) rfl)) rfl
theorem rgc_X8_append : GoodIn TB (cw yX8_append cX8_append 3 none) := goodIn_c2 rtk_X8_append
theorem rtb_166 : Cond.methodLink "ToneLines" 82 yX8_append ∈ TB := tbm (tc2 (List.mem_of_getElem? (i := 92) rfl)) rfl
theorem rtb_167 : Cond.instanceMethod yX8_append ∈ TB := tbm (tc2 (List.mem_of_getElem? (i := 93) rfl)) rfl
theorem rtb_168 : Cond.selects "ToneLines$Tape" yX8_append yX8_append ∈ TB := tbm (tc2 (List.mem_of_getElem? (i := 94) rfl)) rfl
theorem rgv_X11_82 : GoodIn TB (wsV RX11 82 RX8 yX8_append (cw yX8_append cX8_append 3 none)) := goodIn_4 rtb_166 rtb_167 rtb_168 rtb_27 rgc_X8_append
theorem rhv_X8_append : yX8_append.cls = RX8 ∧ yX8_append.cls ≠ "java/lang/invoke/MethodHandle" ∧ yX8_append.cls ≠ "java/lang/invoke/VarHandle" ∧ (parseMethodDescriptor yX8_append.desc).map (fun d => d.parameters.length) = some 1 := by decide +kernel
theorem rdX11_feed_26 : decode cX11_feed 26 = .ok (.aload_n 0, 1) := dq0 kk_42 (by decide +kernel)
theorem rdX11_feed_27 : decode cX11_feed 27 = .ok (.getfield 12, 3) := dqV kk_180 (by decide +kernel)
theorem rdX11_feed_30 : decode cX11_feed 30 = .ok (.iload_n 2, 1) := dq0 kk_28 (by decide +kernel)
theorem rdX11_feed_31 : decode cX11_feed 31 = .ok (.invokevirtual 82, 3) := dqV kk_182 (by decide +kernel)
theorem rdX11_feed_34 : decode cX11_feed 34 = .ok (.aload_n 0, 1) := dq0 kk_42 (by decide +kernel)
theorem rdX11_feed_35 : decode cX11_feed 35 = .ok (.getfield 12, 3) := dqV kk_180 (by decide +kernel)
theorem rdX11_feed_38 : decode cX11_feed 38 = .ok (.iload_n 3, 1) := dq0 kk_29 (by decide +kernel)
theorem rdX11_feed_39 : decode cX11_feed 39 = .ok (.invokevirtual 82, 3) := dqV kk_182 (by decide +kernel)
theorem rdX11_feed_42 : decode cX11_feed 42 = .ok (.aload_n 0, 1) := dq0 kk_42 (by decide +kernel)
theorem rdX11_feed_43 : decode cX11_feed 43 = .ok (.getfield 12, 3) := dqV kk_180 (by decide +kernel)
theorem rdX11_feed_46 : decode cX11_feed 46 = .ok (.iload 4, 2) := dqU kk_21 (by decide +kernel)
theorem rdX11_feed_48 : decode cX11_feed 48 = .ok (.invokevirtual 82, 3) := dqV kk_182 (by decide +kernel)
theorem rdX11_feed_51 : decode cX11_feed 51 = .ok (.aload_n 0, 1) := dq0 kk_42 (by decide +kernel)
theorem rdX11_feed_52 : decode cX11_feed 52 = .ok (.getfield 12, 3) := dqV kk_180 (by decide +kernel)
theorem rdX11_feed_55 : decode cX11_feed 55 = .ok (.iload 5, 2) := dqU kk_21 (by decide +kernel)
theorem rdX11_feed_57 : decode cX11_feed 57 = .ok (.invokevirtual 82, 3) := dqV kk_182 (by decide +kernel)
theorem rdX11_feed_60 : decode cX11_feed 60 = .ok (.aload_n 0, 1) := dq0 kk_42 (by decide +kernel)
theorem rdX11_feed_61 : decode cX11_feed 61 = .ok (.getfield 12, 3) := dqV kk_180 (by decide +kernel)
theorem rdX11_feed_64 : decode cX11_feed 64 = .ok (.getfield 78, 3) := dqV kk_180 (by decide +kernel)
theorem rdX11_feed_67 : decode cX11_feed 67 = .ok (.ireturn, 1) := dq0 kk_172 (by decide +kernel)
theorem rdX11_feed_16 : decode cX11_feed 16 = .ok (.iconst (-1), 1) := dq0 kk_2 (by decide +kernel)
theorem rdX11_feed_17 : decode cX11_feed 17 = .ok (.ireturn, 1) := dq0 kk_172 (by decide +kernel)
set_option maxRecDepth 4000 in
theorem s_X11_feed {l : Launch} {D : va_G} {B : Nat} {cy : Nat → ClassId} {M : Mem} {T : Nat → Nat} {tn : Nat} (hT : okT T tn) (hTc : isTc M T tn) {z1 z2 z3 z4 z5 : Int} : Ci l D B cy yX11_feed cX11_feed 6 (some .int) 1 22 [.ref (B + 0), .int (zI z1), .int (zI z2), .int (zI z3), .int (zI z4), .int (zI z5)] M (fun r M1 => (300 < tn + 20 ∧ r = zI (-1) ∧ M1 = M) ∨ (tn + 20 ≤ 300 ∧ r = zI ((tn + 20 : Nat) : Int) ∧ isTc M1 (ap20 T tn (zI z1) (zI z2) (zI z3) (zI z4) (zI z5)) (tn + 20) ∧ ∀ a, a ≠ 1 → a ≠ 2 → M1.1 a = M.1 a)) := by
  refine s_any (by decide) (Nat.le_of_ble_eq_true rfl) ?_
  intro p e s m below meth c ls F hr hlocks w hl
  have F : CallFix p m c cX11_feed 6 s _ TB RX11 := F
  have hx := F.1
  have hb := F.2.1
  have hl : lv_has ls 6 [(0, .ref (B + 0)), (1, .int (zI z1)), (2, .int (zI z2)), (3, .int (zI z3)), (4, .int (zI z4)), (5, .int (zI z5))] := hl
  have hN := hT.1
  refine lv_aload_n hx hb rdX11_feed_0 rfl (lv_at hl 0 rfl) ?_
  refine f_11_0 F w (a := 0) rfl rtb_105 rdX11_feed_1 ?_
  refine f_8_1 F w (a := 1) rfl rtb_106 rdX11_feed_4 ?_
  refine r_val (v := (zI (tn : Int))) (hTc.1) ?_
  refine lv_bipush (v := zI 20) hx hb rdX11_feed_7 (by decide) ?_
  refine z_iadd (z := (((tn + 20) : Nat) : Int)) hx hb rdX11_feed_9 (by omega) ?_
  refine lv_sipush (v := zI 300) hx hb rdX11_feed_10 (by decide) ?_
  refine z_icmp_le (tgt := 18) hx hb (by omega) (by omega) rdX11_feed_13 (by decide) (fun c1 => ?_) (fun c1 => ?_)
  · refine lv_aload_n hx hb rdX11_feed_18 rfl (lv_at hl 0 rfl) ?_
    refine f_11_0 F w (a := 0) rfl rtb_105 rdX11_feed_19 ?_
    refine lv_iload_n hx hb rdX11_feed_22 rfl (lv_at hl 1 rfl) ?_
    refine k_Vv F w (As := [.int (zI z1)]) (rest := []) (a := 1) (kd_lt (a := 1) (show kd 1 = (8, 0, 0) from rfl) (by decide)) (sh_8 rfl _ _) rfl (s_X8_append (T := T) (tn := tn) (by omega) hTc (z := z1)) rgv_X11_82 rhv_X8_append ⟨(Nat.le_of_ble_eq_true rfl), (Nat.le_of_ble_eq_true rfl)⟩ hl.1 rfl (Nat.le_of_ble_eq_true rfl) ⟨Nat.zero_le _, Nat.zero_le _⟩ rdX11_feed_23 (fun Ma3 H locs hp w => ?_)
    rcases hp with ⟨hch2, hfh2⟩
    have hgh2 : ∀ a, a ≠ 1 → a ≠ 2 → Ma3.1 a = M.1 a := fun a x y => (hfh2 a x y).trans (rfl)
    refine lv_aload_n hx hb rdX11_feed_26 rfl (lv_at hl 0 rfl) ?_
    refine f_11_0 F w (a := 0) rfl rtb_105 rdX11_feed_27 ?_
    refine lv_iload_n hx hb rdX11_feed_30 rfl (lv_at hl 2 rfl) ?_
    refine k_Vv F w (As := [.int (zI z2)]) (rest := []) (a := 1) (kd_lt (a := 1) (show kd 1 = (8, 0, 0) from rfl) (by decide)) (sh_8 rfl _ _) rfl (s_X8_append (T := (ap4 T (tn) (zI z1))) (tn := tn + 4) (by omega) hch2 (z := z2)) rgv_X11_82 rhv_X8_append ⟨(Nat.le_of_ble_eq_true rfl), (Nat.le_of_ble_eq_true rfl)⟩ hl.1 rfl (Nat.le_of_ble_eq_true rfl) ⟨Nat.zero_le _, Nat.zero_le _⟩ rdX11_feed_31 (fun Ma5 H locs hp w => ?_)
    rcases hp with ⟨hch4, hfh4⟩
    have hgh4 : ∀ a, a ≠ 1 → a ≠ 2 → Ma5.1 a = M.1 a := fun a x y => (hfh4 a x y).trans (hgh2 a x y)
    refine lv_aload_n hx hb rdX11_feed_34 rfl (lv_at hl 0 rfl) ?_
    refine f_11_0 F w (a := 0) rfl rtb_105 rdX11_feed_35 ?_
    refine lv_iload_n hx hb rdX11_feed_38 rfl (lv_at hl 3 rfl) ?_
    refine k_Vv F w (As := [.int (zI z3)]) (rest := []) (a := 1) (kd_lt (a := 1) (show kd 1 = (8, 0, 0) from rfl) (by decide)) (sh_8 rfl _ _) rfl (s_X8_append (T := (ap4 (ap4 T (tn) (zI z1)) (tn + 4) (zI z2))) (tn := tn + 4 + 4) (by omega) hch4 (z := z3)) rgv_X11_82 rhv_X8_append ⟨(Nat.le_of_ble_eq_true rfl), (Nat.le_of_ble_eq_true rfl)⟩ hl.1 rfl (Nat.le_of_ble_eq_true rfl) ⟨Nat.zero_le _, Nat.zero_le _⟩ rdX11_feed_39 (fun Ma7 H locs hp w => ?_)
    rcases hp with ⟨hch6, hfh6⟩
    have hgh6 : ∀ a, a ≠ 1 → a ≠ 2 → Ma7.1 a = M.1 a := fun a x y => (hfh6 a x y).trans (hgh4 a x y)
    refine lv_aload_n hx hb rdX11_feed_42 rfl (lv_at hl 0 rfl) ?_
    refine f_11_0 F w (a := 0) rfl rtb_105 rdX11_feed_43 ?_
    refine lv_iload hx hb rdX11_feed_46 (lv_at hl 4 rfl) ?_
    refine k_Vv F w (As := [.int (zI z4)]) (rest := []) (a := 1) (kd_lt (a := 1) (show kd 1 = (8, 0, 0) from rfl) (by decide)) (sh_8 rfl _ _) rfl (s_X8_append (T := (ap4 (ap4 (ap4 T (tn) (zI z1)) (tn + 4) (zI z2)) (tn + 4 + 4) (zI z3))) (tn := tn + 4 + 4 + 4) (by omega) hch6 (z := z4)) rgv_X11_82 rhv_X8_append ⟨(Nat.le_of_ble_eq_true rfl), (Nat.le_of_ble_eq_true rfl)⟩ hl.1 rfl (Nat.le_of_ble_eq_true rfl) ⟨Nat.zero_le _, Nat.zero_le _⟩ rdX11_feed_48 (fun Ma9 H locs hp w => ?_)
    rcases hp with ⟨hch8, hfh8⟩
    have hgh8 : ∀ a, a ≠ 1 → a ≠ 2 → Ma9.1 a = M.1 a := fun a x y => (hfh8 a x y).trans (hgh6 a x y)
    refine lv_aload_n hx hb rdX11_feed_51 rfl (lv_at hl 0 rfl) ?_
    refine f_11_0 F w (a := 0) rfl rtb_105 rdX11_feed_52 ?_
    refine lv_iload hx hb rdX11_feed_55 (lv_at hl 5 rfl) ?_
    refine k_Vv F w (As := [.int (zI z5)]) (rest := []) (a := 1) (kd_lt (a := 1) (show kd 1 = (8, 0, 0) from rfl) (by decide)) (sh_8 rfl _ _) rfl (s_X8_append (T := (ap4 (ap4 (ap4 (ap4 T (tn) (zI z1)) (tn + 4) (zI z2)) (tn + 4 + 4) (zI z3)) (tn + 4 + 4 + 4) (zI z4))) (tn := tn + 4 + 4 + 4 + 4) (by omega) hch8 (z := z5)) rgv_X11_82 rhv_X8_append ⟨(Nat.le_of_ble_eq_true rfl), (Nat.le_of_ble_eq_true rfl)⟩ hl.1 rfl (Nat.le_of_ble_eq_true rfl) ⟨Nat.zero_le _, Nat.zero_le _⟩ rdX11_feed_57 (fun Ma11 H locs hp w => ?_)
    rcases hp with ⟨hch10, hfh10⟩
    have hgh10 : ∀ a, a ≠ 1 → a ≠ 2 → Ma11.1 a = M.1 a := fun a x y => (hfh10 a x y).trans (hgh8 a x y)
    refine lv_aload_n hx hb rdX11_feed_60 rfl (lv_at hl 0 rfl) ?_
    refine f_11_0 F w (a := 0) rfl rtb_105 rdX11_feed_61 ?_
    refine f_8_1 F w (a := 1) rfl rtb_106 rdX11_feed_64 ?_
    refine r_val (v := (zI (((tn + 4 + 4 + 4 + 4 + 4) : Nat) : Int))) (hch10.1) ?_
    exact e_i F w hr hlocks (Or.inr ⟨by omega, rfl, hch10, hgh10⟩) rdX11_feed_67
  · refine lv_iconst (v := zI (-1)) hx hb rdX11_feed_16 rfl ?_
    exact e_i F w hr hlocks (Or.inl ⟨by omega, rfl, rfl⟩) rdX11_feed_17
theorem rdX12_feed_0 : decode cX12_feed 0 = .ok (.aload_n 0, 1) := dq0 kk_42 (by decide +kernel)
theorem rdX12_feed_1 : decode cX12_feed 1 = .ok (.getfield 169, 3) := dqV kk_180 (by decide +kernel)
theorem rdX12_feed_4 : decode cX12_feed 4 = .ok (.bipush 20, 2) := dqS kk_16 (by decide +kernel)
theorem rdX12_feed_6 : decode cX12_feed 6 = .ok (.iadd, 1) := dq0 kk_96 (by decide +kernel)
theorem rdX12_feed_7 : decode cX12_feed 7 = .ok (.sipush 300, 3) := dqT kk_17 (by decide +kernel)
theorem rdX12_feed_10 : decode cX12_feed 10 = .ok (.if_icmp .le 5, 3) := dqT kk_164 (by decide +kernel)
theorem rdX12_feed_15 : decode cX12_feed 15 = .ok (.iconst 0, 1) := dq0 kk_3 (by decide +kernel)
theorem rdX12_feed_16 : decode cX12_feed 16 = .ok (.istore 6, 2) := dqU kk_54 (by decide +kernel)
theorem rdX12_feed_18 : decode cX12_feed 18 = .ok (.iload 6, 2) := dqU kk_21 (by decide +kernel)
theorem rdX12_feed_20 : decode cX12_feed 20 = .ok (.bipush 20, 2) := dqS kk_16 (by decide +kernel)
theorem rdX12_feed_22 : decode cX12_feed 22 = .ok (.if_icmp .ge 93, 3) := dqT kk_162 (by decide +kernel)
theorem rdX12_feed_25 : decode cX12_feed 25 = .ok (.iload 6, 2) := dqU kk_21 (by decide +kernel)
theorem rdX12_feed_27 : decode cX12_feed 27 = .ok (.iconst 4, 1) := dq0 kk_7 (by decide +kernel)
theorem rdX12_feed_28 : decode cX12_feed 28 = .ok (.if_icmp .ge 7, 3) := dqT kk_162 (by decide +kernel)
theorem rdX12_feed_31 : decode cX12_feed 31 = .ok (.iload_n 1, 1) := dq0 kk_27 (by decide +kernel)
theorem rdX12_feed_32 : decode cX12_feed 32 = .ok (.goto 39, 3) := dqT kk_167 (by decide +kernel)
theorem rdX12_feed_71 : decode cX12_feed 71 = .ok (.istore 7, 2) := dqU kk_54 (by decide +kernel)
theorem rdX12_feed_73 : decode cX12_feed 73 = .ok (.aload_n 0, 1) := dq0 kk_42 (by decide +kernel)
theorem rdX12_feed_74 : decode cX12_feed 74 = .ok (.getfield 23, 3) := dqV kk_180 (by decide +kernel)
theorem rdX12_feed_77 : decode cX12_feed 77 = .ok (.aload_n 0, 1) := dq0 kk_42 (by decide +kernel)
theorem rdX12_feed_78 : decode cX12_feed 78 = .ok (.getfield 169, 3) := dqV kk_180 (by decide +kernel)
theorem rdX12_feed_81 : decode cX12_feed 81 = .ok (.iload 7, 2) := dqU kk_21 (by decide +kernel)
theorem rdX12_feed_83 : decode cX12_feed 83 = .ok (.bipush 24, 2) := dqS kk_16 (by decide +kernel)
theorem rdX12_feed_85 : decode cX12_feed 85 = .ok (.bipush 8, 2) := dqS kk_16 (by decide +kernel)
theorem rdX12_feed_87 : decode cX12_feed 87 = .ok (.iload 6, 2) := dqU kk_21 (by decide +kernel)
theorem rdX12_feed_89 : decode cX12_feed 89 = .ok (.iconst 4, 1) := dq0 kk_7 (by decide +kernel)
theorem rdX12_feed_90 : decode cX12_feed 90 = .ok (.irem, 1) := dq0 kk_112 (by decide +kernel)
theorem rdX12_feed_91 : decode cX12_feed 91 = .ok (.imul, 1) := dq0 kk_104 (by decide +kernel)
theorem rdX12_feed_92 : decode cX12_feed 92 = .ok (.isub, 1) := dq0 kk_100 (by decide +kernel)
theorem rdX12_feed_93 : decode cX12_feed 93 = .ok (.ishr, 1) := dq0 kk_122 (by decide +kernel)
theorem rdX12_feed_94 : decode cX12_feed 94 = .ok (.sipush 255, 3) := dqT kk_17 (by decide +kernel)
theorem rdX12_feed_97 : decode cX12_feed 97 = .ok (.iand, 1) := dq0 kk_126 (by decide +kernel)
theorem rdX12_feed_98 : decode cX12_feed 98 = .ok (.iastore, 1) := dq0 kk_79 (by decide +kernel)
theorem rdX12_feed_99 : decode cX12_feed 99 = .ok (.aload_n 0, 1) := dq0 kk_42 (by decide +kernel)
theorem rdX12_feed_100 : decode cX12_feed 100 = .ok (.dup, 1) := dq0 kk_89 (by decide +kernel)
theorem rdX12_feed_101 : decode cX12_feed 101 = .ok (.getfield 169, 3) := dqV kk_180 (by decide +kernel)
theorem rdX12_feed_104 : decode cX12_feed 104 = .ok (.iconst 1, 1) := dq0 kk_4 (by decide +kernel)
theorem rdX12_feed_105 : decode cX12_feed 105 = .ok (.iadd, 1) := dq0 kk_96 (by decide +kernel)
theorem rdX12_feed_106 : decode cX12_feed 106 = .ok (.putfield 169, 3) := dqV kk_181 (by decide +kernel)
theorem rdX12_feed_109 : decode cX12_feed 109 = .ok (.iinc 6 1, 3) := dqI kk_132 (by decide +kernel)
theorem rdX12_feed_112 : decode cX12_feed 112 = .ok (.goto (-94), 3) := dqT kk_167 (by decide +kernel)
theorem rdX12_feed_35 : decode cX12_feed 35 = .ok (.iload 6, 2) := dqU kk_21 (by decide +kernel)
theorem rdX12_feed_37 : decode cX12_feed 37 = .ok (.bipush 8, 2) := dqS kk_16 (by decide +kernel)
theorem rdX12_feed_39 : decode cX12_feed 39 = .ok (.if_icmp .ge 7, 3) := dqT kk_162 (by decide +kernel)
theorem rdX12_feed_42 : decode cX12_feed 42 = .ok (.iload_n 2, 1) := dq0 kk_28 (by decide +kernel)
theorem rdX12_feed_43 : decode cX12_feed 43 = .ok (.goto 28, 3) := dqT kk_167 (by decide +kernel)
theorem rdX12_feed_46 : decode cX12_feed 46 = .ok (.iload 6, 2) := dqU kk_21 (by decide +kernel)
theorem rdX12_feed_48 : decode cX12_feed 48 = .ok (.bipush 12, 2) := dqS kk_16 (by decide +kernel)
theorem rdX12_feed_50 : decode cX12_feed 50 = .ok (.if_icmp .ge 7, 3) := dqT kk_162 (by decide +kernel)
theorem rdX12_feed_53 : decode cX12_feed 53 = .ok (.iload_n 3, 1) := dq0 kk_29 (by decide +kernel)
theorem rdX12_feed_54 : decode cX12_feed 54 = .ok (.goto 17, 3) := dqT kk_167 (by decide +kernel)
theorem rdX12_feed_57 : decode cX12_feed 57 = .ok (.iload 6, 2) := dqU kk_21 (by decide +kernel)
theorem rdX12_feed_59 : decode cX12_feed 59 = .ok (.bipush 16, 2) := dqS kk_16 (by decide +kernel)
theorem rdX12_feed_61 : decode cX12_feed 61 = .ok (.if_icmp .ge 8, 3) := dqT kk_162 (by decide +kernel)
theorem rdX12_feed_64 : decode cX12_feed 64 = .ok (.iload 4, 2) := dqU kk_21 (by decide +kernel)
theorem rdX12_feed_66 : decode cX12_feed 66 = .ok (.goto 5, 3) := dqT kk_167 (by decide +kernel)
theorem rdX12_feed_69 : decode cX12_feed 69 = .ok (.iload 5, 2) := dqU kk_21 (by decide +kernel)
theorem rdX12_feed_115 : decode cX12_feed 115 = .ok (.aload_n 0, 1) := dq0 kk_42 (by decide +kernel)
theorem rdX12_feed_116 : decode cX12_feed 116 = .ok (.getfield 169, 3) := dqV kk_180 (by decide +kernel)
theorem rdX12_feed_119 : decode cX12_feed 119 = .ok (.ireturn, 1) := dq0 kk_172 (by decide +kernel)
theorem rdX12_feed_13 : decode cX12_feed 13 = .ok (.iconst (-1), 1) := dq0 kk_2 (by decide +kernel)
theorem rdX12_feed_14 : decode cX12_feed 14 = .ok (.ireturn, 1) := dq0 kk_172 (by decide +kernel)
set_option maxRecDepth 4000 in
theorem t_feed {l : Launch} {D : va_G} {B : Nat} {cy : Nat → ClassId} {M : Mem} {T : Nat → Nat} {tn : Nat} (hT : okT T tn) (hTr : isTr M T tn) {z1 z2 z3 z4 z5 : Int} : Ci l D B cy yX12_feed cX12_feed 8 (some .int) 0 0 [.ref (B + 146), .int (zI z1), .int (zI z2), .int (zI z3), .int (zI z4), .int (zI z5)] M (fun r M1 => (300 < tn + 20 ∧ r = zI (-1) ∧ M1 = M) ∨ (tn + 20 ≤ 300 ∧ r = zI ((tn + 20 : Nat) : Int) ∧ isTr M1 (ap20 T tn (zI z1) (zI z2) (zI z3) (zI z4) (zI z5)) (tn + 20) ∧ (∀ a, a ≠ 146 → a ≠ 150 → M1.1 a = M.1 a) ∧ ∀ k, k ≠ 8 → M1.1 146 k = M.1 146 k)) := by
  refine s_any (by decide) (Nat.le_of_ble_eq_true rfl) ?_
  intro p e s m below meth c ls F hr hlocks w hl
  have F : CallFix p m c cX12_feed 8 s _ TB RX12 := F
  have hx := F.1
  have hb := F.2.1
  have hl : lv_has ls 8 [(0, .ref (B + 146)), (1, .int (zI z1)), (2, .int (zI z2)), (3, .int (zI z3)), (4, .int (zI z4)), (5, .int (zI z5))] := hl
  have hN := hT.1
  refine lv_aload_n hx hb rdX12_feed_0 rfl (lv_at hl 0 rfl) ?_
  refine f_12_8 F w (a := 146) rfl rtb_121 rdX12_feed_1 ?_
  refine r_val (v := (zI (tn : Int))) (hTr.1) ?_
  refine lv_bipush (v := zI 20) hx hb rdX12_feed_4 (by decide) ?_
  refine z_iadd (z := (((tn + 20) : Nat) : Int)) hx hb rdX12_feed_6 (by omega) ?_
  refine lv_sipush (v := zI 300) hx hb rdX12_feed_7 (by decide) ?_
  refine z_icmp_le (tgt := 15) hx hb (by omega) (by omega) rdX12_feed_10 (by decide) (fun c1 => ?_) (fun c1 => ?_)
  · refine lv_iconst (v := zI 0) hx hb rdX12_feed_15 rfl ?_
    refine lv_istore (lv' := [(6, .int (zI 0)), (0, .ref (B + 146)), (1, .int (zI z1)), (2, .int (zI z2)), (3, .int (zI z3)), (4, .int (zI z4)), (5, .int (zI z5))]) hx hb rdX12_feed_16 hl (by decide) rfl (fun ls hl => ?_)
    refine lv_iload hx hb rdX12_feed_18 (lv_at hl 0 rfl) ?_
    refine lv_bipush (v := zI 20) hx hb rdX12_feed_20 (by decide) ?_
    refine z_icmp_ge (tgt := 115) hx hb (by omega) (by omega) rdX12_feed_22 (by decide) (fun c2 => False.elim (by omega)) (fun c2 => ?_)
    refine lv_iload hx hb rdX12_feed_25 (lv_at hl 0 rfl) ?_
    refine lv_iconst (v := zI 4) hx hb rdX12_feed_27 rfl ?_
    refine z_icmp_ge (tgt := 35) hx hb (by omega) (by omega) rdX12_feed_28 (by decide) (fun c3 => False.elim (by omega)) (fun c3 => ?_)
    refine lv_iload_n hx hb rdX12_feed_31 rfl (lv_at hl 2 rfl) ?_
    refine lv_goto (tgt := 71) hx hb rdX12_feed_32 (by decide) ?_
    refine lv_istore (lv' := [(7, .int (zI z1)), (6, .int (zI 0)), (0, .ref (B + 146)), (1, .int (zI z1)), (2, .int (zI z2)), (3, .int (zI z3)), (4, .int (zI z4)), (5, .int (zI z5))]) hx hb rdX12_feed_71 hl (by decide) rfl (fun ls hl => ?_)
    refine lv_aload_n hx hb rdX12_feed_73 rfl (lv_at hl 2 rfl) ?_
    refine f_12_7 F w (a := 146) rfl rtb_122 rdX12_feed_74 ?_
    refine lv_aload_n hx hb rdX12_feed_77 rfl (lv_at hl 2 rfl) ?_
    refine f_12_8 F w (a := 146) rfl rtb_121 rdX12_feed_78 ?_
    refine r_val (v := (zI (tn : Int))) (hTr.1) ?_
    refine lv_iload hx hb rdX12_feed_81 (lv_at hl 0 rfl) ?_
    refine lv_bipush (v := zI 24) hx hb rdX12_feed_83 (by decide) ?_
    refine lv_bipush (v := zI 8) hx hb rdX12_feed_85 (by decide) ?_
    refine lv_iload hx hb rdX12_feed_87 (lv_at hl 1 rfl) ?_
    refine lv_iconst (v := zI 4) hx hb rdX12_feed_89 rfl ?_
    refine lv_irem hx hb rdX12_feed_90 (by decide) ?_
    refine r_val (v := zI 0) (by decide) ?_
    refine z_imul (z := 0) hx hb rdX12_feed_91 (by decide) ?_
    refine z_isub (z := 24) hx hb rdX12_feed_92 (by decide) ?_
    refine lv_ishr hx hb rdX12_feed_93 ?_
    refine lv_sipush (v := zI 255) hx hb rdX12_feed_94 (by decide) ?_
    refine lv_iand hx hb rdX12_feed_97 ?_
    refine r_val (v := (zI (((by8 ((zI z1) >>> ((zI 24) &&& 31))) : Nat) : Int))) (by8_and _) ?_
    refine g_iast F w (a := 150) rfl (j := tn) (ix_n (by omega)) (by omega) rdX12_feed_98 (fun H locs w => ?_)
    refine lv_aload_n hx hb rdX12_feed_99 rfl (lv_at hl 2 rfl) ?_
    refine lv_dup hx hb rdX12_feed_100 rfl ?_
    refine f_12_8 F w (a := 146) rfl rtb_121 rdX12_feed_101 ?_
    refine r_val (v := (zI (tn : Int))) ((st_ne (Or.inl (by omega))).trans (hTr.1)) ?_
    refine lv_iconst (v := zI 1) hx hb rdX12_feed_104 rfl ?_
    refine z_iadd (z := (((tn + 1) : Nat) : Int)) hx hb rdX12_feed_105 (by omega) ?_
    refine u_12_8 F w (a := 146) rfl rtb_121 rdX12_feed_106 (fun H locs w => ?_)
    refine z_iinc (v := 1) (lv' := [(6, .int (zI 1)), (7, .int (zI z1)), (0, .ref (B + 146)), (1, .int (zI z1)), (2, .int (zI z2)), (3, .int (zI z3)), (4, .int (zI z4)), (5, .int (zI z5))]) hx hb rdX12_feed_109 hl (k := 1) rfl (by omega) (by decide) rfl (fun ls hl => ?_)
    refine lv_goto (tgt := 18) hx hb rdX12_feed_112 (by decide) ?_
    refine lv_iload hx hb rdX12_feed_18 (lv_at hl 0 rfl) ?_
    refine lv_bipush (v := zI 20) hx hb rdX12_feed_20 (by decide) ?_
    refine z_icmp_ge (tgt := 115) hx hb (by omega) (by omega) rdX12_feed_22 (by decide) (fun c6 => False.elim (by omega)) (fun c6 => ?_)
    refine lv_iload hx hb rdX12_feed_25 (lv_at hl 0 rfl) ?_
    refine lv_iconst (v := zI 4) hx hb rdX12_feed_27 rfl ?_
    refine z_icmp_ge (tgt := 35) hx hb (by omega) (by omega) rdX12_feed_28 (by decide) (fun c7 => False.elim (by omega)) (fun c7 => ?_)
    refine lv_iload_n hx hb rdX12_feed_31 rfl (lv_at hl 3 rfl) ?_
    refine lv_goto (tgt := 71) hx hb rdX12_feed_32 (by decide) ?_
    refine lv_istore (lv' := [(7, .int (zI z1)), (6, .int (zI 1)), (0, .ref (B + 146)), (1, .int (zI z1)), (2, .int (zI z2)), (3, .int (zI z3)), (4, .int (zI z4)), (5, .int (zI z5))]) hx hb rdX12_feed_71 hl (by decide) rfl (fun ls hl => ?_)
    refine lv_aload_n hx hb rdX12_feed_73 rfl (lv_at hl 2 rfl) ?_
    refine f_12_7 F w (a := 146) rfl rtb_122 rdX12_feed_74 ?_
    refine lv_aload_n hx hb rdX12_feed_77 rfl (lv_at hl 2 rfl) ?_
    refine f_12_8 F w (a := 146) rfl rtb_121 rdX12_feed_78 ?_
    refine r_val (v := (zI (((tn + 1) : Nat) : Int))) (st_at) ?_
    refine lv_iload hx hb rdX12_feed_81 (lv_at hl 0 rfl) ?_
    refine lv_bipush (v := zI 24) hx hb rdX12_feed_83 (by decide) ?_
    refine lv_bipush (v := zI 8) hx hb rdX12_feed_85 (by decide) ?_
    refine lv_iload hx hb rdX12_feed_87 (lv_at hl 1 rfl) ?_
    refine lv_iconst (v := zI 4) hx hb rdX12_feed_89 rfl ?_
    refine lv_irem hx hb rdX12_feed_90 (by decide) ?_
    refine r_val (v := zI 1) (by decide) ?_
    refine z_imul (z := 8) hx hb rdX12_feed_91 (by decide) ?_
    refine z_isub (z := 16) hx hb rdX12_feed_92 (by decide) ?_
    refine lv_ishr hx hb rdX12_feed_93 ?_
    refine lv_sipush (v := zI 255) hx hb rdX12_feed_94 (by decide) ?_
    refine lv_iand hx hb rdX12_feed_97 ?_
    refine r_val (v := (zI (((by8 ((zI z1) >>> ((zI 16) &&& 31))) : Nat) : Int))) (by8_and _) ?_
    refine g_iast F w (a := 150) rfl (j := (tn + 1)) (ix_n (by omega)) (by omega) rdX12_feed_98 (fun H locs w => ?_)
    refine lv_aload_n hx hb rdX12_feed_99 rfl (lv_at hl 2 rfl) ?_
    refine lv_dup hx hb rdX12_feed_100 rfl ?_
    refine f_12_8 F w (a := 146) rfl rtb_121 rdX12_feed_101 ?_
    refine r_val (v := (zI (((tn + 1) : Nat) : Int))) ((st_ne (Or.inl (by omega))).trans st_at) ?_
    refine lv_iconst (v := zI 1) hx hb rdX12_feed_104 rfl ?_
    refine z_iadd (z := ((((tn + 1) + 1) : Nat) : Int)) hx hb rdX12_feed_105 (by omega) ?_
    refine u_12_8 F w (a := 146) rfl rtb_121 rdX12_feed_106 (fun H locs w => ?_)
    refine z_iinc (v := 2) (lv' := [(6, .int (zI 2)), (7, .int (zI z1)), (0, .ref (B + 146)), (1, .int (zI z1)), (2, .int (zI z2)), (3, .int (zI z3)), (4, .int (zI z4)), (5, .int (zI z5))]) hx hb rdX12_feed_109 hl (k := 1) rfl (by omega) (by decide) rfl (fun ls hl => ?_)
    refine lv_goto (tgt := 18) hx hb rdX12_feed_112 (by decide) ?_
    refine lv_iload hx hb rdX12_feed_18 (lv_at hl 0 rfl) ?_
    refine lv_bipush (v := zI 20) hx hb rdX12_feed_20 (by decide) ?_
    refine z_icmp_ge (tgt := 115) hx hb (by omega) (by omega) rdX12_feed_22 (by decide) (fun c10 => False.elim (by omega)) (fun c10 => ?_)
    refine lv_iload hx hb rdX12_feed_25 (lv_at hl 0 rfl) ?_
    refine lv_iconst (v := zI 4) hx hb rdX12_feed_27 rfl ?_
    refine z_icmp_ge (tgt := 35) hx hb (by omega) (by omega) rdX12_feed_28 (by decide) (fun c11 => False.elim (by omega)) (fun c11 => ?_)
    refine lv_iload_n hx hb rdX12_feed_31 rfl (lv_at hl 3 rfl) ?_
    refine lv_goto (tgt := 71) hx hb rdX12_feed_32 (by decide) ?_
    refine lv_istore (lv' := [(7, .int (zI z1)), (6, .int (zI 2)), (0, .ref (B + 146)), (1, .int (zI z1)), (2, .int (zI z2)), (3, .int (zI z3)), (4, .int (zI z4)), (5, .int (zI z5))]) hx hb rdX12_feed_71 hl (by decide) rfl (fun ls hl => ?_)
    refine lv_aload_n hx hb rdX12_feed_73 rfl (lv_at hl 2 rfl) ?_
    refine f_12_7 F w (a := 146) rfl rtb_122 rdX12_feed_74 ?_
    refine lv_aload_n hx hb rdX12_feed_77 rfl (lv_at hl 2 rfl) ?_
    refine f_12_8 F w (a := 146) rfl rtb_121 rdX12_feed_78 ?_
    refine r_val (v := (zI ((((tn + 1) + 1) : Nat) : Int))) (st_at) ?_
    refine lv_iload hx hb rdX12_feed_81 (lv_at hl 0 rfl) ?_
    refine lv_bipush (v := zI 24) hx hb rdX12_feed_83 (by decide) ?_
    refine lv_bipush (v := zI 8) hx hb rdX12_feed_85 (by decide) ?_
    refine lv_iload hx hb rdX12_feed_87 (lv_at hl 1 rfl) ?_
    refine lv_iconst (v := zI 4) hx hb rdX12_feed_89 rfl ?_
    refine lv_irem hx hb rdX12_feed_90 (by decide) ?_
    refine r_val (v := zI 2) (by decide) ?_
    refine z_imul (z := 16) hx hb rdX12_feed_91 (by decide) ?_
    refine z_isub (z := 8) hx hb rdX12_feed_92 (by decide) ?_
    refine lv_ishr hx hb rdX12_feed_93 ?_
    refine lv_sipush (v := zI 255) hx hb rdX12_feed_94 (by decide) ?_
    refine lv_iand hx hb rdX12_feed_97 ?_
    refine r_val (v := (zI (((by8 ((zI z1) >>> ((zI 8) &&& 31))) : Nat) : Int))) (by8_and _) ?_
    refine g_iast F w (a := 150) rfl (j := ((tn + 1) + 1)) (ix_n (by omega)) (by omega) rdX12_feed_98 (fun H locs w => ?_)
    refine lv_aload_n hx hb rdX12_feed_99 rfl (lv_at hl 2 rfl) ?_
    refine lv_dup hx hb rdX12_feed_100 rfl ?_
    refine f_12_8 F w (a := 146) rfl rtb_121 rdX12_feed_101 ?_
    refine r_val (v := (zI ((((tn + 1) + 1) : Nat) : Int))) ((st_ne (Or.inl (by omega))).trans st_at) ?_
    refine lv_iconst (v := zI 1) hx hb rdX12_feed_104 rfl ?_
    refine z_iadd (z := (((((tn + 1) + 1) + 1) : Nat) : Int)) hx hb rdX12_feed_105 (by omega) ?_
    refine u_12_8 F w (a := 146) rfl rtb_121 rdX12_feed_106 (fun H locs w => ?_)
    refine z_iinc (v := 3) (lv' := [(6, .int (zI 3)), (7, .int (zI z1)), (0, .ref (B + 146)), (1, .int (zI z1)), (2, .int (zI z2)), (3, .int (zI z3)), (4, .int (zI z4)), (5, .int (zI z5))]) hx hb rdX12_feed_109 hl (k := 1) rfl (by omega) (by decide) rfl (fun ls hl => ?_)
    refine lv_goto (tgt := 18) hx hb rdX12_feed_112 (by decide) ?_
    refine lv_iload hx hb rdX12_feed_18 (lv_at hl 0 rfl) ?_
    refine lv_bipush (v := zI 20) hx hb rdX12_feed_20 (by decide) ?_
    refine z_icmp_ge (tgt := 115) hx hb (by omega) (by omega) rdX12_feed_22 (by decide) (fun c14 => False.elim (by omega)) (fun c14 => ?_)
    refine lv_iload hx hb rdX12_feed_25 (lv_at hl 0 rfl) ?_
    refine lv_iconst (v := zI 4) hx hb rdX12_feed_27 rfl ?_
    refine z_icmp_ge (tgt := 35) hx hb (by omega) (by omega) rdX12_feed_28 (by decide) (fun c15 => False.elim (by omega)) (fun c15 => ?_)
    refine lv_iload_n hx hb rdX12_feed_31 rfl (lv_at hl 3 rfl) ?_
    refine lv_goto (tgt := 71) hx hb rdX12_feed_32 (by decide) ?_
    refine lv_istore (lv' := [(7, .int (zI z1)), (6, .int (zI 3)), (0, .ref (B + 146)), (1, .int (zI z1)), (2, .int (zI z2)), (3, .int (zI z3)), (4, .int (zI z4)), (5, .int (zI z5))]) hx hb rdX12_feed_71 hl (by decide) rfl (fun ls hl => ?_)
    refine lv_aload_n hx hb rdX12_feed_73 rfl (lv_at hl 2 rfl) ?_
    refine f_12_7 F w (a := 146) rfl rtb_122 rdX12_feed_74 ?_
    refine lv_aload_n hx hb rdX12_feed_77 rfl (lv_at hl 2 rfl) ?_
    refine f_12_8 F w (a := 146) rfl rtb_121 rdX12_feed_78 ?_
    refine r_val (v := (zI (((((tn + 1) + 1) + 1) : Nat) : Int))) (st_at) ?_
    refine lv_iload hx hb rdX12_feed_81 (lv_at hl 0 rfl) ?_
    refine lv_bipush (v := zI 24) hx hb rdX12_feed_83 (by decide) ?_
    refine lv_bipush (v := zI 8) hx hb rdX12_feed_85 (by decide) ?_
    refine lv_iload hx hb rdX12_feed_87 (lv_at hl 1 rfl) ?_
    refine lv_iconst (v := zI 4) hx hb rdX12_feed_89 rfl ?_
    refine lv_irem hx hb rdX12_feed_90 (by decide) ?_
    refine r_val (v := zI 3) (by decide) ?_
    refine z_imul (z := 24) hx hb rdX12_feed_91 (by decide) ?_
    refine z_isub (z := 0) hx hb rdX12_feed_92 (by decide) ?_
    refine lv_ishr hx hb rdX12_feed_93 ?_
    refine lv_sipush (v := zI 255) hx hb rdX12_feed_94 (by decide) ?_
    refine lv_iand hx hb rdX12_feed_97 ?_
    refine r_val (v := (zI (((by8 ((zI z1) >>> ((zI 0) &&& 31))) : Nat) : Int))) (by8_and _) ?_
    refine g_iast F w (a := 150) rfl (j := (((tn + 1) + 1) + 1)) (ix_n (by omega)) (by omega) rdX12_feed_98 (fun H locs w => ?_)
    refine lv_aload_n hx hb rdX12_feed_99 rfl (lv_at hl 2 rfl) ?_
    refine lv_dup hx hb rdX12_feed_100 rfl ?_
    refine f_12_8 F w (a := 146) rfl rtb_121 rdX12_feed_101 ?_
    refine r_val (v := (zI (((((tn + 1) + 1) + 1) : Nat) : Int))) ((st_ne (Or.inl (by omega))).trans st_at) ?_
    refine lv_iconst (v := zI 1) hx hb rdX12_feed_104 rfl ?_
    refine z_iadd (z := ((((((tn + 1) + 1) + 1) + 1) : Nat) : Int)) hx hb rdX12_feed_105 (by omega) ?_
    refine u_12_8 F w (a := 146) rfl rtb_121 rdX12_feed_106 (fun H locs w => ?_)
    refine z_iinc (v := 4) (lv' := [(6, .int (zI 4)), (7, .int (zI z1)), (0, .ref (B + 146)), (1, .int (zI z1)), (2, .int (zI z2)), (3, .int (zI z3)), (4, .int (zI z4)), (5, .int (zI z5))]) hx hb rdX12_feed_109 hl (k := 1) rfl (by omega) (by decide) rfl (fun ls hl => ?_)
    refine lv_goto (tgt := 18) hx hb rdX12_feed_112 (by decide) ?_
    refine lv_iload hx hb rdX12_feed_18 (lv_at hl 0 rfl) ?_
    refine lv_bipush (v := zI 20) hx hb rdX12_feed_20 (by decide) ?_
    refine z_icmp_ge (tgt := 115) hx hb (by omega) (by omega) rdX12_feed_22 (by decide) (fun c18 => False.elim (by omega)) (fun c18 => ?_)
    refine lv_iload hx hb rdX12_feed_25 (lv_at hl 0 rfl) ?_
    refine lv_iconst (v := zI 4) hx hb rdX12_feed_27 rfl ?_
    refine z_icmp_ge (tgt := 35) hx hb (by omega) (by omega) rdX12_feed_28 (by decide) (fun c19 => ?_) (fun c19 => False.elim (by omega))
    refine lv_iload hx hb rdX12_feed_35 (lv_at hl 0 rfl) ?_
    refine lv_bipush (v := zI 8) hx hb rdX12_feed_37 (by decide) ?_
    refine z_icmp_ge (tgt := 46) hx hb (by omega) (by omega) rdX12_feed_39 (by decide) (fun c20 => False.elim (by omega)) (fun c20 => ?_)
    refine lv_iload_n hx hb rdX12_feed_42 rfl (lv_at hl 4 rfl) ?_
    refine lv_goto (tgt := 71) hx hb rdX12_feed_43 (by decide) ?_
    refine lv_istore (lv' := [(7, .int (zI z2)), (6, .int (zI 4)), (0, .ref (B + 146)), (1, .int (zI z1)), (2, .int (zI z2)), (3, .int (zI z3)), (4, .int (zI z4)), (5, .int (zI z5))]) hx hb rdX12_feed_71 hl (by decide) rfl (fun ls hl => ?_)
    refine lv_aload_n hx hb rdX12_feed_73 rfl (lv_at hl 2 rfl) ?_
    refine f_12_7 F w (a := 146) rfl rtb_122 rdX12_feed_74 ?_
    refine lv_aload_n hx hb rdX12_feed_77 rfl (lv_at hl 2 rfl) ?_
    refine f_12_8 F w (a := 146) rfl rtb_121 rdX12_feed_78 ?_
    refine r_val (v := (zI ((((((tn + 1) + 1) + 1) + 1) : Nat) : Int))) (st_at) ?_
    refine lv_iload hx hb rdX12_feed_81 (lv_at hl 0 rfl) ?_
    refine lv_bipush (v := zI 24) hx hb rdX12_feed_83 (by decide) ?_
    refine lv_bipush (v := zI 8) hx hb rdX12_feed_85 (by decide) ?_
    refine lv_iload hx hb rdX12_feed_87 (lv_at hl 1 rfl) ?_
    refine lv_iconst (v := zI 4) hx hb rdX12_feed_89 rfl ?_
    refine lv_irem hx hb rdX12_feed_90 (by decide) ?_
    refine r_val (v := zI 0) (by decide) ?_
    refine z_imul (z := 0) hx hb rdX12_feed_91 (by decide) ?_
    refine z_isub (z := 24) hx hb rdX12_feed_92 (by decide) ?_
    refine lv_ishr hx hb rdX12_feed_93 ?_
    refine lv_sipush (v := zI 255) hx hb rdX12_feed_94 (by decide) ?_
    refine lv_iand hx hb rdX12_feed_97 ?_
    refine r_val (v := (zI (((by8 ((zI z2) >>> ((zI 24) &&& 31))) : Nat) : Int))) (by8_and _) ?_
    refine g_iast F w (a := 150) rfl (j := ((((tn + 1) + 1) + 1) + 1)) (ix_n (by omega)) (by omega) rdX12_feed_98 (fun H locs w => ?_)
    refine lv_aload_n hx hb rdX12_feed_99 rfl (lv_at hl 2 rfl) ?_
    refine lv_dup hx hb rdX12_feed_100 rfl ?_
    refine f_12_8 F w (a := 146) rfl rtb_121 rdX12_feed_101 ?_
    refine r_val (v := (zI ((((((tn + 1) + 1) + 1) + 1) : Nat) : Int))) ((st_ne (Or.inl (by omega))).trans st_at) ?_
    refine lv_iconst (v := zI 1) hx hb rdX12_feed_104 rfl ?_
    refine z_iadd (z := (((((((tn + 1) + 1) + 1) + 1) + 1) : Nat) : Int)) hx hb rdX12_feed_105 (by omega) ?_
    refine u_12_8 F w (a := 146) rfl rtb_121 rdX12_feed_106 (fun H locs w => ?_)
    refine z_iinc (v := 5) (lv' := [(6, .int (zI 5)), (7, .int (zI z2)), (0, .ref (B + 146)), (1, .int (zI z1)), (2, .int (zI z2)), (3, .int (zI z3)), (4, .int (zI z4)), (5, .int (zI z5))]) hx hb rdX12_feed_109 hl (k := 1) rfl (by omega) (by decide) rfl (fun ls hl => ?_)
    refine lv_goto (tgt := 18) hx hb rdX12_feed_112 (by decide) ?_
    refine lv_iload hx hb rdX12_feed_18 (lv_at hl 0 rfl) ?_
    refine lv_bipush (v := zI 20) hx hb rdX12_feed_20 (by decide) ?_
    refine z_icmp_ge (tgt := 115) hx hb (by omega) (by omega) rdX12_feed_22 (by decide) (fun c23 => False.elim (by omega)) (fun c23 => ?_)
    refine lv_iload hx hb rdX12_feed_25 (lv_at hl 0 rfl) ?_
    refine lv_iconst (v := zI 4) hx hb rdX12_feed_27 rfl ?_
    refine z_icmp_ge (tgt := 35) hx hb (by omega) (by omega) rdX12_feed_28 (by decide) (fun c24 => ?_) (fun c24 => False.elim (by omega))
    refine lv_iload hx hb rdX12_feed_35 (lv_at hl 0 rfl) ?_
    refine lv_bipush (v := zI 8) hx hb rdX12_feed_37 (by decide) ?_
    refine z_icmp_ge (tgt := 46) hx hb (by omega) (by omega) rdX12_feed_39 (by decide) (fun c25 => False.elim (by omega)) (fun c25 => ?_)
    refine lv_iload_n hx hb rdX12_feed_42 rfl (lv_at hl 4 rfl) ?_
    refine lv_goto (tgt := 71) hx hb rdX12_feed_43 (by decide) ?_
    refine lv_istore (lv' := [(7, .int (zI z2)), (6, .int (zI 5)), (0, .ref (B + 146)), (1, .int (zI z1)), (2, .int (zI z2)), (3, .int (zI z3)), (4, .int (zI z4)), (5, .int (zI z5))]) hx hb rdX12_feed_71 hl (by decide) rfl (fun ls hl => ?_)
    refine lv_aload_n hx hb rdX12_feed_73 rfl (lv_at hl 2 rfl) ?_
    refine f_12_7 F w (a := 146) rfl rtb_122 rdX12_feed_74 ?_
    refine lv_aload_n hx hb rdX12_feed_77 rfl (lv_at hl 2 rfl) ?_
    refine f_12_8 F w (a := 146) rfl rtb_121 rdX12_feed_78 ?_
    refine r_val (v := (zI (((((((tn + 1) + 1) + 1) + 1) + 1) : Nat) : Int))) (st_at) ?_
    refine lv_iload hx hb rdX12_feed_81 (lv_at hl 0 rfl) ?_
    refine lv_bipush (v := zI 24) hx hb rdX12_feed_83 (by decide) ?_
    refine lv_bipush (v := zI 8) hx hb rdX12_feed_85 (by decide) ?_
    refine lv_iload hx hb rdX12_feed_87 (lv_at hl 1 rfl) ?_
    refine lv_iconst (v := zI 4) hx hb rdX12_feed_89 rfl ?_
    refine lv_irem hx hb rdX12_feed_90 (by decide) ?_
    refine r_val (v := zI 1) (by decide) ?_
    refine z_imul (z := 8) hx hb rdX12_feed_91 (by decide) ?_
    refine z_isub (z := 16) hx hb rdX12_feed_92 (by decide) ?_
    refine lv_ishr hx hb rdX12_feed_93 ?_
    refine lv_sipush (v := zI 255) hx hb rdX12_feed_94 (by decide) ?_
    refine lv_iand hx hb rdX12_feed_97 ?_
    refine r_val (v := (zI (((by8 ((zI z2) >>> ((zI 16) &&& 31))) : Nat) : Int))) (by8_and _) ?_
    refine g_iast F w (a := 150) rfl (j := (((((tn + 1) + 1) + 1) + 1) + 1)) (ix_n (by omega)) (by omega) rdX12_feed_98 (fun H locs w => ?_)
    refine lv_aload_n hx hb rdX12_feed_99 rfl (lv_at hl 2 rfl) ?_
    refine lv_dup hx hb rdX12_feed_100 rfl ?_
    refine f_12_8 F w (a := 146) rfl rtb_121 rdX12_feed_101 ?_
    refine r_val (v := (zI (((((((tn + 1) + 1) + 1) + 1) + 1) : Nat) : Int))) ((st_ne (Or.inl (by omega))).trans st_at) ?_
    refine lv_iconst (v := zI 1) hx hb rdX12_feed_104 rfl ?_
    refine z_iadd (z := ((((((((tn + 1) + 1) + 1) + 1) + 1) + 1) : Nat) : Int)) hx hb rdX12_feed_105 (by omega) ?_
    refine u_12_8 F w (a := 146) rfl rtb_121 rdX12_feed_106 (fun H locs w => ?_)
    refine z_iinc (v := 6) (lv' := [(6, .int (zI 6)), (7, .int (zI z2)), (0, .ref (B + 146)), (1, .int (zI z1)), (2, .int (zI z2)), (3, .int (zI z3)), (4, .int (zI z4)), (5, .int (zI z5))]) hx hb rdX12_feed_109 hl (k := 1) rfl (by omega) (by decide) rfl (fun ls hl => ?_)
    refine lv_goto (tgt := 18) hx hb rdX12_feed_112 (by decide) ?_
    refine lv_iload hx hb rdX12_feed_18 (lv_at hl 0 rfl) ?_
    refine lv_bipush (v := zI 20) hx hb rdX12_feed_20 (by decide) ?_
    refine z_icmp_ge (tgt := 115) hx hb (by omega) (by omega) rdX12_feed_22 (by decide) (fun c28 => False.elim (by omega)) (fun c28 => ?_)
    refine lv_iload hx hb rdX12_feed_25 (lv_at hl 0 rfl) ?_
    refine lv_iconst (v := zI 4) hx hb rdX12_feed_27 rfl ?_
    refine z_icmp_ge (tgt := 35) hx hb (by omega) (by omega) rdX12_feed_28 (by decide) (fun c29 => ?_) (fun c29 => False.elim (by omega))
    refine lv_iload hx hb rdX12_feed_35 (lv_at hl 0 rfl) ?_
    refine lv_bipush (v := zI 8) hx hb rdX12_feed_37 (by decide) ?_
    refine z_icmp_ge (tgt := 46) hx hb (by omega) (by omega) rdX12_feed_39 (by decide) (fun c30 => False.elim (by omega)) (fun c30 => ?_)
    refine lv_iload_n hx hb rdX12_feed_42 rfl (lv_at hl 4 rfl) ?_
    refine lv_goto (tgt := 71) hx hb rdX12_feed_43 (by decide) ?_
    refine lv_istore (lv' := [(7, .int (zI z2)), (6, .int (zI 6)), (0, .ref (B + 146)), (1, .int (zI z1)), (2, .int (zI z2)), (3, .int (zI z3)), (4, .int (zI z4)), (5, .int (zI z5))]) hx hb rdX12_feed_71 hl (by decide) rfl (fun ls hl => ?_)
    refine lv_aload_n hx hb rdX12_feed_73 rfl (lv_at hl 2 rfl) ?_
    refine f_12_7 F w (a := 146) rfl rtb_122 rdX12_feed_74 ?_
    refine lv_aload_n hx hb rdX12_feed_77 rfl (lv_at hl 2 rfl) ?_
    refine f_12_8 F w (a := 146) rfl rtb_121 rdX12_feed_78 ?_
    refine r_val (v := (zI ((((((((tn + 1) + 1) + 1) + 1) + 1) + 1) : Nat) : Int))) (st_at) ?_
    refine lv_iload hx hb rdX12_feed_81 (lv_at hl 0 rfl) ?_
    refine lv_bipush (v := zI 24) hx hb rdX12_feed_83 (by decide) ?_
    refine lv_bipush (v := zI 8) hx hb rdX12_feed_85 (by decide) ?_
    refine lv_iload hx hb rdX12_feed_87 (lv_at hl 1 rfl) ?_
    refine lv_iconst (v := zI 4) hx hb rdX12_feed_89 rfl ?_
    refine lv_irem hx hb rdX12_feed_90 (by decide) ?_
    refine r_val (v := zI 2) (by decide) ?_
    refine z_imul (z := 16) hx hb rdX12_feed_91 (by decide) ?_
    refine z_isub (z := 8) hx hb rdX12_feed_92 (by decide) ?_
    refine lv_ishr hx hb rdX12_feed_93 ?_
    refine lv_sipush (v := zI 255) hx hb rdX12_feed_94 (by decide) ?_
    refine lv_iand hx hb rdX12_feed_97 ?_
    refine r_val (v := (zI (((by8 ((zI z2) >>> ((zI 8) &&& 31))) : Nat) : Int))) (by8_and _) ?_
    refine g_iast F w (a := 150) rfl (j := ((((((tn + 1) + 1) + 1) + 1) + 1) + 1)) (ix_n (by omega)) (by omega) rdX12_feed_98 (fun H locs w => ?_)
    refine lv_aload_n hx hb rdX12_feed_99 rfl (lv_at hl 2 rfl) ?_
    refine lv_dup hx hb rdX12_feed_100 rfl ?_
    refine f_12_8 F w (a := 146) rfl rtb_121 rdX12_feed_101 ?_
    refine r_val (v := (zI ((((((((tn + 1) + 1) + 1) + 1) + 1) + 1) : Nat) : Int))) ((st_ne (Or.inl (by omega))).trans st_at) ?_
    refine lv_iconst (v := zI 1) hx hb rdX12_feed_104 rfl ?_
    refine z_iadd (z := (((((((((tn + 1) + 1) + 1) + 1) + 1) + 1) + 1) : Nat) : Int)) hx hb rdX12_feed_105 (by omega) ?_
    refine u_12_8 F w (a := 146) rfl rtb_121 rdX12_feed_106 (fun H locs w => ?_)
    refine z_iinc (v := 7) (lv' := [(6, .int (zI 7)), (7, .int (zI z2)), (0, .ref (B + 146)), (1, .int (zI z1)), (2, .int (zI z2)), (3, .int (zI z3)), (4, .int (zI z4)), (5, .int (zI z5))]) hx hb rdX12_feed_109 hl (k := 1) rfl (by omega) (by decide) rfl (fun ls hl => ?_)
    refine lv_goto (tgt := 18) hx hb rdX12_feed_112 (by decide) ?_
    refine lv_iload hx hb rdX12_feed_18 (lv_at hl 0 rfl) ?_
    refine lv_bipush (v := zI 20) hx hb rdX12_feed_20 (by decide) ?_
    refine z_icmp_ge (tgt := 115) hx hb (by omega) (by omega) rdX12_feed_22 (by decide) (fun c33 => False.elim (by omega)) (fun c33 => ?_)
    refine lv_iload hx hb rdX12_feed_25 (lv_at hl 0 rfl) ?_
    refine lv_iconst (v := zI 4) hx hb rdX12_feed_27 rfl ?_
    refine z_icmp_ge (tgt := 35) hx hb (by omega) (by omega) rdX12_feed_28 (by decide) (fun c34 => ?_) (fun c34 => False.elim (by omega))
    refine lv_iload hx hb rdX12_feed_35 (lv_at hl 0 rfl) ?_
    refine lv_bipush (v := zI 8) hx hb rdX12_feed_37 (by decide) ?_
    refine z_icmp_ge (tgt := 46) hx hb (by omega) (by omega) rdX12_feed_39 (by decide) (fun c35 => False.elim (by omega)) (fun c35 => ?_)
    refine lv_iload_n hx hb rdX12_feed_42 rfl (lv_at hl 4 rfl) ?_
    refine lv_goto (tgt := 71) hx hb rdX12_feed_43 (by decide) ?_
    refine lv_istore (lv' := [(7, .int (zI z2)), (6, .int (zI 7)), (0, .ref (B + 146)), (1, .int (zI z1)), (2, .int (zI z2)), (3, .int (zI z3)), (4, .int (zI z4)), (5, .int (zI z5))]) hx hb rdX12_feed_71 hl (by decide) rfl (fun ls hl => ?_)
    refine lv_aload_n hx hb rdX12_feed_73 rfl (lv_at hl 2 rfl) ?_
    refine f_12_7 F w (a := 146) rfl rtb_122 rdX12_feed_74 ?_
    refine lv_aload_n hx hb rdX12_feed_77 rfl (lv_at hl 2 rfl) ?_
    refine f_12_8 F w (a := 146) rfl rtb_121 rdX12_feed_78 ?_
    refine r_val (v := (zI (((((((((tn + 1) + 1) + 1) + 1) + 1) + 1) + 1) : Nat) : Int))) (st_at) ?_
    refine lv_iload hx hb rdX12_feed_81 (lv_at hl 0 rfl) ?_
    refine lv_bipush (v := zI 24) hx hb rdX12_feed_83 (by decide) ?_
    refine lv_bipush (v := zI 8) hx hb rdX12_feed_85 (by decide) ?_
    refine lv_iload hx hb rdX12_feed_87 (lv_at hl 1 rfl) ?_
    refine lv_iconst (v := zI 4) hx hb rdX12_feed_89 rfl ?_
    refine lv_irem hx hb rdX12_feed_90 (by decide) ?_
    refine r_val (v := zI 3) (by decide) ?_
    refine z_imul (z := 24) hx hb rdX12_feed_91 (by decide) ?_
    refine z_isub (z := 0) hx hb rdX12_feed_92 (by decide) ?_
    refine lv_ishr hx hb rdX12_feed_93 ?_
    refine lv_sipush (v := zI 255) hx hb rdX12_feed_94 (by decide) ?_
    refine lv_iand hx hb rdX12_feed_97 ?_
    refine r_val (v := (zI (((by8 ((zI z2) >>> ((zI 0) &&& 31))) : Nat) : Int))) (by8_and _) ?_
    refine g_iast F w (a := 150) rfl (j := (((((((tn + 1) + 1) + 1) + 1) + 1) + 1) + 1)) (ix_n (by omega)) (by omega) rdX12_feed_98 (fun H locs w => ?_)
    refine lv_aload_n hx hb rdX12_feed_99 rfl (lv_at hl 2 rfl) ?_
    refine lv_dup hx hb rdX12_feed_100 rfl ?_
    refine f_12_8 F w (a := 146) rfl rtb_121 rdX12_feed_101 ?_
    refine r_val (v := (zI (((((((((tn + 1) + 1) + 1) + 1) + 1) + 1) + 1) : Nat) : Int))) ((st_ne (Or.inl (by omega))).trans st_at) ?_
    refine lv_iconst (v := zI 1) hx hb rdX12_feed_104 rfl ?_
    refine z_iadd (z := ((((((((((tn + 1) + 1) + 1) + 1) + 1) + 1) + 1) + 1) : Nat) : Int)) hx hb rdX12_feed_105 (by omega) ?_
    refine u_12_8 F w (a := 146) rfl rtb_121 rdX12_feed_106 (fun H locs w => ?_)
    refine z_iinc (v := 8) (lv' := [(6, .int (zI 8)), (7, .int (zI z2)), (0, .ref (B + 146)), (1, .int (zI z1)), (2, .int (zI z2)), (3, .int (zI z3)), (4, .int (zI z4)), (5, .int (zI z5))]) hx hb rdX12_feed_109 hl (k := 1) rfl (by omega) (by decide) rfl (fun ls hl => ?_)
    refine lv_goto (tgt := 18) hx hb rdX12_feed_112 (by decide) ?_
    refine lv_iload hx hb rdX12_feed_18 (lv_at hl 0 rfl) ?_
    refine lv_bipush (v := zI 20) hx hb rdX12_feed_20 (by decide) ?_
    refine z_icmp_ge (tgt := 115) hx hb (by omega) (by omega) rdX12_feed_22 (by decide) (fun c38 => False.elim (by omega)) (fun c38 => ?_)
    refine lv_iload hx hb rdX12_feed_25 (lv_at hl 0 rfl) ?_
    refine lv_iconst (v := zI 4) hx hb rdX12_feed_27 rfl ?_
    refine z_icmp_ge (tgt := 35) hx hb (by omega) (by omega) rdX12_feed_28 (by decide) (fun c39 => ?_) (fun c39 => False.elim (by omega))
    refine lv_iload hx hb rdX12_feed_35 (lv_at hl 0 rfl) ?_
    refine lv_bipush (v := zI 8) hx hb rdX12_feed_37 (by decide) ?_
    refine z_icmp_ge (tgt := 46) hx hb (by omega) (by omega) rdX12_feed_39 (by decide) (fun c40 => ?_) (fun c40 => False.elim (by omega))
    refine lv_iload hx hb rdX12_feed_46 (lv_at hl 0 rfl) ?_
    refine lv_bipush (v := zI 12) hx hb rdX12_feed_48 (by decide) ?_
    refine z_icmp_ge (tgt := 57) hx hb (by omega) (by omega) rdX12_feed_50 (by decide) (fun c41 => False.elim (by omega)) (fun c41 => ?_)
    refine lv_iload_n hx hb rdX12_feed_53 rfl (lv_at hl 5 rfl) ?_
    refine lv_goto (tgt := 71) hx hb rdX12_feed_54 (by decide) ?_
    refine lv_istore (lv' := [(7, .int (zI z3)), (6, .int (zI 8)), (0, .ref (B + 146)), (1, .int (zI z1)), (2, .int (zI z2)), (3, .int (zI z3)), (4, .int (zI z4)), (5, .int (zI z5))]) hx hb rdX12_feed_71 hl (by decide) rfl (fun ls hl => ?_)
    refine lv_aload_n hx hb rdX12_feed_73 rfl (lv_at hl 2 rfl) ?_
    refine f_12_7 F w (a := 146) rfl rtb_122 rdX12_feed_74 ?_
    refine lv_aload_n hx hb rdX12_feed_77 rfl (lv_at hl 2 rfl) ?_
    refine f_12_8 F w (a := 146) rfl rtb_121 rdX12_feed_78 ?_
    refine r_val (v := (zI ((((((((((tn + 1) + 1) + 1) + 1) + 1) + 1) + 1) + 1) : Nat) : Int))) (st_at) ?_
    refine lv_iload hx hb rdX12_feed_81 (lv_at hl 0 rfl) ?_
    refine lv_bipush (v := zI 24) hx hb rdX12_feed_83 (by decide) ?_
    refine lv_bipush (v := zI 8) hx hb rdX12_feed_85 (by decide) ?_
    refine lv_iload hx hb rdX12_feed_87 (lv_at hl 1 rfl) ?_
    refine lv_iconst (v := zI 4) hx hb rdX12_feed_89 rfl ?_
    refine lv_irem hx hb rdX12_feed_90 (by decide) ?_
    refine r_val (v := zI 0) (by decide) ?_
    refine z_imul (z := 0) hx hb rdX12_feed_91 (by decide) ?_
    refine z_isub (z := 24) hx hb rdX12_feed_92 (by decide) ?_
    refine lv_ishr hx hb rdX12_feed_93 ?_
    refine lv_sipush (v := zI 255) hx hb rdX12_feed_94 (by decide) ?_
    refine lv_iand hx hb rdX12_feed_97 ?_
    refine r_val (v := (zI (((by8 ((zI z3) >>> ((zI 24) &&& 31))) : Nat) : Int))) (by8_and _) ?_
    refine g_iast F w (a := 150) rfl (j := ((((((((tn + 1) + 1) + 1) + 1) + 1) + 1) + 1) + 1)) (ix_n (by omega)) (by omega) rdX12_feed_98 (fun H locs w => ?_)
    refine lv_aload_n hx hb rdX12_feed_99 rfl (lv_at hl 2 rfl) ?_
    refine lv_dup hx hb rdX12_feed_100 rfl ?_
    refine f_12_8 F w (a := 146) rfl rtb_121 rdX12_feed_101 ?_
    refine r_val (v := (zI ((((((((((tn + 1) + 1) + 1) + 1) + 1) + 1) + 1) + 1) : Nat) : Int))) ((st_ne (Or.inl (by omega))).trans st_at) ?_
    refine lv_iconst (v := zI 1) hx hb rdX12_feed_104 rfl ?_
    refine z_iadd (z := (((((((((((tn + 1) + 1) + 1) + 1) + 1) + 1) + 1) + 1) + 1) : Nat) : Int)) hx hb rdX12_feed_105 (by omega) ?_
    refine u_12_8 F w (a := 146) rfl rtb_121 rdX12_feed_106 (fun H locs w => ?_)
    refine z_iinc (v := 9) (lv' := [(6, .int (zI 9)), (7, .int (zI z3)), (0, .ref (B + 146)), (1, .int (zI z1)), (2, .int (zI z2)), (3, .int (zI z3)), (4, .int (zI z4)), (5, .int (zI z5))]) hx hb rdX12_feed_109 hl (k := 1) rfl (by omega) (by decide) rfl (fun ls hl => ?_)
    refine lv_goto (tgt := 18) hx hb rdX12_feed_112 (by decide) ?_
    refine lv_iload hx hb rdX12_feed_18 (lv_at hl 0 rfl) ?_
    refine lv_bipush (v := zI 20) hx hb rdX12_feed_20 (by decide) ?_
    refine z_icmp_ge (tgt := 115) hx hb (by omega) (by omega) rdX12_feed_22 (by decide) (fun c44 => False.elim (by omega)) (fun c44 => ?_)
    refine lv_iload hx hb rdX12_feed_25 (lv_at hl 0 rfl) ?_
    refine lv_iconst (v := zI 4) hx hb rdX12_feed_27 rfl ?_
    refine z_icmp_ge (tgt := 35) hx hb (by omega) (by omega) rdX12_feed_28 (by decide) (fun c45 => ?_) (fun c45 => False.elim (by omega))
    refine lv_iload hx hb rdX12_feed_35 (lv_at hl 0 rfl) ?_
    refine lv_bipush (v := zI 8) hx hb rdX12_feed_37 (by decide) ?_
    refine z_icmp_ge (tgt := 46) hx hb (by omega) (by omega) rdX12_feed_39 (by decide) (fun c46 => ?_) (fun c46 => False.elim (by omega))
    refine lv_iload hx hb rdX12_feed_46 (lv_at hl 0 rfl) ?_
    refine lv_bipush (v := zI 12) hx hb rdX12_feed_48 (by decide) ?_
    refine z_icmp_ge (tgt := 57) hx hb (by omega) (by omega) rdX12_feed_50 (by decide) (fun c47 => False.elim (by omega)) (fun c47 => ?_)
    refine lv_iload_n hx hb rdX12_feed_53 rfl (lv_at hl 5 rfl) ?_
    refine lv_goto (tgt := 71) hx hb rdX12_feed_54 (by decide) ?_
    refine lv_istore (lv' := [(7, .int (zI z3)), (6, .int (zI 9)), (0, .ref (B + 146)), (1, .int (zI z1)), (2, .int (zI z2)), (3, .int (zI z3)), (4, .int (zI z4)), (5, .int (zI z5))]) hx hb rdX12_feed_71 hl (by decide) rfl (fun ls hl => ?_)
    refine lv_aload_n hx hb rdX12_feed_73 rfl (lv_at hl 2 rfl) ?_
    refine f_12_7 F w (a := 146) rfl rtb_122 rdX12_feed_74 ?_
    refine lv_aload_n hx hb rdX12_feed_77 rfl (lv_at hl 2 rfl) ?_
    refine f_12_8 F w (a := 146) rfl rtb_121 rdX12_feed_78 ?_
    refine r_val (v := (zI (((((((((((tn + 1) + 1) + 1) + 1) + 1) + 1) + 1) + 1) + 1) : Nat) : Int))) (st_at) ?_
    refine lv_iload hx hb rdX12_feed_81 (lv_at hl 0 rfl) ?_
    refine lv_bipush (v := zI 24) hx hb rdX12_feed_83 (by decide) ?_
    refine lv_bipush (v := zI 8) hx hb rdX12_feed_85 (by decide) ?_
    refine lv_iload hx hb rdX12_feed_87 (lv_at hl 1 rfl) ?_
    refine lv_iconst (v := zI 4) hx hb rdX12_feed_89 rfl ?_
    refine lv_irem hx hb rdX12_feed_90 (by decide) ?_
    refine r_val (v := zI 1) (by decide) ?_
    refine z_imul (z := 8) hx hb rdX12_feed_91 (by decide) ?_
    refine z_isub (z := 16) hx hb rdX12_feed_92 (by decide) ?_
    refine lv_ishr hx hb rdX12_feed_93 ?_
    refine lv_sipush (v := zI 255) hx hb rdX12_feed_94 (by decide) ?_
    refine lv_iand hx hb rdX12_feed_97 ?_
    refine r_val (v := (zI (((by8 ((zI z3) >>> ((zI 16) &&& 31))) : Nat) : Int))) (by8_and _) ?_
    refine g_iast F w (a := 150) rfl (j := (((((((((tn + 1) + 1) + 1) + 1) + 1) + 1) + 1) + 1) + 1)) (ix_n (by omega)) (by omega) rdX12_feed_98 (fun H locs w => ?_)
    refine lv_aload_n hx hb rdX12_feed_99 rfl (lv_at hl 2 rfl) ?_
    refine lv_dup hx hb rdX12_feed_100 rfl ?_
    refine f_12_8 F w (a := 146) rfl rtb_121 rdX12_feed_101 ?_
    refine r_val (v := (zI (((((((((((tn + 1) + 1) + 1) + 1) + 1) + 1) + 1) + 1) + 1) : Nat) : Int))) ((st_ne (Or.inl (by omega))).trans st_at) ?_
    refine lv_iconst (v := zI 1) hx hb rdX12_feed_104 rfl ?_
    refine z_iadd (z := ((((((((((((tn + 1) + 1) + 1) + 1) + 1) + 1) + 1) + 1) + 1) + 1) : Nat) : Int)) hx hb rdX12_feed_105 (by omega) ?_
    refine u_12_8 F w (a := 146) rfl rtb_121 rdX12_feed_106 (fun H locs w => ?_)
    refine z_iinc (v := 10) (lv' := [(6, .int (zI 10)), (7, .int (zI z3)), (0, .ref (B + 146)), (1, .int (zI z1)), (2, .int (zI z2)), (3, .int (zI z3)), (4, .int (zI z4)), (5, .int (zI z5))]) hx hb rdX12_feed_109 hl (k := 1) rfl (by omega) (by decide) rfl (fun ls hl => ?_)
    refine lv_goto (tgt := 18) hx hb rdX12_feed_112 (by decide) ?_
    refine lv_iload hx hb rdX12_feed_18 (lv_at hl 0 rfl) ?_
    refine lv_bipush (v := zI 20) hx hb rdX12_feed_20 (by decide) ?_
    refine z_icmp_ge (tgt := 115) hx hb (by omega) (by omega) rdX12_feed_22 (by decide) (fun c50 => False.elim (by omega)) (fun c50 => ?_)
    refine lv_iload hx hb rdX12_feed_25 (lv_at hl 0 rfl) ?_
    refine lv_iconst (v := zI 4) hx hb rdX12_feed_27 rfl ?_
    refine z_icmp_ge (tgt := 35) hx hb (by omega) (by omega) rdX12_feed_28 (by decide) (fun c51 => ?_) (fun c51 => False.elim (by omega))
    refine lv_iload hx hb rdX12_feed_35 (lv_at hl 0 rfl) ?_
    refine lv_bipush (v := zI 8) hx hb rdX12_feed_37 (by decide) ?_
    refine z_icmp_ge (tgt := 46) hx hb (by omega) (by omega) rdX12_feed_39 (by decide) (fun c52 => ?_) (fun c52 => False.elim (by omega))
    refine lv_iload hx hb rdX12_feed_46 (lv_at hl 0 rfl) ?_
    refine lv_bipush (v := zI 12) hx hb rdX12_feed_48 (by decide) ?_
    refine z_icmp_ge (tgt := 57) hx hb (by omega) (by omega) rdX12_feed_50 (by decide) (fun c53 => False.elim (by omega)) (fun c53 => ?_)
    refine lv_iload_n hx hb rdX12_feed_53 rfl (lv_at hl 5 rfl) ?_
    refine lv_goto (tgt := 71) hx hb rdX12_feed_54 (by decide) ?_
    refine lv_istore (lv' := [(7, .int (zI z3)), (6, .int (zI 10)), (0, .ref (B + 146)), (1, .int (zI z1)), (2, .int (zI z2)), (3, .int (zI z3)), (4, .int (zI z4)), (5, .int (zI z5))]) hx hb rdX12_feed_71 hl (by decide) rfl (fun ls hl => ?_)
    refine lv_aload_n hx hb rdX12_feed_73 rfl (lv_at hl 2 rfl) ?_
    refine f_12_7 F w (a := 146) rfl rtb_122 rdX12_feed_74 ?_
    refine lv_aload_n hx hb rdX12_feed_77 rfl (lv_at hl 2 rfl) ?_
    refine f_12_8 F w (a := 146) rfl rtb_121 rdX12_feed_78 ?_
    refine r_val (v := (zI ((((((((((((tn + 1) + 1) + 1) + 1) + 1) + 1) + 1) + 1) + 1) + 1) : Nat) : Int))) (st_at) ?_
    refine lv_iload hx hb rdX12_feed_81 (lv_at hl 0 rfl) ?_
    refine lv_bipush (v := zI 24) hx hb rdX12_feed_83 (by decide) ?_
    refine lv_bipush (v := zI 8) hx hb rdX12_feed_85 (by decide) ?_
    refine lv_iload hx hb rdX12_feed_87 (lv_at hl 1 rfl) ?_
    refine lv_iconst (v := zI 4) hx hb rdX12_feed_89 rfl ?_
    refine lv_irem hx hb rdX12_feed_90 (by decide) ?_
    refine r_val (v := zI 2) (by decide) ?_
    refine z_imul (z := 16) hx hb rdX12_feed_91 (by decide) ?_
    refine z_isub (z := 8) hx hb rdX12_feed_92 (by decide) ?_
    refine lv_ishr hx hb rdX12_feed_93 ?_
    refine lv_sipush (v := zI 255) hx hb rdX12_feed_94 (by decide) ?_
    refine lv_iand hx hb rdX12_feed_97 ?_
    refine r_val (v := (zI (((by8 ((zI z3) >>> ((zI 8) &&& 31))) : Nat) : Int))) (by8_and _) ?_
    refine g_iast F w (a := 150) rfl (j := ((((((((((tn + 1) + 1) + 1) + 1) + 1) + 1) + 1) + 1) + 1) + 1)) (ix_n (by omega)) (by omega) rdX12_feed_98 (fun H locs w => ?_)
    refine lv_aload_n hx hb rdX12_feed_99 rfl (lv_at hl 2 rfl) ?_
    refine lv_dup hx hb rdX12_feed_100 rfl ?_
    refine f_12_8 F w (a := 146) rfl rtb_121 rdX12_feed_101 ?_
    refine r_val (v := (zI ((((((((((((tn + 1) + 1) + 1) + 1) + 1) + 1) + 1) + 1) + 1) + 1) : Nat) : Int))) ((st_ne (Or.inl (by omega))).trans st_at) ?_
    refine lv_iconst (v := zI 1) hx hb rdX12_feed_104 rfl ?_
    refine z_iadd (z := (((((((((((((tn + 1) + 1) + 1) + 1) + 1) + 1) + 1) + 1) + 1) + 1) + 1) : Nat) : Int)) hx hb rdX12_feed_105 (by omega) ?_
    refine u_12_8 F w (a := 146) rfl rtb_121 rdX12_feed_106 (fun H locs w => ?_)
    refine z_iinc (v := 11) (lv' := [(6, .int (zI 11)), (7, .int (zI z3)), (0, .ref (B + 146)), (1, .int (zI z1)), (2, .int (zI z2)), (3, .int (zI z3)), (4, .int (zI z4)), (5, .int (zI z5))]) hx hb rdX12_feed_109 hl (k := 1) rfl (by omega) (by decide) rfl (fun ls hl => ?_)
    refine lv_goto (tgt := 18) hx hb rdX12_feed_112 (by decide) ?_
    refine lv_iload hx hb rdX12_feed_18 (lv_at hl 0 rfl) ?_
    refine lv_bipush (v := zI 20) hx hb rdX12_feed_20 (by decide) ?_
    refine z_icmp_ge (tgt := 115) hx hb (by omega) (by omega) rdX12_feed_22 (by decide) (fun c56 => False.elim (by omega)) (fun c56 => ?_)
    refine lv_iload hx hb rdX12_feed_25 (lv_at hl 0 rfl) ?_
    refine lv_iconst (v := zI 4) hx hb rdX12_feed_27 rfl ?_
    refine z_icmp_ge (tgt := 35) hx hb (by omega) (by omega) rdX12_feed_28 (by decide) (fun c57 => ?_) (fun c57 => False.elim (by omega))
    refine lv_iload hx hb rdX12_feed_35 (lv_at hl 0 rfl) ?_
    refine lv_bipush (v := zI 8) hx hb rdX12_feed_37 (by decide) ?_
    refine z_icmp_ge (tgt := 46) hx hb (by omega) (by omega) rdX12_feed_39 (by decide) (fun c58 => ?_) (fun c58 => False.elim (by omega))
    refine lv_iload hx hb rdX12_feed_46 (lv_at hl 0 rfl) ?_
    refine lv_bipush (v := zI 12) hx hb rdX12_feed_48 (by decide) ?_
    refine z_icmp_ge (tgt := 57) hx hb (by omega) (by omega) rdX12_feed_50 (by decide) (fun c59 => False.elim (by omega)) (fun c59 => ?_)
    refine lv_iload_n hx hb rdX12_feed_53 rfl (lv_at hl 5 rfl) ?_
    refine lv_goto (tgt := 71) hx hb rdX12_feed_54 (by decide) ?_
    refine lv_istore (lv' := [(7, .int (zI z3)), (6, .int (zI 11)), (0, .ref (B + 146)), (1, .int (zI z1)), (2, .int (zI z2)), (3, .int (zI z3)), (4, .int (zI z4)), (5, .int (zI z5))]) hx hb rdX12_feed_71 hl (by decide) rfl (fun ls hl => ?_)
    refine lv_aload_n hx hb rdX12_feed_73 rfl (lv_at hl 2 rfl) ?_
    refine f_12_7 F w (a := 146) rfl rtb_122 rdX12_feed_74 ?_
    refine lv_aload_n hx hb rdX12_feed_77 rfl (lv_at hl 2 rfl) ?_
    refine f_12_8 F w (a := 146) rfl rtb_121 rdX12_feed_78 ?_
    refine r_val (v := (zI (((((((((((((tn + 1) + 1) + 1) + 1) + 1) + 1) + 1) + 1) + 1) + 1) + 1) : Nat) : Int))) (st_at) ?_
    refine lv_iload hx hb rdX12_feed_81 (lv_at hl 0 rfl) ?_
    refine lv_bipush (v := zI 24) hx hb rdX12_feed_83 (by decide) ?_
    refine lv_bipush (v := zI 8) hx hb rdX12_feed_85 (by decide) ?_
    refine lv_iload hx hb rdX12_feed_87 (lv_at hl 1 rfl) ?_
    refine lv_iconst (v := zI 4) hx hb rdX12_feed_89 rfl ?_
    refine lv_irem hx hb rdX12_feed_90 (by decide) ?_
    refine r_val (v := zI 3) (by decide) ?_
    refine z_imul (z := 24) hx hb rdX12_feed_91 (by decide) ?_
    refine z_isub (z := 0) hx hb rdX12_feed_92 (by decide) ?_
    refine lv_ishr hx hb rdX12_feed_93 ?_
    refine lv_sipush (v := zI 255) hx hb rdX12_feed_94 (by decide) ?_
    refine lv_iand hx hb rdX12_feed_97 ?_
    refine r_val (v := (zI (((by8 ((zI z3) >>> ((zI 0) &&& 31))) : Nat) : Int))) (by8_and _) ?_
    refine g_iast F w (a := 150) rfl (j := (((((((((((tn + 1) + 1) + 1) + 1) + 1) + 1) + 1) + 1) + 1) + 1) + 1)) (ix_n (by omega)) (by omega) rdX12_feed_98 (fun H locs w => ?_)
    refine lv_aload_n hx hb rdX12_feed_99 rfl (lv_at hl 2 rfl) ?_
    refine lv_dup hx hb rdX12_feed_100 rfl ?_
    refine f_12_8 F w (a := 146) rfl rtb_121 rdX12_feed_101 ?_
    refine r_val (v := (zI (((((((((((((tn + 1) + 1) + 1) + 1) + 1) + 1) + 1) + 1) + 1) + 1) + 1) : Nat) : Int))) ((st_ne (Or.inl (by omega))).trans st_at) ?_
    refine lv_iconst (v := zI 1) hx hb rdX12_feed_104 rfl ?_
    refine z_iadd (z := ((((((((((((((tn + 1) + 1) + 1) + 1) + 1) + 1) + 1) + 1) + 1) + 1) + 1) + 1) : Nat) : Int)) hx hb rdX12_feed_105 (by omega) ?_
    refine u_12_8 F w (a := 146) rfl rtb_121 rdX12_feed_106 (fun H locs w => ?_)
    refine z_iinc (v := 12) (lv' := [(6, .int (zI 12)), (7, .int (zI z3)), (0, .ref (B + 146)), (1, .int (zI z1)), (2, .int (zI z2)), (3, .int (zI z3)), (4, .int (zI z4)), (5, .int (zI z5))]) hx hb rdX12_feed_109 hl (k := 1) rfl (by omega) (by decide) rfl (fun ls hl => ?_)
    refine lv_goto (tgt := 18) hx hb rdX12_feed_112 (by decide) ?_
    refine lv_iload hx hb rdX12_feed_18 (lv_at hl 0 rfl) ?_
    refine lv_bipush (v := zI 20) hx hb rdX12_feed_20 (by decide) ?_
    refine z_icmp_ge (tgt := 115) hx hb (by omega) (by omega) rdX12_feed_22 (by decide) (fun c62 => False.elim (by omega)) (fun c62 => ?_)
    refine lv_iload hx hb rdX12_feed_25 (lv_at hl 0 rfl) ?_
    refine lv_iconst (v := zI 4) hx hb rdX12_feed_27 rfl ?_
    refine z_icmp_ge (tgt := 35) hx hb (by omega) (by omega) rdX12_feed_28 (by decide) (fun c63 => ?_) (fun c63 => False.elim (by omega))
    refine lv_iload hx hb rdX12_feed_35 (lv_at hl 0 rfl) ?_
    refine lv_bipush (v := zI 8) hx hb rdX12_feed_37 (by decide) ?_
    refine z_icmp_ge (tgt := 46) hx hb (by omega) (by omega) rdX12_feed_39 (by decide) (fun c64 => ?_) (fun c64 => False.elim (by omega))
    refine lv_iload hx hb rdX12_feed_46 (lv_at hl 0 rfl) ?_
    refine lv_bipush (v := zI 12) hx hb rdX12_feed_48 (by decide) ?_
    refine z_icmp_ge (tgt := 57) hx hb (by omega) (by omega) rdX12_feed_50 (by decide) (fun c65 => ?_) (fun c65 => False.elim (by omega))
    refine lv_iload hx hb rdX12_feed_57 (lv_at hl 0 rfl) ?_
    refine lv_bipush (v := zI 16) hx hb rdX12_feed_59 (by decide) ?_
    refine z_icmp_ge (tgt := 69) hx hb (by omega) (by omega) rdX12_feed_61 (by decide) (fun c66 => False.elim (by omega)) (fun c66 => ?_)
    refine lv_iload hx hb rdX12_feed_64 (lv_at hl 6 rfl) ?_
    refine lv_goto (tgt := 71) hx hb rdX12_feed_66 (by decide) ?_
    refine lv_istore (lv' := [(7, .int (zI z4)), (6, .int (zI 12)), (0, .ref (B + 146)), (1, .int (zI z1)), (2, .int (zI z2)), (3, .int (zI z3)), (4, .int (zI z4)), (5, .int (zI z5))]) hx hb rdX12_feed_71 hl (by decide) rfl (fun ls hl => ?_)
    refine lv_aload_n hx hb rdX12_feed_73 rfl (lv_at hl 2 rfl) ?_
    refine f_12_7 F w (a := 146) rfl rtb_122 rdX12_feed_74 ?_
    refine lv_aload_n hx hb rdX12_feed_77 rfl (lv_at hl 2 rfl) ?_
    refine f_12_8 F w (a := 146) rfl rtb_121 rdX12_feed_78 ?_
    refine r_val (v := (zI ((((((((((((((tn + 1) + 1) + 1) + 1) + 1) + 1) + 1) + 1) + 1) + 1) + 1) + 1) : Nat) : Int))) (st_at) ?_
    refine lv_iload hx hb rdX12_feed_81 (lv_at hl 0 rfl) ?_
    refine lv_bipush (v := zI 24) hx hb rdX12_feed_83 (by decide) ?_
    refine lv_bipush (v := zI 8) hx hb rdX12_feed_85 (by decide) ?_
    refine lv_iload hx hb rdX12_feed_87 (lv_at hl 1 rfl) ?_
    refine lv_iconst (v := zI 4) hx hb rdX12_feed_89 rfl ?_
    refine lv_irem hx hb rdX12_feed_90 (by decide) ?_
    refine r_val (v := zI 0) (by decide) ?_
    refine z_imul (z := 0) hx hb rdX12_feed_91 (by decide) ?_
    refine z_isub (z := 24) hx hb rdX12_feed_92 (by decide) ?_
    refine lv_ishr hx hb rdX12_feed_93 ?_
    refine lv_sipush (v := zI 255) hx hb rdX12_feed_94 (by decide) ?_
    refine lv_iand hx hb rdX12_feed_97 ?_
    refine r_val (v := (zI (((by8 ((zI z4) >>> ((zI 24) &&& 31))) : Nat) : Int))) (by8_and _) ?_
    refine g_iast F w (a := 150) rfl (j := ((((((((((((tn + 1) + 1) + 1) + 1) + 1) + 1) + 1) + 1) + 1) + 1) + 1) + 1)) (ix_n (by omega)) (by omega) rdX12_feed_98 (fun H locs w => ?_)
    refine lv_aload_n hx hb rdX12_feed_99 rfl (lv_at hl 2 rfl) ?_
    refine lv_dup hx hb rdX12_feed_100 rfl ?_
    refine f_12_8 F w (a := 146) rfl rtb_121 rdX12_feed_101 ?_
    refine r_val (v := (zI ((((((((((((((tn + 1) + 1) + 1) + 1) + 1) + 1) + 1) + 1) + 1) + 1) + 1) + 1) : Nat) : Int))) ((st_ne (Or.inl (by omega))).trans st_at) ?_
    refine lv_iconst (v := zI 1) hx hb rdX12_feed_104 rfl ?_
    refine z_iadd (z := (((((((((((((((tn + 1) + 1) + 1) + 1) + 1) + 1) + 1) + 1) + 1) + 1) + 1) + 1) + 1) : Nat) : Int)) hx hb rdX12_feed_105 (by omega) ?_
    refine u_12_8 F w (a := 146) rfl rtb_121 rdX12_feed_106 (fun H locs w => ?_)
    refine z_iinc (v := 13) (lv' := [(6, .int (zI 13)), (7, .int (zI z4)), (0, .ref (B + 146)), (1, .int (zI z1)), (2, .int (zI z2)), (3, .int (zI z3)), (4, .int (zI z4)), (5, .int (zI z5))]) hx hb rdX12_feed_109 hl (k := 1) rfl (by omega) (by decide) rfl (fun ls hl => ?_)
    refine lv_goto (tgt := 18) hx hb rdX12_feed_112 (by decide) ?_
    refine lv_iload hx hb rdX12_feed_18 (lv_at hl 0 rfl) ?_
    refine lv_bipush (v := zI 20) hx hb rdX12_feed_20 (by decide) ?_
    refine z_icmp_ge (tgt := 115) hx hb (by omega) (by omega) rdX12_feed_22 (by decide) (fun c69 => False.elim (by omega)) (fun c69 => ?_)
    refine lv_iload hx hb rdX12_feed_25 (lv_at hl 0 rfl) ?_
    refine lv_iconst (v := zI 4) hx hb rdX12_feed_27 rfl ?_
    refine z_icmp_ge (tgt := 35) hx hb (by omega) (by omega) rdX12_feed_28 (by decide) (fun c70 => ?_) (fun c70 => False.elim (by omega))
    refine lv_iload hx hb rdX12_feed_35 (lv_at hl 0 rfl) ?_
    refine lv_bipush (v := zI 8) hx hb rdX12_feed_37 (by decide) ?_
    refine z_icmp_ge (tgt := 46) hx hb (by omega) (by omega) rdX12_feed_39 (by decide) (fun c71 => ?_) (fun c71 => False.elim (by omega))
    refine lv_iload hx hb rdX12_feed_46 (lv_at hl 0 rfl) ?_
    refine lv_bipush (v := zI 12) hx hb rdX12_feed_48 (by decide) ?_
    refine z_icmp_ge (tgt := 57) hx hb (by omega) (by omega) rdX12_feed_50 (by decide) (fun c72 => ?_) (fun c72 => False.elim (by omega))
    refine lv_iload hx hb rdX12_feed_57 (lv_at hl 0 rfl) ?_
    refine lv_bipush (v := zI 16) hx hb rdX12_feed_59 (by decide) ?_
    refine z_icmp_ge (tgt := 69) hx hb (by omega) (by omega) rdX12_feed_61 (by decide) (fun c73 => False.elim (by omega)) (fun c73 => ?_)
    refine lv_iload hx hb rdX12_feed_64 (lv_at hl 6 rfl) ?_
    refine lv_goto (tgt := 71) hx hb rdX12_feed_66 (by decide) ?_
    refine lv_istore (lv' := [(7, .int (zI z4)), (6, .int (zI 13)), (0, .ref (B + 146)), (1, .int (zI z1)), (2, .int (zI z2)), (3, .int (zI z3)), (4, .int (zI z4)), (5, .int (zI z5))]) hx hb rdX12_feed_71 hl (by decide) rfl (fun ls hl => ?_)
    refine lv_aload_n hx hb rdX12_feed_73 rfl (lv_at hl 2 rfl) ?_
    refine f_12_7 F w (a := 146) rfl rtb_122 rdX12_feed_74 ?_
    refine lv_aload_n hx hb rdX12_feed_77 rfl (lv_at hl 2 rfl) ?_
    refine f_12_8 F w (a := 146) rfl rtb_121 rdX12_feed_78 ?_
    refine r_val (v := (zI (((((((((((((((tn + 1) + 1) + 1) + 1) + 1) + 1) + 1) + 1) + 1) + 1) + 1) + 1) + 1) : Nat) : Int))) (st_at) ?_
    refine lv_iload hx hb rdX12_feed_81 (lv_at hl 0 rfl) ?_
    refine lv_bipush (v := zI 24) hx hb rdX12_feed_83 (by decide) ?_
    refine lv_bipush (v := zI 8) hx hb rdX12_feed_85 (by decide) ?_
    refine lv_iload hx hb rdX12_feed_87 (lv_at hl 1 rfl) ?_
    refine lv_iconst (v := zI 4) hx hb rdX12_feed_89 rfl ?_
    refine lv_irem hx hb rdX12_feed_90 (by decide) ?_
    refine r_val (v := zI 1) (by decide) ?_
    refine z_imul (z := 8) hx hb rdX12_feed_91 (by decide) ?_
    refine z_isub (z := 16) hx hb rdX12_feed_92 (by decide) ?_
    refine lv_ishr hx hb rdX12_feed_93 ?_
    refine lv_sipush (v := zI 255) hx hb rdX12_feed_94 (by decide) ?_
    refine lv_iand hx hb rdX12_feed_97 ?_
    refine r_val (v := (zI (((by8 ((zI z4) >>> ((zI 16) &&& 31))) : Nat) : Int))) (by8_and _) ?_
    refine g_iast F w (a := 150) rfl (j := (((((((((((((tn + 1) + 1) + 1) + 1) + 1) + 1) + 1) + 1) + 1) + 1) + 1) + 1) + 1)) (ix_n (by omega)) (by omega) rdX12_feed_98 (fun H locs w => ?_)
    refine lv_aload_n hx hb rdX12_feed_99 rfl (lv_at hl 2 rfl) ?_
    refine lv_dup hx hb rdX12_feed_100 rfl ?_
    refine f_12_8 F w (a := 146) rfl rtb_121 rdX12_feed_101 ?_
    refine r_val (v := (zI (((((((((((((((tn + 1) + 1) + 1) + 1) + 1) + 1) + 1) + 1) + 1) + 1) + 1) + 1) + 1) : Nat) : Int))) ((st_ne (Or.inl (by omega))).trans st_at) ?_
    refine lv_iconst (v := zI 1) hx hb rdX12_feed_104 rfl ?_
    refine z_iadd (z := ((((((((((((((((tn + 1) + 1) + 1) + 1) + 1) + 1) + 1) + 1) + 1) + 1) + 1) + 1) + 1) + 1) : Nat) : Int)) hx hb rdX12_feed_105 (by omega) ?_
    refine u_12_8 F w (a := 146) rfl rtb_121 rdX12_feed_106 (fun H locs w => ?_)
    refine z_iinc (v := 14) (lv' := [(6, .int (zI 14)), (7, .int (zI z4)), (0, .ref (B + 146)), (1, .int (zI z1)), (2, .int (zI z2)), (3, .int (zI z3)), (4, .int (zI z4)), (5, .int (zI z5))]) hx hb rdX12_feed_109 hl (k := 1) rfl (by omega) (by decide) rfl (fun ls hl => ?_)
    refine lv_goto (tgt := 18) hx hb rdX12_feed_112 (by decide) ?_
    refine lv_iload hx hb rdX12_feed_18 (lv_at hl 0 rfl) ?_
    refine lv_bipush (v := zI 20) hx hb rdX12_feed_20 (by decide) ?_
    refine z_icmp_ge (tgt := 115) hx hb (by omega) (by omega) rdX12_feed_22 (by decide) (fun c76 => False.elim (by omega)) (fun c76 => ?_)
    refine lv_iload hx hb rdX12_feed_25 (lv_at hl 0 rfl) ?_
    refine lv_iconst (v := zI 4) hx hb rdX12_feed_27 rfl ?_
    refine z_icmp_ge (tgt := 35) hx hb (by omega) (by omega) rdX12_feed_28 (by decide) (fun c77 => ?_) (fun c77 => False.elim (by omega))
    refine lv_iload hx hb rdX12_feed_35 (lv_at hl 0 rfl) ?_
    refine lv_bipush (v := zI 8) hx hb rdX12_feed_37 (by decide) ?_
    refine z_icmp_ge (tgt := 46) hx hb (by omega) (by omega) rdX12_feed_39 (by decide) (fun c78 => ?_) (fun c78 => False.elim (by omega))
    refine lv_iload hx hb rdX12_feed_46 (lv_at hl 0 rfl) ?_
    refine lv_bipush (v := zI 12) hx hb rdX12_feed_48 (by decide) ?_
    refine z_icmp_ge (tgt := 57) hx hb (by omega) (by omega) rdX12_feed_50 (by decide) (fun c79 => ?_) (fun c79 => False.elim (by omega))
    refine lv_iload hx hb rdX12_feed_57 (lv_at hl 0 rfl) ?_
    refine lv_bipush (v := zI 16) hx hb rdX12_feed_59 (by decide) ?_
    refine z_icmp_ge (tgt := 69) hx hb (by omega) (by omega) rdX12_feed_61 (by decide) (fun c80 => False.elim (by omega)) (fun c80 => ?_)
    refine lv_iload hx hb rdX12_feed_64 (lv_at hl 6 rfl) ?_
    refine lv_goto (tgt := 71) hx hb rdX12_feed_66 (by decide) ?_
    refine lv_istore (lv' := [(7, .int (zI z4)), (6, .int (zI 14)), (0, .ref (B + 146)), (1, .int (zI z1)), (2, .int (zI z2)), (3, .int (zI z3)), (4, .int (zI z4)), (5, .int (zI z5))]) hx hb rdX12_feed_71 hl (by decide) rfl (fun ls hl => ?_)
    refine lv_aload_n hx hb rdX12_feed_73 rfl (lv_at hl 2 rfl) ?_
    refine f_12_7 F w (a := 146) rfl rtb_122 rdX12_feed_74 ?_
    refine lv_aload_n hx hb rdX12_feed_77 rfl (lv_at hl 2 rfl) ?_
    refine f_12_8 F w (a := 146) rfl rtb_121 rdX12_feed_78 ?_
    refine r_val (v := (zI ((((((((((((((((tn + 1) + 1) + 1) + 1) + 1) + 1) + 1) + 1) + 1) + 1) + 1) + 1) + 1) + 1) : Nat) : Int))) (st_at) ?_
    refine lv_iload hx hb rdX12_feed_81 (lv_at hl 0 rfl) ?_
    refine lv_bipush (v := zI 24) hx hb rdX12_feed_83 (by decide) ?_
    refine lv_bipush (v := zI 8) hx hb rdX12_feed_85 (by decide) ?_
    refine lv_iload hx hb rdX12_feed_87 (lv_at hl 1 rfl) ?_
    refine lv_iconst (v := zI 4) hx hb rdX12_feed_89 rfl ?_
    refine lv_irem hx hb rdX12_feed_90 (by decide) ?_
    refine r_val (v := zI 2) (by decide) ?_
    refine z_imul (z := 16) hx hb rdX12_feed_91 (by decide) ?_
    refine z_isub (z := 8) hx hb rdX12_feed_92 (by decide) ?_
    refine lv_ishr hx hb rdX12_feed_93 ?_
    refine lv_sipush (v := zI 255) hx hb rdX12_feed_94 (by decide) ?_
    refine lv_iand hx hb rdX12_feed_97 ?_
    refine r_val (v := (zI (((by8 ((zI z4) >>> ((zI 8) &&& 31))) : Nat) : Int))) (by8_and _) ?_
    refine g_iast F w (a := 150) rfl (j := ((((((((((((((tn + 1) + 1) + 1) + 1) + 1) + 1) + 1) + 1) + 1) + 1) + 1) + 1) + 1) + 1)) (ix_n (by omega)) (by omega) rdX12_feed_98 (fun H locs w => ?_)
    refine lv_aload_n hx hb rdX12_feed_99 rfl (lv_at hl 2 rfl) ?_
    refine lv_dup hx hb rdX12_feed_100 rfl ?_
    refine f_12_8 F w (a := 146) rfl rtb_121 rdX12_feed_101 ?_
    refine r_val (v := (zI ((((((((((((((((tn + 1) + 1) + 1) + 1) + 1) + 1) + 1) + 1) + 1) + 1) + 1) + 1) + 1) + 1) : Nat) : Int))) ((st_ne (Or.inl (by omega))).trans st_at) ?_
    refine lv_iconst (v := zI 1) hx hb rdX12_feed_104 rfl ?_
    refine z_iadd (z := (((((((((((((((((tn + 1) + 1) + 1) + 1) + 1) + 1) + 1) + 1) + 1) + 1) + 1) + 1) + 1) + 1) + 1) : Nat) : Int)) hx hb rdX12_feed_105 (by omega) ?_
    refine u_12_8 F w (a := 146) rfl rtb_121 rdX12_feed_106 (fun H locs w => ?_)
    refine z_iinc (v := 15) (lv' := [(6, .int (zI 15)), (7, .int (zI z4)), (0, .ref (B + 146)), (1, .int (zI z1)), (2, .int (zI z2)), (3, .int (zI z3)), (4, .int (zI z4)), (5, .int (zI z5))]) hx hb rdX12_feed_109 hl (k := 1) rfl (by omega) (by decide) rfl (fun ls hl => ?_)
    refine lv_goto (tgt := 18) hx hb rdX12_feed_112 (by decide) ?_
    refine lv_iload hx hb rdX12_feed_18 (lv_at hl 0 rfl) ?_
    refine lv_bipush (v := zI 20) hx hb rdX12_feed_20 (by decide) ?_
    refine z_icmp_ge (tgt := 115) hx hb (by omega) (by omega) rdX12_feed_22 (by decide) (fun c83 => False.elim (by omega)) (fun c83 => ?_)
    refine lv_iload hx hb rdX12_feed_25 (lv_at hl 0 rfl) ?_
    refine lv_iconst (v := zI 4) hx hb rdX12_feed_27 rfl ?_
    refine z_icmp_ge (tgt := 35) hx hb (by omega) (by omega) rdX12_feed_28 (by decide) (fun c84 => ?_) (fun c84 => False.elim (by omega))
    refine lv_iload hx hb rdX12_feed_35 (lv_at hl 0 rfl) ?_
    refine lv_bipush (v := zI 8) hx hb rdX12_feed_37 (by decide) ?_
    refine z_icmp_ge (tgt := 46) hx hb (by omega) (by omega) rdX12_feed_39 (by decide) (fun c85 => ?_) (fun c85 => False.elim (by omega))
    refine lv_iload hx hb rdX12_feed_46 (lv_at hl 0 rfl) ?_
    refine lv_bipush (v := zI 12) hx hb rdX12_feed_48 (by decide) ?_
    refine z_icmp_ge (tgt := 57) hx hb (by omega) (by omega) rdX12_feed_50 (by decide) (fun c86 => ?_) (fun c86 => False.elim (by omega))
    refine lv_iload hx hb rdX12_feed_57 (lv_at hl 0 rfl) ?_
    refine lv_bipush (v := zI 16) hx hb rdX12_feed_59 (by decide) ?_
    refine z_icmp_ge (tgt := 69) hx hb (by omega) (by omega) rdX12_feed_61 (by decide) (fun c87 => False.elim (by omega)) (fun c87 => ?_)
    refine lv_iload hx hb rdX12_feed_64 (lv_at hl 6 rfl) ?_
    refine lv_goto (tgt := 71) hx hb rdX12_feed_66 (by decide) ?_
    refine lv_istore (lv' := [(7, .int (zI z4)), (6, .int (zI 15)), (0, .ref (B + 146)), (1, .int (zI z1)), (2, .int (zI z2)), (3, .int (zI z3)), (4, .int (zI z4)), (5, .int (zI z5))]) hx hb rdX12_feed_71 hl (by decide) rfl (fun ls hl => ?_)
    refine lv_aload_n hx hb rdX12_feed_73 rfl (lv_at hl 2 rfl) ?_
    refine f_12_7 F w (a := 146) rfl rtb_122 rdX12_feed_74 ?_
    refine lv_aload_n hx hb rdX12_feed_77 rfl (lv_at hl 2 rfl) ?_
    refine f_12_8 F w (a := 146) rfl rtb_121 rdX12_feed_78 ?_
    refine r_val (v := (zI (((((((((((((((((tn + 1) + 1) + 1) + 1) + 1) + 1) + 1) + 1) + 1) + 1) + 1) + 1) + 1) + 1) + 1) : Nat) : Int))) (st_at) ?_
    refine lv_iload hx hb rdX12_feed_81 (lv_at hl 0 rfl) ?_
    refine lv_bipush (v := zI 24) hx hb rdX12_feed_83 (by decide) ?_
    refine lv_bipush (v := zI 8) hx hb rdX12_feed_85 (by decide) ?_
    refine lv_iload hx hb rdX12_feed_87 (lv_at hl 1 rfl) ?_
    refine lv_iconst (v := zI 4) hx hb rdX12_feed_89 rfl ?_
    refine lv_irem hx hb rdX12_feed_90 (by decide) ?_
    refine r_val (v := zI 3) (by decide) ?_
    refine z_imul (z := 24) hx hb rdX12_feed_91 (by decide) ?_
    refine z_isub (z := 0) hx hb rdX12_feed_92 (by decide) ?_
    refine lv_ishr hx hb rdX12_feed_93 ?_
    refine lv_sipush (v := zI 255) hx hb rdX12_feed_94 (by decide) ?_
    refine lv_iand hx hb rdX12_feed_97 ?_
    refine r_val (v := (zI (((by8 ((zI z4) >>> ((zI 0) &&& 31))) : Nat) : Int))) (by8_and _) ?_
    refine g_iast F w (a := 150) rfl (j := (((((((((((((((tn + 1) + 1) + 1) + 1) + 1) + 1) + 1) + 1) + 1) + 1) + 1) + 1) + 1) + 1) + 1)) (ix_n (by omega)) (by omega) rdX12_feed_98 (fun H locs w => ?_)
    refine lv_aload_n hx hb rdX12_feed_99 rfl (lv_at hl 2 rfl) ?_
    refine lv_dup hx hb rdX12_feed_100 rfl ?_
    refine f_12_8 F w (a := 146) rfl rtb_121 rdX12_feed_101 ?_
    refine r_val (v := (zI (((((((((((((((((tn + 1) + 1) + 1) + 1) + 1) + 1) + 1) + 1) + 1) + 1) + 1) + 1) + 1) + 1) + 1) : Nat) : Int))) ((st_ne (Or.inl (by omega))).trans st_at) ?_
    refine lv_iconst (v := zI 1) hx hb rdX12_feed_104 rfl ?_
    refine z_iadd (z := ((((((((((((((((((tn + 1) + 1) + 1) + 1) + 1) + 1) + 1) + 1) + 1) + 1) + 1) + 1) + 1) + 1) + 1) + 1) : Nat) : Int)) hx hb rdX12_feed_105 (by omega) ?_
    refine u_12_8 F w (a := 146) rfl rtb_121 rdX12_feed_106 (fun H locs w => ?_)
    refine z_iinc (v := 16) (lv' := [(6, .int (zI 16)), (7, .int (zI z4)), (0, .ref (B + 146)), (1, .int (zI z1)), (2, .int (zI z2)), (3, .int (zI z3)), (4, .int (zI z4)), (5, .int (zI z5))]) hx hb rdX12_feed_109 hl (k := 1) rfl (by omega) (by decide) rfl (fun ls hl => ?_)
    refine lv_goto (tgt := 18) hx hb rdX12_feed_112 (by decide) ?_
    refine lv_iload hx hb rdX12_feed_18 (lv_at hl 0 rfl) ?_
    refine lv_bipush (v := zI 20) hx hb rdX12_feed_20 (by decide) ?_
    refine z_icmp_ge (tgt := 115) hx hb (by omega) (by omega) rdX12_feed_22 (by decide) (fun c90 => False.elim (by omega)) (fun c90 => ?_)
    refine lv_iload hx hb rdX12_feed_25 (lv_at hl 0 rfl) ?_
    refine lv_iconst (v := zI 4) hx hb rdX12_feed_27 rfl ?_
    refine z_icmp_ge (tgt := 35) hx hb (by omega) (by omega) rdX12_feed_28 (by decide) (fun c91 => ?_) (fun c91 => False.elim (by omega))
    refine lv_iload hx hb rdX12_feed_35 (lv_at hl 0 rfl) ?_
    refine lv_bipush (v := zI 8) hx hb rdX12_feed_37 (by decide) ?_
    refine z_icmp_ge (tgt := 46) hx hb (by omega) (by omega) rdX12_feed_39 (by decide) (fun c92 => ?_) (fun c92 => False.elim (by omega))
    refine lv_iload hx hb rdX12_feed_46 (lv_at hl 0 rfl) ?_
    refine lv_bipush (v := zI 12) hx hb rdX12_feed_48 (by decide) ?_
    refine z_icmp_ge (tgt := 57) hx hb (by omega) (by omega) rdX12_feed_50 (by decide) (fun c93 => ?_) (fun c93 => False.elim (by omega))
    refine lv_iload hx hb rdX12_feed_57 (lv_at hl 0 rfl) ?_
    refine lv_bipush (v := zI 16) hx hb rdX12_feed_59 (by decide) ?_
    refine z_icmp_ge (tgt := 69) hx hb (by omega) (by omega) rdX12_feed_61 (by decide) (fun c94 => ?_) (fun c94 => False.elim (by omega))
    refine lv_iload hx hb rdX12_feed_69 (lv_at hl 7 rfl) ?_
    refine lv_istore (lv' := [(7, .int (zI z5)), (6, .int (zI 16)), (0, .ref (B + 146)), (1, .int (zI z1)), (2, .int (zI z2)), (3, .int (zI z3)), (4, .int (zI z4)), (5, .int (zI z5))]) hx hb rdX12_feed_71 hl (by decide) rfl (fun ls hl => ?_)
    refine lv_aload_n hx hb rdX12_feed_73 rfl (lv_at hl 2 rfl) ?_
    refine f_12_7 F w (a := 146) rfl rtb_122 rdX12_feed_74 ?_
    refine lv_aload_n hx hb rdX12_feed_77 rfl (lv_at hl 2 rfl) ?_
    refine f_12_8 F w (a := 146) rfl rtb_121 rdX12_feed_78 ?_
    refine r_val (v := (zI ((((((((((((((((((tn + 1) + 1) + 1) + 1) + 1) + 1) + 1) + 1) + 1) + 1) + 1) + 1) + 1) + 1) + 1) + 1) : Nat) : Int))) (st_at) ?_
    refine lv_iload hx hb rdX12_feed_81 (lv_at hl 0 rfl) ?_
    refine lv_bipush (v := zI 24) hx hb rdX12_feed_83 (by decide) ?_
    refine lv_bipush (v := zI 8) hx hb rdX12_feed_85 (by decide) ?_
    refine lv_iload hx hb rdX12_feed_87 (lv_at hl 1 rfl) ?_
    refine lv_iconst (v := zI 4) hx hb rdX12_feed_89 rfl ?_
    refine lv_irem hx hb rdX12_feed_90 (by decide) ?_
    refine r_val (v := zI 0) (by decide) ?_
    refine z_imul (z := 0) hx hb rdX12_feed_91 (by decide) ?_
    refine z_isub (z := 24) hx hb rdX12_feed_92 (by decide) ?_
    refine lv_ishr hx hb rdX12_feed_93 ?_
    refine lv_sipush (v := zI 255) hx hb rdX12_feed_94 (by decide) ?_
    refine lv_iand hx hb rdX12_feed_97 ?_
    refine r_val (v := (zI (((by8 ((zI z5) >>> ((zI 24) &&& 31))) : Nat) : Int))) (by8_and _) ?_
    refine g_iast F w (a := 150) rfl (j := ((((((((((((((((tn + 1) + 1) + 1) + 1) + 1) + 1) + 1) + 1) + 1) + 1) + 1) + 1) + 1) + 1) + 1) + 1)) (ix_n (by omega)) (by omega) rdX12_feed_98 (fun H locs w => ?_)
    refine lv_aload_n hx hb rdX12_feed_99 rfl (lv_at hl 2 rfl) ?_
    refine lv_dup hx hb rdX12_feed_100 rfl ?_
    refine f_12_8 F w (a := 146) rfl rtb_121 rdX12_feed_101 ?_
    refine r_val (v := (zI ((((((((((((((((((tn + 1) + 1) + 1) + 1) + 1) + 1) + 1) + 1) + 1) + 1) + 1) + 1) + 1) + 1) + 1) + 1) : Nat) : Int))) ((st_ne (Or.inl (by omega))).trans st_at) ?_
    refine lv_iconst (v := zI 1) hx hb rdX12_feed_104 rfl ?_
    refine z_iadd (z := (((((((((((((((((((tn + 1) + 1) + 1) + 1) + 1) + 1) + 1) + 1) + 1) + 1) + 1) + 1) + 1) + 1) + 1) + 1) + 1) : Nat) : Int)) hx hb rdX12_feed_105 (by omega) ?_
    refine u_12_8 F w (a := 146) rfl rtb_121 rdX12_feed_106 (fun H locs w => ?_)
    refine z_iinc (v := 17) (lv' := [(6, .int (zI 17)), (7, .int (zI z5)), (0, .ref (B + 146)), (1, .int (zI z1)), (2, .int (zI z2)), (3, .int (zI z3)), (4, .int (zI z4)), (5, .int (zI z5))]) hx hb rdX12_feed_109 hl (k := 1) rfl (by omega) (by decide) rfl (fun ls hl => ?_)
    refine lv_goto (tgt := 18) hx hb rdX12_feed_112 (by decide) ?_
    refine lv_iload hx hb rdX12_feed_18 (lv_at hl 0 rfl) ?_
    refine lv_bipush (v := zI 20) hx hb rdX12_feed_20 (by decide) ?_
    refine z_icmp_ge (tgt := 115) hx hb (by omega) (by omega) rdX12_feed_22 (by decide) (fun c97 => False.elim (by omega)) (fun c97 => ?_)
    refine lv_iload hx hb rdX12_feed_25 (lv_at hl 0 rfl) ?_
    refine lv_iconst (v := zI 4) hx hb rdX12_feed_27 rfl ?_
    refine z_icmp_ge (tgt := 35) hx hb (by omega) (by omega) rdX12_feed_28 (by decide) (fun c98 => ?_) (fun c98 => False.elim (by omega))
    refine lv_iload hx hb rdX12_feed_35 (lv_at hl 0 rfl) ?_
    refine lv_bipush (v := zI 8) hx hb rdX12_feed_37 (by decide) ?_
    refine z_icmp_ge (tgt := 46) hx hb (by omega) (by omega) rdX12_feed_39 (by decide) (fun c99 => ?_) (fun c99 => False.elim (by omega))
    refine lv_iload hx hb rdX12_feed_46 (lv_at hl 0 rfl) ?_
    refine lv_bipush (v := zI 12) hx hb rdX12_feed_48 (by decide) ?_
    refine z_icmp_ge (tgt := 57) hx hb (by omega) (by omega) rdX12_feed_50 (by decide) (fun c100 => ?_) (fun c100 => False.elim (by omega))
    refine lv_iload hx hb rdX12_feed_57 (lv_at hl 0 rfl) ?_
    refine lv_bipush (v := zI 16) hx hb rdX12_feed_59 (by decide) ?_
    refine z_icmp_ge (tgt := 69) hx hb (by omega) (by omega) rdX12_feed_61 (by decide) (fun c101 => ?_) (fun c101 => False.elim (by omega))
    refine lv_iload hx hb rdX12_feed_69 (lv_at hl 7 rfl) ?_
    refine lv_istore (lv' := [(7, .int (zI z5)), (6, .int (zI 17)), (0, .ref (B + 146)), (1, .int (zI z1)), (2, .int (zI z2)), (3, .int (zI z3)), (4, .int (zI z4)), (5, .int (zI z5))]) hx hb rdX12_feed_71 hl (by decide) rfl (fun ls hl => ?_)
    refine lv_aload_n hx hb rdX12_feed_73 rfl (lv_at hl 2 rfl) ?_
    refine f_12_7 F w (a := 146) rfl rtb_122 rdX12_feed_74 ?_
    refine lv_aload_n hx hb rdX12_feed_77 rfl (lv_at hl 2 rfl) ?_
    refine f_12_8 F w (a := 146) rfl rtb_121 rdX12_feed_78 ?_
    refine r_val (v := (zI (((((((((((((((((((tn + 1) + 1) + 1) + 1) + 1) + 1) + 1) + 1) + 1) + 1) + 1) + 1) + 1) + 1) + 1) + 1) + 1) : Nat) : Int))) (st_at) ?_
    refine lv_iload hx hb rdX12_feed_81 (lv_at hl 0 rfl) ?_
    refine lv_bipush (v := zI 24) hx hb rdX12_feed_83 (by decide) ?_
    refine lv_bipush (v := zI 8) hx hb rdX12_feed_85 (by decide) ?_
    refine lv_iload hx hb rdX12_feed_87 (lv_at hl 1 rfl) ?_
    refine lv_iconst (v := zI 4) hx hb rdX12_feed_89 rfl ?_
    refine lv_irem hx hb rdX12_feed_90 (by decide) ?_
    refine r_val (v := zI 1) (by decide) ?_
    refine z_imul (z := 8) hx hb rdX12_feed_91 (by decide) ?_
    refine z_isub (z := 16) hx hb rdX12_feed_92 (by decide) ?_
    refine lv_ishr hx hb rdX12_feed_93 ?_
    refine lv_sipush (v := zI 255) hx hb rdX12_feed_94 (by decide) ?_
    refine lv_iand hx hb rdX12_feed_97 ?_
    refine r_val (v := (zI (((by8 ((zI z5) >>> ((zI 16) &&& 31))) : Nat) : Int))) (by8_and _) ?_
    refine g_iast F w (a := 150) rfl (j := (((((((((((((((((tn + 1) + 1) + 1) + 1) + 1) + 1) + 1) + 1) + 1) + 1) + 1) + 1) + 1) + 1) + 1) + 1) + 1)) (ix_n (by omega)) (by omega) rdX12_feed_98 (fun H locs w => ?_)
    refine lv_aload_n hx hb rdX12_feed_99 rfl (lv_at hl 2 rfl) ?_
    refine lv_dup hx hb rdX12_feed_100 rfl ?_
    refine f_12_8 F w (a := 146) rfl rtb_121 rdX12_feed_101 ?_
    refine r_val (v := (zI (((((((((((((((((((tn + 1) + 1) + 1) + 1) + 1) + 1) + 1) + 1) + 1) + 1) + 1) + 1) + 1) + 1) + 1) + 1) + 1) : Nat) : Int))) ((st_ne (Or.inl (by omega))).trans st_at) ?_
    refine lv_iconst (v := zI 1) hx hb rdX12_feed_104 rfl ?_
    refine z_iadd (z := ((((((((((((((((((((tn + 1) + 1) + 1) + 1) + 1) + 1) + 1) + 1) + 1) + 1) + 1) + 1) + 1) + 1) + 1) + 1) + 1) + 1) : Nat) : Int)) hx hb rdX12_feed_105 (by omega) ?_
    refine u_12_8 F w (a := 146) rfl rtb_121 rdX12_feed_106 (fun H locs w => ?_)
    refine z_iinc (v := 18) (lv' := [(6, .int (zI 18)), (7, .int (zI z5)), (0, .ref (B + 146)), (1, .int (zI z1)), (2, .int (zI z2)), (3, .int (zI z3)), (4, .int (zI z4)), (5, .int (zI z5))]) hx hb rdX12_feed_109 hl (k := 1) rfl (by omega) (by decide) rfl (fun ls hl => ?_)
    refine lv_goto (tgt := 18) hx hb rdX12_feed_112 (by decide) ?_
    refine lv_iload hx hb rdX12_feed_18 (lv_at hl 0 rfl) ?_
    refine lv_bipush (v := zI 20) hx hb rdX12_feed_20 (by decide) ?_
    refine z_icmp_ge (tgt := 115) hx hb (by omega) (by omega) rdX12_feed_22 (by decide) (fun c104 => False.elim (by omega)) (fun c104 => ?_)
    refine lv_iload hx hb rdX12_feed_25 (lv_at hl 0 rfl) ?_
    refine lv_iconst (v := zI 4) hx hb rdX12_feed_27 rfl ?_
    refine z_icmp_ge (tgt := 35) hx hb (by omega) (by omega) rdX12_feed_28 (by decide) (fun c105 => ?_) (fun c105 => False.elim (by omega))
    refine lv_iload hx hb rdX12_feed_35 (lv_at hl 0 rfl) ?_
    refine lv_bipush (v := zI 8) hx hb rdX12_feed_37 (by decide) ?_
    refine z_icmp_ge (tgt := 46) hx hb (by omega) (by omega) rdX12_feed_39 (by decide) (fun c106 => ?_) (fun c106 => False.elim (by omega))
    refine lv_iload hx hb rdX12_feed_46 (lv_at hl 0 rfl) ?_
    refine lv_bipush (v := zI 12) hx hb rdX12_feed_48 (by decide) ?_
    refine z_icmp_ge (tgt := 57) hx hb (by omega) (by omega) rdX12_feed_50 (by decide) (fun c107 => ?_) (fun c107 => False.elim (by omega))
    refine lv_iload hx hb rdX12_feed_57 (lv_at hl 0 rfl) ?_
    refine lv_bipush (v := zI 16) hx hb rdX12_feed_59 (by decide) ?_
    refine z_icmp_ge (tgt := 69) hx hb (by omega) (by omega) rdX12_feed_61 (by decide) (fun c108 => ?_) (fun c108 => False.elim (by omega))
    refine lv_iload hx hb rdX12_feed_69 (lv_at hl 7 rfl) ?_
    refine lv_istore (lv' := [(7, .int (zI z5)), (6, .int (zI 18)), (0, .ref (B + 146)), (1, .int (zI z1)), (2, .int (zI z2)), (3, .int (zI z3)), (4, .int (zI z4)), (5, .int (zI z5))]) hx hb rdX12_feed_71 hl (by decide) rfl (fun ls hl => ?_)
    refine lv_aload_n hx hb rdX12_feed_73 rfl (lv_at hl 2 rfl) ?_
    refine f_12_7 F w (a := 146) rfl rtb_122 rdX12_feed_74 ?_
    refine lv_aload_n hx hb rdX12_feed_77 rfl (lv_at hl 2 rfl) ?_
    refine f_12_8 F w (a := 146) rfl rtb_121 rdX12_feed_78 ?_
    refine r_val (v := (zI ((((((((((((((((((((tn + 1) + 1) + 1) + 1) + 1) + 1) + 1) + 1) + 1) + 1) + 1) + 1) + 1) + 1) + 1) + 1) + 1) + 1) : Nat) : Int))) (st_at) ?_
    refine lv_iload hx hb rdX12_feed_81 (lv_at hl 0 rfl) ?_
    refine lv_bipush (v := zI 24) hx hb rdX12_feed_83 (by decide) ?_
    refine lv_bipush (v := zI 8) hx hb rdX12_feed_85 (by decide) ?_
    refine lv_iload hx hb rdX12_feed_87 (lv_at hl 1 rfl) ?_
    refine lv_iconst (v := zI 4) hx hb rdX12_feed_89 rfl ?_
    refine lv_irem hx hb rdX12_feed_90 (by decide) ?_
    refine r_val (v := zI 2) (by decide) ?_
    refine z_imul (z := 16) hx hb rdX12_feed_91 (by decide) ?_
    refine z_isub (z := 8) hx hb rdX12_feed_92 (by decide) ?_
    refine lv_ishr hx hb rdX12_feed_93 ?_
    refine lv_sipush (v := zI 255) hx hb rdX12_feed_94 (by decide) ?_
    refine lv_iand hx hb rdX12_feed_97 ?_
    refine r_val (v := (zI (((by8 ((zI z5) >>> ((zI 8) &&& 31))) : Nat) : Int))) (by8_and _) ?_
    refine g_iast F w (a := 150) rfl (j := ((((((((((((((((((tn + 1) + 1) + 1) + 1) + 1) + 1) + 1) + 1) + 1) + 1) + 1) + 1) + 1) + 1) + 1) + 1) + 1) + 1)) (ix_n (by omega)) (by omega) rdX12_feed_98 (fun H locs w => ?_)
    refine lv_aload_n hx hb rdX12_feed_99 rfl (lv_at hl 2 rfl) ?_
    refine lv_dup hx hb rdX12_feed_100 rfl ?_
    refine f_12_8 F w (a := 146) rfl rtb_121 rdX12_feed_101 ?_
    refine r_val (v := (zI ((((((((((((((((((((tn + 1) + 1) + 1) + 1) + 1) + 1) + 1) + 1) + 1) + 1) + 1) + 1) + 1) + 1) + 1) + 1) + 1) + 1) : Nat) : Int))) ((st_ne (Or.inl (by omega))).trans st_at) ?_
    refine lv_iconst (v := zI 1) hx hb rdX12_feed_104 rfl ?_
    refine z_iadd (z := (((((((((((((((((((((tn + 1) + 1) + 1) + 1) + 1) + 1) + 1) + 1) + 1) + 1) + 1) + 1) + 1) + 1) + 1) + 1) + 1) + 1) + 1) : Nat) : Int)) hx hb rdX12_feed_105 (by omega) ?_
    refine u_12_8 F w (a := 146) rfl rtb_121 rdX12_feed_106 (fun H locs w => ?_)
    refine z_iinc (v := 19) (lv' := [(6, .int (zI 19)), (7, .int (zI z5)), (0, .ref (B + 146)), (1, .int (zI z1)), (2, .int (zI z2)), (3, .int (zI z3)), (4, .int (zI z4)), (5, .int (zI z5))]) hx hb rdX12_feed_109 hl (k := 1) rfl (by omega) (by decide) rfl (fun ls hl => ?_)
    refine lv_goto (tgt := 18) hx hb rdX12_feed_112 (by decide) ?_
    refine lv_iload hx hb rdX12_feed_18 (lv_at hl 0 rfl) ?_
    refine lv_bipush (v := zI 20) hx hb rdX12_feed_20 (by decide) ?_
    refine z_icmp_ge (tgt := 115) hx hb (by omega) (by omega) rdX12_feed_22 (by decide) (fun c111 => False.elim (by omega)) (fun c111 => ?_)
    refine lv_iload hx hb rdX12_feed_25 (lv_at hl 0 rfl) ?_
    refine lv_iconst (v := zI 4) hx hb rdX12_feed_27 rfl ?_
    refine z_icmp_ge (tgt := 35) hx hb (by omega) (by omega) rdX12_feed_28 (by decide) (fun c112 => ?_) (fun c112 => False.elim (by omega))
    refine lv_iload hx hb rdX12_feed_35 (lv_at hl 0 rfl) ?_
    refine lv_bipush (v := zI 8) hx hb rdX12_feed_37 (by decide) ?_
    refine z_icmp_ge (tgt := 46) hx hb (by omega) (by omega) rdX12_feed_39 (by decide) (fun c113 => ?_) (fun c113 => False.elim (by omega))
    refine lv_iload hx hb rdX12_feed_46 (lv_at hl 0 rfl) ?_
    refine lv_bipush (v := zI 12) hx hb rdX12_feed_48 (by decide) ?_
    refine z_icmp_ge (tgt := 57) hx hb (by omega) (by omega) rdX12_feed_50 (by decide) (fun c114 => ?_) (fun c114 => False.elim (by omega))
    refine lv_iload hx hb rdX12_feed_57 (lv_at hl 0 rfl) ?_
    refine lv_bipush (v := zI 16) hx hb rdX12_feed_59 (by decide) ?_
    refine z_icmp_ge (tgt := 69) hx hb (by omega) (by omega) rdX12_feed_61 (by decide) (fun c115 => ?_) (fun c115 => False.elim (by omega))
    refine lv_iload hx hb rdX12_feed_69 (lv_at hl 7 rfl) ?_
    refine lv_istore (lv' := [(7, .int (zI z5)), (6, .int (zI 19)), (0, .ref (B + 146)), (1, .int (zI z1)), (2, .int (zI z2)), (3, .int (zI z3)), (4, .int (zI z4)), (5, .int (zI z5))]) hx hb rdX12_feed_71 hl (by decide) rfl (fun ls hl => ?_)
    refine lv_aload_n hx hb rdX12_feed_73 rfl (lv_at hl 2 rfl) ?_
    refine f_12_7 F w (a := 146) rfl rtb_122 rdX12_feed_74 ?_
    refine lv_aload_n hx hb rdX12_feed_77 rfl (lv_at hl 2 rfl) ?_
    refine f_12_8 F w (a := 146) rfl rtb_121 rdX12_feed_78 ?_
    refine r_val (v := (zI (((((((((((((((((((((tn + 1) + 1) + 1) + 1) + 1) + 1) + 1) + 1) + 1) + 1) + 1) + 1) + 1) + 1) + 1) + 1) + 1) + 1) + 1) : Nat) : Int))) (st_at) ?_
    refine lv_iload hx hb rdX12_feed_81 (lv_at hl 0 rfl) ?_
    refine lv_bipush (v := zI 24) hx hb rdX12_feed_83 (by decide) ?_
    refine lv_bipush (v := zI 8) hx hb rdX12_feed_85 (by decide) ?_
    refine lv_iload hx hb rdX12_feed_87 (lv_at hl 1 rfl) ?_
    refine lv_iconst (v := zI 4) hx hb rdX12_feed_89 rfl ?_
    refine lv_irem hx hb rdX12_feed_90 (by decide) ?_
    refine r_val (v := zI 3) (by decide) ?_
    refine z_imul (z := 24) hx hb rdX12_feed_91 (by decide) ?_
    refine z_isub (z := 0) hx hb rdX12_feed_92 (by decide) ?_
    refine lv_ishr hx hb rdX12_feed_93 ?_
    refine lv_sipush (v := zI 255) hx hb rdX12_feed_94 (by decide) ?_
    refine lv_iand hx hb rdX12_feed_97 ?_
    refine r_val (v := (zI (((by8 ((zI z5) >>> ((zI 0) &&& 31))) : Nat) : Int))) (by8_and _) ?_
    refine g_iast F w (a := 150) rfl (j := (((((((((((((((((((tn + 1) + 1) + 1) + 1) + 1) + 1) + 1) + 1) + 1) + 1) + 1) + 1) + 1) + 1) + 1) + 1) + 1) + 1) + 1)) (ix_n (by omega)) (by omega) rdX12_feed_98 (fun H locs w => ?_)
    refine lv_aload_n hx hb rdX12_feed_99 rfl (lv_at hl 2 rfl) ?_
    refine lv_dup hx hb rdX12_feed_100 rfl ?_
    refine f_12_8 F w (a := 146) rfl rtb_121 rdX12_feed_101 ?_
    refine r_val (v := (zI (((((((((((((((((((((tn + 1) + 1) + 1) + 1) + 1) + 1) + 1) + 1) + 1) + 1) + 1) + 1) + 1) + 1) + 1) + 1) + 1) + 1) + 1) : Nat) : Int))) ((st_ne (Or.inl (by omega))).trans st_at) ?_
    refine lv_iconst (v := zI 1) hx hb rdX12_feed_104 rfl ?_
    refine z_iadd (z := ((((((((((((((((((((((tn + 1) + 1) + 1) + 1) + 1) + 1) + 1) + 1) + 1) + 1) + 1) + 1) + 1) + 1) + 1) + 1) + 1) + 1) + 1) + 1) : Nat) : Int)) hx hb rdX12_feed_105 (by omega) ?_
    refine u_12_8 F w (a := 146) rfl rtb_121 rdX12_feed_106 (fun H locs w => ?_)
    refine z_iinc (v := 20) (lv' := [(6, .int (zI 20)), (7, .int (zI z5)), (0, .ref (B + 146)), (1, .int (zI z1)), (2, .int (zI z2)), (3, .int (zI z3)), (4, .int (zI z4)), (5, .int (zI z5))]) hx hb rdX12_feed_109 hl (k := 1) rfl (by omega) (by decide) rfl (fun ls hl => ?_)
    refine lv_goto (tgt := 18) hx hb rdX12_feed_112 (by decide) ?_
    refine lv_iload hx hb rdX12_feed_18 (lv_at hl 0 rfl) ?_
    refine lv_bipush (v := zI 20) hx hb rdX12_feed_20 (by decide) ?_
    refine z_icmp_ge (tgt := 115) hx hb (by omega) (by omega) rdX12_feed_22 (by decide) (fun c118 => ?_) (fun c118 => False.elim (by omega))
    refine lv_aload_n hx hb rdX12_feed_115 rfl (lv_at hl 2 rfl) ?_
    refine f_12_8 F w (a := 146) rfl rtb_121 rdX12_feed_116 ?_
    refine r_val (v := (zI ((((((((((((((((((((((tn + 1) + 1) + 1) + 1) + 1) + 1) + 1) + 1) + 1) + 1) + 1) + 1) + 1) + 1) + 1) + 1) + 1) + 1) + 1) + 1) : Nat) : Int))) (st_at) ?_
    exact e_i F w hr hlocks (Or.inr ⟨by omega, rfl, (isTr.a (isTr.a (isTr.a (isTr.a (isTr.a (isTr.a (isTr.a (isTr.a (isTr.a (isTr.a (isTr.a (isTr.a (isTr.a (isTr.a (isTr.a (isTr.a (isTr.a (isTr.a (isTr.a (isTr.a hTr)))))))))))))))))))), fun a h1 h2 => by rw [st_o h1, st_o h2, st_o h1, st_o h2, st_o h1, st_o h2, st_o h1, st_o h2, st_o h1, st_o h2, st_o h1, st_o h2, st_o h1, st_o h2, st_o h1, st_o h2, st_o h1, st_o h2, st_o h1, st_o h2, st_o h1, st_o h2, st_o h1, st_o h2, st_o h1, st_o h2, st_o h1, st_o h2, st_o h1, st_o h2, st_o h1, st_o h2, st_o h1, st_o h2, st_o h1, st_o h2, st_o h1, st_o h2, st_o h1, st_o h2], fun k h => by rw [st_k h, st_o (by decide), st_k h, st_o (by decide), st_k h, st_o (by decide), st_k h, st_o (by decide), st_k h, st_o (by decide), st_k h, st_o (by decide), st_k h, st_o (by decide), st_k h, st_o (by decide), st_k h, st_o (by decide), st_k h, st_o (by decide), st_k h, st_o (by decide), st_k h, st_o (by decide), st_k h, st_o (by decide), st_k h, st_o (by decide), st_k h, st_o (by decide), st_k h, st_o (by decide), st_k h, st_o (by decide), st_k h, st_o (by decide), st_k h, st_o (by decide), st_k h, st_o (by decide)]⟩) rdX12_feed_119
  · refine lv_iconst (v := zI (-1)) hx hb rdX12_feed_13 rfl ?_
    exact e_i F w hr hlocks (Or.inl ⟨by omega, rfl, rfl⟩) rdX12_feed_14
