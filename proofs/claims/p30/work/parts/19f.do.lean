theorem insF_at {F : Nat → Nat} {t x : Nat} : insF F t x t = x := by
  unfold insF
  rw [if_neg (Nat.lt_irrefl t), if_pos rfl]
/-- directly behind the last tone with a line to a syllable ahead -/
def plF (L : Nat → Nat) (s9 : Nat) : Nat → Nat
  | 0 => 0
  | t + 1 => if L t &&& (2 ^ s9 - 1) = 0 then plF L s9 t else t + 1
theorem plF_le {L : Nat → Nat} {s9 : Nat} : ∀ n, plF L s9 n ≤ n
  | 0 => Nat.le_refl 0
  | n + 1 => by
    rw [plF]
    by_cases h : L n &&& (2 ^ s9 - 1) = 0
    · rw [if_pos h]; exact Nat.le_succ_of_le (plF_le n)
    · rw [if_neg h]; exact Nat.le_refl _
theorem plF_0 {L : Nat → Nat} {s9 t : Nat} (h : L t &&& (2 ^ s9 - 1) = 0) : plF L s9 t = plF L s9 (t + 1) := by rw [plF, if_pos h]
theorem plF_1 {L : Nat → Nat} {s9 t : Nat} (h : L t &&& (2 ^ s9 - 1) ≠ 0) : t + 1 = plF L s9 (t + 1) := by rw [plF, if_neg h]
/-- a bare syllable gets a tone of its own -/
def fiC (s9 : Nat) (o : Wo) : Prop := bareP o.1 o.2.2 s9 ∧ o.1 < 12 ∧ sideP o.1 o.2.2 (plF o.2.2 s9 o.1) (plF o.2.2 s9 o.1) s9
def fiO (kn s9 : Nat) (o : Wo) : Wo := (o.1 + 1, insF o.2.1 (plF o.2.2 s9 o.1) kn, updF (insF o.2.2 (plF o.2.2 s9 o.1) 0) (plF o.2.2 s9 o.1) (0 ||| 2 ^ s9))
noncomputable def fiS (kn s9 : Nat) (o : Wo) : Wo × Nat := @ite (Wo × Nat) (fiC s9 o) (Classical.propDecidable _) (fiO kn s9 o, 2) (o, 0)
theorem fiS_y {kn s9 : Nat} {o : Wo} (h : fiC s9 o) : fiS kn s9 o = (fiO kn s9 o, 2) := by unfold fiS; exact @if_pos _ (Classical.propDecidable _) h _ _ _
theorem fiS_n {kn s9 : Nat} {o : Wo} (h : ¬ fiC s9 o) : fiS kn s9 o = (o, 0) := by unfold fiS; exact @if_neg _ (Classical.propDecidable _) h _ _ _
noncomputable def fiP (kn : Nat) : Nat → Wo → Wo × Nat
  | 0, o => (o, 0)
  | i + 1, o => ((fiS kn i (fiP kn i o).1).1, (fiP kn i o).2 + (fiS kn i (fiP kn i o).1).2)
theorem fiP_s {kn i cc dd : Nat} {o o1 o2 : Wo} (h : fiP kn i o = (o1, cc)) (h1 : fiS kn i o1 = (o2, dd)) : fiP kn (i + 1) o = (o2, cc + dd) := by rw [fiP, h, h1]
theorem okW_fi {q kn s9 : Nat} {o : Wo} (h : okW q o) (hn : o.1 < 12) (hk : kn ≤ 2) (hs : s9 < q) : okW q (fiO kn s9 o) := okW_line (o := (o.1 + 1, insF o.2.1 (plF o.2.2 s9 o.1) kn, insF o.2.2 (plF o.2.2 s9 o.1) 0)) (okW_ins h hn (plF_le _) hk) (Nat.or_lt_two_pow (Nat.two_pow_pos q) (Nat.pow_lt_pow_right (by decide) hs))
theorem wdX1_placeToFill_5 : decode cX1_placeToFill 5 = .ok (.iload 4, 2) := dqU kk_21 (by decide +kernel)
theorem wdX1_placeToFill_7 : decode cX1_placeToFill 7 = .ok (.aload_n 1, 1) := dq0 kk_43 (by decide +kernel)
theorem wdX1_placeToFill_8 : decode cX1_placeToFill 8 = .ok (.getfield 53, 3) := dqV kk_180 (by decide +kernel)
theorem wdX1_placeToFill_11 : decode cX1_placeToFill 11 = .ok (.if_icmp .ge 29, 3) := dqT kk_162 (by decide +kernel)
theorem wdX1_placeToFill_14 : decode cX1_placeToFill 14 = .ok (.aload_n 1, 1) := dq0 kk_43 (by decide +kernel)
theorem wdX1_placeToFill_15 : decode cX1_placeToFill 15 = .ok (.iload 4, 2) := dqU kk_21 (by decide +kernel)
theorem wdX1_placeToFill_17 : decode cX1_placeToFill 17 = .ok (.invokevirtual 56, 3) := dqV kk_182 (by decide +kernel)
theorem wdX1_placeToFill_20 : decode cX1_placeToFill 20 = .ok (.iconst 1, 1) := dq0 kk_4 (by decide +kernel)
theorem wdX1_placeToFill_21 : decode cX1_placeToFill 21 = .ok (.iload_n 2, 1) := dq0 kk_28 (by decide +kernel)
theorem wdX1_placeToFill_22 : decode cX1_placeToFill 22 = .ok (.ishl, 1) := dq0 kk_120 (by decide +kernel)
theorem wdX1_placeToFill_23 : decode cX1_placeToFill 23 = .ok (.iconst 1, 1) := dq0 kk_4 (by decide +kernel)
theorem wdX1_placeToFill_24 : decode cX1_placeToFill 24 = .ok (.isub, 1) := dq0 kk_100 (by decide +kernel)
theorem wdX1_placeToFill_25 : decode cX1_placeToFill 25 = .ok (.iand, 1) := dq0 kk_126 (by decide +kernel)
theorem wdX1_placeToFill_26 : decode cX1_placeToFill 26 = .ok (.ifCond .eq 8, 3) := dqT kk_153 (by decide +kernel)
theorem wdX1_placeToFill_34 : decode cX1_placeToFill 34 = .ok (.iinc 4 1, 3) := dqI kk_132 (by decide +kernel)
theorem wdX1_placeToFill_37 : decode cX1_placeToFill 37 = .ok (.goto (-32), 3) := dqT kk_167 (by decide +kernel)
theorem wdX1_placeToFill_29 : decode cX1_placeToFill 29 = .ok (.iload 4, 2) := dqU kk_21 (by decide +kernel)
theorem wdX1_placeToFill_31 : decode cX1_placeToFill 31 = .ok (.iconst 1, 1) := dq0 kk_4 (by decide +kernel)
theorem wdX1_placeToFill_32 : decode cX1_placeToFill 32 = .ok (.iadd, 1) := dq0 kk_96 (by decide +kernel)
theorem wdX1_placeToFill_33 : decode cX1_placeToFill 33 = .ok (.istore_n 3, 1) := dq0 kk_62 (by decide +kernel)
set_option maxRecDepth 4000 in
theorem lp_X1_place {p : Program} {l : Launch} {e : Env} {s : State} {m : MethodId} {args : Array Value} {below : List Frame} {meth : Method} {c : Code} {D : va_G} {B : Nat} {cy : Nat → ClassId} {H0 : Heap} {Q : State → Prop} {M : Mem} {R : Room} {a q hv ed s9 : Nat} {o : Wo} (F : CallFix p m c cX1_placeToFill 5 s args TB RX1) (hR1 : 2 ≤ R.frames) (hR2 : 42 ≤ R.locals) (hk : kd a = (9, 0, 0)) (hC : CW M a q hv ed o) (hs9 : s9 < 12) (kk : ∀ (t : Nat) (H : Heap) (locs : List Loc) (ls : Array Slot), (t = o.1) → Wd D B cy s H0 M H locs → lv_has ls 5 [(3, .int (zI (((plF o.2.2 s9 t) : Nat) : Int)))] → W p l e R s m args below meth c H locs 0 0 Q (F0 m 40 ls [])) : ∀ (f : Nat) (t : Nat), (t ≤ o.1) → (o.1 ≤ t + f) → ∀ (H : Heap) (locs : List Loc) (ls : Array Slot), Wd D B cy s H0 M H locs → lv_has ls 5 [(4, .int (zI (t : Int))), (3, .int (zI (((plF o.2.2 s9 t) : Nat) : Int))), (0, .ref (B + 23)), (1, .ref (B + a)), (2, .int (zI (s9 : Int)))] → W p l e R s m args below meth c H locs 0 0 Q (F0 m 5 ls []) := by
  have hx := F.1
  have hb := F.2.1
  have hW := hC.1
  have hwf := hC.wf
  have hKL := hwf.2.2.2.2
  have hn12 := hwf.1
  have hq12 := hwf.2.1
  intro f
  induction f with
  | zero =>
    intro t i0 hf H locs ls w hl
    have hpl := plF_le (L := o.2.2) (s9 := s9) t
    refine lv_iload hx hb wdX1_placeToFill_5 (lv_at hl 0 rfl) ?_
    refine lv_aload_n hx hb wdX1_placeToFill_7 rfl (lv_at hl 3 rfl) ?_
    refine f_9_0 F w (a := a) hk wtb_32 wdX1_placeToFill_8 ?_
    refine r_val (v := (zI ((o.1 : Nat) : Int))) (hW.1) ?_
    refine z_icmp_ge (tgt := 40) hx hb (by omega) (by omega) wdX1_placeToFill_11 (by decide) (fun c1 => ?_) (fun c1 => False.elim (by omega))
    exact kk t _ _ ls (by omega) w (lv_sub hl [1] rfl)
  | succ f ih =>
    intro t i0 hf H locs ls w hl
    have hpl := plF_le (L := o.2.2) (s9 := s9) t
    refine lv_iload hx hb wdX1_placeToFill_5 (lv_at hl 0 rfl) ?_
    refine lv_aload_n hx hb wdX1_placeToFill_7 rfl (lv_at hl 3 rfl) ?_
    refine f_9_0 F w (a := a) hk wtb_32 wdX1_placeToFill_8 ?_
    refine r_val (v := (zI ((o.1 : Nat) : Int))) (hW.1) ?_
    refine z_icmp_ge (tgt := 40) hx hb (by omega) (by omega) wdX1_placeToFill_11 (by decide) (fun c1 => ?_) (fun c1 => ?_)
    · exact kk t _ _ ls (by omega) w (lv_sub hl [1] rfl)
    · refine lv_aload_n hx hb wdX1_placeToFill_14 rfl (lv_at hl 3 rfl) ?_
      refine lv_iload hx hb wdX1_placeToFill_15 (lv_at hl 0 rfl) ?_
      refine k_Vi F w (As := [.int (zI (t : Int))]) (rest := []) (a := a) (kd_lt (a := a) hk (by decide)) (sh_9 hk _ _) rfl (s_X9_linesFrom hk hW hwf (by omega)) wgv_X1_56 whv_X9_linesFrom ⟨(by omega), (by omega)⟩ hl.1 rfl (Nat.le_of_ble_eq_true rfl) ⟨Nat.zero_le _, Nat.zero_le _⟩ wdX1_placeToFill_17 (fun r Ma3 H locs hp w => ?_)
      rcases hp with ⟨⟨k2, ek2, hk2, rfl⟩ | ⟨nk2, rfl⟩, hMe⟩
      · obtain rfl : t = k2 := by omega
        rw [hMe] at w
        have gk2 := (hKL t (by omega)).2
        refine lv_iconst (v := zI 1) hx hb wdX1_placeToFill_20 rfl ?_
        refine lv_iload_n hx hb wdX1_placeToFill_21 rfl (lv_at hl 4 rfl) ?_
        refine lv_ishl hx hb wdX1_placeToFill_22 ?_
        refine r_val (v := (zI (((2 ^ s9) : Nat) : Int))) (zb_shl (n := s9) (by omega)) ?_
        have q4 := p2_b (n := s9) (by omega)
        refine lv_iconst (v := zI 1) hx hb wdX1_placeToFill_23 rfl ?_
        refine z_isub (z := ((((2 ^ s9) - 1) : Nat) : Int)) hx hb wdX1_placeToFill_24 (by omega) ?_
        refine lv_iand hx hb wdX1_placeToFill_25 ?_
        refine r_val (v := (zI ((((o.2.2 t) &&& ((2 ^ s9) - 1)) : Nat) : Int))) (zb_and (o.2.2 t) ((2 ^ s9) - 1)) ?_
        have q5 := (Nat.and_le_left : (o.2.2 t) &&& ((2 ^ s9) - 1) ≤ _)
        refine z_if_eq (tgt := 34) hx hb (by omega) wdX1_placeToFill_26 (by decide) (fun c6 => ?_) (fun c6 => ?_)
        · refine z_iinc (v := (((t + 1) : Nat) : Int)) (lv' := [(4, .int (zI (((t + 1) : Nat) : Int))), (3, .int (zI (((plF o.2.2 s9 t) : Nat) : Int))), (0, .ref (B + 23)), (1, .ref (B + a)), (2, .int (zI (s9 : Int)))]) hx hb wdX1_placeToFill_34 hl (k := 0) rfl (by omega) (by decide) rfl (fun ls hl => ?_)
          refine lv_goto (tgt := 5) hx hb wdX1_placeToFill_37 (by decide) ?_
          rw [plF_0 (by omega)] at hl
          exact ih (t + 1) (by omega) (by omega) _ _ ls w (lv_sub hl [0, 1, 2, 3, 4] rfl)
        · refine lv_iload hx hb wdX1_placeToFill_29 (lv_at hl 0 rfl) ?_
          refine lv_iconst (v := zI 1) hx hb wdX1_placeToFill_31 rfl ?_
          refine z_iadd (z := (((t + 1) : Nat) : Int)) hx hb wdX1_placeToFill_32 (by omega) ?_
          refine r_val (v := zI ((plF o.2.2 s9 (t + 1) : Nat) : Int)) (congrArg zI (congrArg (fun q9 : Nat => (q9 : Int)) (plF_1 (by omega)))) ?_
          refine lv_istore_n (lv' := [(3, .int (zI (((plF o.2.2 s9 (t + 1)) : Nat) : Int))), (4, .int (zI (t : Int))), (0, .ref (B + 23)), (1, .ref (B + a)), (2, .int (zI (s9 : Int)))]) hx hb wdX1_placeToFill_33 rfl hl (by decide) rfl (fun ls hl => ?_)
          refine z_iinc (v := (((t + 1) : Nat) : Int)) (lv' := [(4, .int (zI (((t + 1) : Nat) : Int))), (3, .int (zI (((plF o.2.2 s9 (t + 1)) : Nat) : Int))), (0, .ref (B + 23)), (1, .ref (B + a)), (2, .int (zI (s9 : Int)))]) hx hb wdX1_placeToFill_34 hl (k := 1) rfl (by omega) (by decide) rfl (fun ls hl => ?_)
          refine lv_goto (tgt := 5) hx hb wdX1_placeToFill_37 (by decide) ?_
          exact ih (t + 1) (by omega) (by omega) _ _ ls w (lv_sub hl [0, 1, 2, 3, 4] rfl)
      · exact False.elim (by omega)
theorem wdX1_placeToFill_0 : decode cX1_placeToFill 0 = .ok (.iconst 0, 1) := dq0 kk_3 (by decide +kernel)
theorem wdX1_placeToFill_1 : decode cX1_placeToFill 1 = .ok (.istore_n 3, 1) := dq0 kk_62 (by decide +kernel)
theorem wdX1_placeToFill_2 : decode cX1_placeToFill 2 = .ok (.iconst 0, 1) := dq0 kk_3 (by decide +kernel)
theorem wdX1_placeToFill_3 : decode cX1_placeToFill 3 = .ok (.istore 4, 2) := dqU kk_54 (by decide +kernel)
theorem wdX1_placeToFill_40 : decode cX1_placeToFill 40 = .ok (.iload_n 3, 1) := dq0 kk_29 (by decide +kernel)
theorem wdX1_placeToFill_41 : decode cX1_placeToFill 41 = .ok (.ireturn, 1) := dq0 kk_172 (by decide +kernel)
set_option maxRecDepth 4000 in
theorem s_X1_placeToFill {l : Launch} {D : va_G} {B : Nat} {cy : Nat → ClassId} {M : Mem} {a q hv ed : Nat} {o : Wo} (hk : kd a = (9, 0, 0)) (hC : CW M a q hv ed o) {s9 : Nat} (hs9 : s9 < 12) : Ci l D B cy yX1_placeToFill cX1_placeToFill 5 (some .int) 2 42 [.ref (B + 23), .ref (B + a), .int (zI (s9 : Int))] M (fun r M1 => r = zI ((plF o.2.2 s9 o.1 : Nat) : Int) ∧ M1 = M) := by
  refine s_any (by decide) (Nat.le_of_ble_eq_true rfl) ?_
  intro p e s m below meth c ls F hr hlocks w hl
  have F : CallFix p m c cX1_placeToFill 5 s _ TB RX1 := F
  have hx := F.1
  have hb := F.2.1
  have hl : lv_has ls 5 [(0, .ref (B + 23)), (1, .ref (B + a)), (2, .int (zI (s9 : Int)))] := hl
  have hW := hC.1
  have hwf := hC.wf
  have hKL := hwf.2.2.2.2
  have hn12 := hwf.1
  have hq12 := hwf.2.1
  refine lv_iconst (v := zI 0) hx hb wdX1_placeToFill_0 rfl ?_
  refine lv_istore_n (lv' := [(3, .int (zI 0)), (0, .ref (B + 23)), (1, .ref (B + a)), (2, .int (zI (s9 : Int)))]) hx hb wdX1_placeToFill_1 rfl hl (by decide) rfl (fun ls hl => ?_)
  refine lv_iconst (v := zI 0) hx hb wdX1_placeToFill_2 rfl ?_
  refine lv_istore (lv' := [(4, .int (zI 0)), (3, .int (zI 0)), (0, .ref (B + 23)), (1, .ref (B + a)), (2, .int (zI (s9 : Int)))]) hx hb wdX1_placeToFill_3 hl (by decide) rfl (fun ls hl => ?_)
  refine lp_X1_place  F (Nat.le_of_ble_eq_true rfl) (Nat.le_of_ble_eq_true rfl) hk hC hs9 (fun t H locs ls x0 w hl => ?_) o.1 0 (by omega) (by omega) _ _ ls w (lv_sub hl [0, 1, 2, 3, 4] rfl)
  subst x0
  refine lv_iload_n hx hb wdX1_placeToFill_40 rfl (lv_at hl 0 rfl) ?_
  exact e_i F w hr hlocks ⟨rfl, rfl⟩ wdX1_placeToFill_41
theorem wdX1_passOfFill_5 : decode cX1_passOfFill 5 = .ok (.iload 4, 2) := dqU kk_21 (by decide +kernel)
theorem wdX1_passOfFill_7 : decode cX1_passOfFill 7 = .ok (.aload_n 2, 1) := dq0 kk_44 (by decide +kernel)
theorem wdX1_passOfFill_8 : decode cX1_passOfFill 8 = .ok (.getfield 34, 3) := dqV kk_180 (by decide +kernel)
theorem wdX1_passOfFill_11 : decode cX1_passOfFill 11 = .ok (.if_icmp .ge 88, 3) := dqT kk_162 (by decide +kernel)
theorem wdX1_passOfFill_14 : decode cX1_passOfFill 14 = .ok (.aload_n 2, 1) := dq0 kk_44 (by decide +kernel)
theorem wdX1_passOfFill_15 : decode cX1_passOfFill 15 = .ok (.iload 4, 2) := dqU kk_21 (by decide +kernel)
theorem wdX1_passOfFill_17 : decode cX1_passOfFill 17 = .ok (.invokevirtual 39, 3) := dqV kk_182 (by decide +kernel)
theorem wtk_X9_isBare : Cond.code yX9_isBare cX9_isBare 2 (some .boolean) ∈ TB := tk_X9_isBare
theorem wgc_X9_isBare : GoodIn TB (cw yX9_isBare cX9_isBare 2 (some .boolean)) := goodIn_c2 wtk_X9_isBare
theorem wtb_46 : Cond.methodLink "ToneLines$Doer" 39 yX9_isBare ∈ TB := tb_70
theorem wtb_47 : Cond.instanceMethod yX9_isBare ∈ TB := tb_71
theorem wtb_48 : Cond.selects "ToneLines$Word" yX9_isBare yX9_isBare ∈ TB := tb_72
theorem wgv_X1_39 : GoodIn TB (wsV RX1 39 RX9 yX9_isBare (cw yX9_isBare cX9_isBare 2 (some .boolean))) := goodIn_4 wtb_46 wtb_47 wtb_48 wtb_3 wgc_X9_isBare
theorem whv_X9_isBare : yX9_isBare.cls = RX9 ∧ yX9_isBare.cls ≠ "java/lang/invoke/MethodHandle" ∧ yX9_isBare.cls ≠ "java/lang/invoke/VarHandle" ∧ (parseMethodDescriptor yX9_isBare.desc).map (fun d => d.parameters.length) = some 1 := hv_X9_isBare
theorem wdX1_passOfFill_20 : decode cX1_passOfFill 20 = .ok (.ifCond .eq 13, 3) := dqT kk_153 (by decide +kernel)
theorem wdX1_passOfFill_23 : decode cX1_passOfFill 23 = .ok (.aload_n 0, 1) := dq0 kk_42 (by decide +kernel)
theorem wdX1_passOfFill_24 : decode cX1_passOfFill 24 = .ok (.aload_n 2, 1) := dq0 kk_44 (by decide +kernel)
theorem wdX1_passOfFill_25 : decode cX1_passOfFill 25 = .ok (.iload 4, 2) := dqU kk_21 (by decide +kernel)
theorem wdX1_passOfFill_27 : decode cX1_passOfFill 27 = .ok (.invokevirtual 78, 3) := dqV kk_182 (by decide +kernel)
theorem wtk_X1_placeToFill : Cond.code yX1_placeToFill cX1_placeToFill 5 (some .int) ∈ TB := tbm (tc4 (List.mem_of_getElem? (i := 26) rfl)) rfl
theorem wgc_X1_placeToFill : GoodIn TB (cw yX1_placeToFill cX1_placeToFill 5 (some .int)) := goodIn_c2 wtk_X1_placeToFill
theorem wtb_49 : Cond.methodLink "ToneLines$Doer" 78 yX1_placeToFill ∈ TB := tbm (tc4 (List.mem_of_getElem? (i := 23) rfl)) rfl
theorem wtb_50 : Cond.instanceMethod yX1_placeToFill ∈ TB := tbm (tc4 (List.mem_of_getElem? (i := 25) rfl)) rfl
theorem wtb_51 : Cond.selects "ToneLines$Doer" yX1_placeToFill yX1_placeToFill ∈ TB := tbp (List.mem_of_getElem? (i := 19) rfl) rfl
theorem wtb_52 : Cond.initialized "ToneLines$Doer" ∈ TB := tb_76
theorem wgv_X1_78 : GoodIn TB (wsV RX1 78 RX1 yX1_placeToFill (cw yX1_placeToFill cX1_placeToFill 5 (some .int))) := goodIn_4 wtb_49 wtb_50 wtb_51 wtb_52 wgc_X1_placeToFill
theorem whv_X1_placeToFill : yX1_placeToFill.cls = RX1 ∧ yX1_placeToFill.cls ≠ "java/lang/invoke/MethodHandle" ∧ yX1_placeToFill.cls ≠ "java/lang/invoke/VarHandle" ∧ (parseMethodDescriptor yX1_placeToFill.desc).map (fun d => d.parameters.length) = some 2 := by decide +kernel
theorem wdX1_passOfFill_30 : decode cX1_passOfFill 30 = .ok (.goto 4, 3) := dqT kk_167 (by decide +kernel)
theorem wdX1_passOfFill_34 : decode cX1_passOfFill 34 = .ok (.istore 5, 2) := dqU kk_54 (by decide +kernel)
theorem wdX1_passOfFill_36 : decode cX1_passOfFill 36 = .ok (.iload 5, 2) := dqU kk_21 (by decide +kernel)
theorem wdX1_passOfFill_38 : decode cX1_passOfFill 38 = .ok (.iconst (-1), 1) := dq0 kk_2 (by decide +kernel)
theorem wdX1_passOfFill_39 : decode cX1_passOfFill 39 = .ok (.if_icmp .eq 54, 3) := dqT kk_159 (by decide +kernel)
theorem wdX1_passOfFill_42 : decode cX1_passOfFill 42 = .ok (.aload_n 2, 1) := dq0 kk_44 (by decide +kernel)
theorem wdX1_passOfFill_43 : decode cX1_passOfFill 43 = .ok (.getfield 53, 3) := dqV kk_180 (by decide +kernel)
theorem wdX1_passOfFill_46 : decode cX1_passOfFill 46 = .ok (.bipush 12, 2) := dqS kk_16 (by decide +kernel)
theorem wdX1_passOfFill_48 : decode cX1_passOfFill 48 = .ok (.if_icmp .ge 45, 3) := dqT kk_162 (by decide +kernel)
theorem wdX1_passOfFill_93 : decode cX1_passOfFill 93 = .ok (.iinc 4 1, 3) := dqI kk_132 (by decide +kernel)
theorem wdX1_passOfFill_96 : decode cX1_passOfFill 96 = .ok (.goto (-91), 3) := dqT kk_167 (by decide +kernel)
theorem wdX1_passOfFill_51 : decode cX1_passOfFill 51 = .ok (.aload_n 2, 1) := dq0 kk_44 (by decide +kernel)
theorem wdX1_passOfFill_52 : decode cX1_passOfFill 52 = .ok (.iload 5, 2) := dqU kk_21 (by decide +kernel)
theorem wdX1_passOfFill_54 : decode cX1_passOfFill 54 = .ok (.iload 5, 2) := dqU kk_21 (by decide +kernel)
theorem wdX1_passOfFill_56 : decode cX1_passOfFill 56 = .ok (.iload 4, 2) := dqU kk_21 (by decide +kernel)
theorem wdX1_passOfFill_58 : decode cX1_passOfFill 58 = .ok (.invokevirtual 82, 3) := dqV kk_182 (by decide +kernel)
theorem wtk_X9_crossesNone : Cond.code yX9_crossesNone cX9_crossesNone 7 (some .boolean) ∈ TB := tk_X9_crossesNone
theorem wgc_X9_crossesNone : GoodIn TB (cw yX9_crossesNone cX9_crossesNone 7 (some .boolean)) := goodIn_c2 wtk_X9_crossesNone
theorem wtb_53 : Cond.methodLink "ToneLines$Doer" 82 yX9_crossesNone ∈ TB := tbm (tc4 (List.mem_of_getElem? (i := 27) rfl)) rfl
theorem wtb_54 : Cond.instanceMethod yX9_crossesNone ∈ TB := tb_17
theorem wtb_55 : Cond.selects "ToneLines$Word" yX9_crossesNone yX9_crossesNone ∈ TB := tb_18
theorem wgv_X1_82 : GoodIn TB (wsV RX1 82 RX9 yX9_crossesNone (cw yX9_crossesNone cX9_crossesNone 7 (some .boolean))) := goodIn_4 wtb_53 wtb_54 wtb_55 wtb_3 wgc_X9_crossesNone
theorem whv_X9_crossesNone : yX9_crossesNone.cls = RX9 ∧ yX9_crossesNone.cls ≠ "java/lang/invoke/MethodHandle" ∧ yX9_crossesNone.cls ≠ "java/lang/invoke/VarHandle" ∧ (parseMethodDescriptor yX9_crossesNone.desc).map (fun d => d.parameters.length) = some 3 := hv_X9_crossesNone
theorem wdX1_passOfFill_61 : decode cX1_passOfFill 61 = .ok (.ifCond .eq 32, 3) := dqT kk_153 (by decide +kernel)
theorem wdX1_passOfFill_64 : decode cX1_passOfFill 64 = .ok (.aload_n 2, 1) := dq0 kk_44 (by decide +kernel)
theorem wdX1_passOfFill_65 : decode cX1_passOfFill 65 = .ok (.iload 5, 2) := dqU kk_21 (by decide +kernel)
theorem wdX1_passOfFill_67 : decode cX1_passOfFill 67 = .ok (.aload_n 1, 1) := dq0 kk_43 (by decide +kernel)
theorem wdX1_passOfFill_68 : decode cX1_passOfFill 68 = .ok (.getfield 15, 3) := dqV kk_180 (by decide +kernel)
theorem wdX1_passOfFill_71 : decode cX1_passOfFill 71 = .ok (.iconst 2, 1) := dq0 kk_5 (by decide +kernel)
theorem wdX1_passOfFill_72 : decode cX1_passOfFill 72 = .ok (.iaload, 1) := dq0 kk_46 (by decide +kernel)
theorem wdX1_passOfFill_73 : decode cX1_passOfFill 73 = .ok (.invokevirtual 86, 3) := dqV kk_182 (by decide +kernel)
theorem wtk_X9_insertTone : Cond.code yX9_insertTone cX9_insertTone 4 none ∈ TB := tbm (tc2 (List.mem_of_getElem? (i := 214) rfl)) rfl
theorem wgc_X9_insertTone : GoodIn TB (cw yX9_insertTone cX9_insertTone 4 none) := goodIn_c2 wtk_X9_insertTone
theorem wtb_56 : Cond.methodLink "ToneLines$Doer" 86 yX9_insertTone ∈ TB := tbm (tc4 (List.mem_of_getElem? (i := 28) rfl)) rfl
theorem wtb_57 : Cond.instanceMethod yX9_insertTone ∈ TB := tbm (tc2 (List.mem_of_getElem? (i := 212) rfl)) rfl
theorem wtb_58 : Cond.selects "ToneLines$Word" yX9_insertTone yX9_insertTone ∈ TB := tbm (tc2 (List.mem_of_getElem? (i := 213) rfl)) rfl
theorem wgv_X1_86 : GoodIn TB (wsV RX1 86 RX9 yX9_insertTone (cw yX9_insertTone cX9_insertTone 4 none)) := goodIn_4 wtb_56 wtb_57 wtb_58 wtb_3 wgc_X9_insertTone
theorem whv_X9_insertTone : yX9_insertTone.cls = RX9 ∧ yX9_insertTone.cls ≠ "java/lang/invoke/MethodHandle" ∧ yX9_insertTone.cls ≠ "java/lang/invoke/VarHandle" ∧ (parseMethodDescriptor yX9_insertTone.desc).map (fun d => d.parameters.length) = some 2 := by decide +kernel
theorem wdX1_passOfFill_76 : decode cX1_passOfFill 76 = .ok (.aload_n 2, 1) := dq0 kk_44 (by decide +kernel)
theorem wdX1_passOfFill_77 : decode cX1_passOfFill 77 = .ok (.getfield 50, 3) := dqV kk_180 (by decide +kernel)
theorem wdX1_passOfFill_80 : decode cX1_passOfFill 80 = .ok (.iload 5, 2) := dqU kk_21 (by decide +kernel)
theorem wdX1_passOfFill_82 : decode cX1_passOfFill 82 = .ok (.dup2, 1) := dq0 kk_92 (by decide +kernel)
theorem wdX1_passOfFill_83 : decode cX1_passOfFill 83 = .ok (.iaload, 1) := dq0 kk_46 (by decide +kernel)
theorem wdX1_passOfFill_84 : decode cX1_passOfFill 84 = .ok (.iconst 1, 1) := dq0 kk_4 (by decide +kernel)
theorem wdX1_passOfFill_85 : decode cX1_passOfFill 85 = .ok (.iload 4, 2) := dqU kk_21 (by decide +kernel)
theorem wdX1_passOfFill_87 : decode cX1_passOfFill 87 = .ok (.ishl, 1) := dq0 kk_120 (by decide +kernel)
theorem wdX1_passOfFill_88 : decode cX1_passOfFill 88 = .ok (.ior, 1) := dq0 kk_128 (by decide +kernel)
theorem wdX1_passOfFill_89 : decode cX1_passOfFill 89 = .ok (.iastore, 1) := dq0 kk_79 (by decide +kernel)
theorem wdX1_passOfFill_90 : decode cX1_passOfFill 90 = .ok (.iinc 3 2, 3) := dqI kk_132 (by decide +kernel)
theorem wdX1_passOfFill_33 : decode cX1_passOfFill 33 = .ok (.iconst (-1), 1) := dq0 kk_2 (by decide +kernel)
set_option maxRecDepth 4000 in
theorem lp_X1_fill {p : Program} {l : Launch} {e : Env} {s : State} {m : MethodId} {args : Array Value} {below : List Frame} {meth : Method} {c : Code} {D : va_G} {B : Nat} {cy : Nat → ClassId} {H0 : Heap} {Q : State → Prop} {M : Mem} {R : Room} {a ru q hv ed kn : Nat} {o : Wo} {P : Nat → Int} (F : CallFix p m c cX1_passOfFill 6 s args TB RX1) (hR1 : 3 ≤ R.frames) (hR2 : 66 ≤ R.locals) (hk : kd a = (9, 0, 0)) (hku : kd ru = (4, 0, 0)) (hq2 : P 2 = (kn : Int)) (hkn : kn ≤ 2) (hap : ru + 1 < a ∨ a + 2 < ru) (kk : ∀ (s9 : Nat) (cc : Nat) (Nm : Mem) (o1 : Wo) (H : Heap) (locs : List Loc) (ls : Array Slot), (CW Nm a q hv ed o1) → (fiP kn q o = (o1, cc)) → (Fr3 Nm M a) → (cc ≤ 24) → Wd D B cy s H0 Nm H locs → lv_has ls 6 [(3, .int (zI (cc : Int)))] → W p l e R s m args below meth c H locs 0 0 Q (F0 m 99 ls [])) : ∀ (f : Nat) (s9 : Nat) (cc : Nat) (Nm : Mem) (o1 : Wo), (s9 ≤ q) → (CW Nm a q hv ed o1) → (fiP kn s9 o = (o1, cc)) → (cc ≤ 2 * s9) → (Fr3 Nm M a) → (isU Nm ru P) → (q ≤ s9 + f) → ∀ (H : Heap) (locs : List Loc) (ls : Array Slot), Wd D B cy s H0 Nm H locs → lv_has ls 6 [(4, .int (zI (s9 : Int))), (3, .int (zI (cc : Int))), (0, .ref (B + 23)), (1, .ref (B + ru)), (2, .ref (B + a))] → W p l e R s m args below meth c H locs 0 0 Q (F0 m 5 ls []) := by
  have hx := F.1
  have hb := F.2.1
  intro f
  induction f with
  | zero =>
    intro s9 cc Nm o1 i0 i1 i2 i3 i4 i5 hf H locs ls w hl
    have hW1 := i1.1
    have hwf1 := i1.wf
    have hKL1 := hwf1.2.2.2.2
    have hn1 := hwf1.1
    have hq1 := hwf1.2.1
    refine lv_iload hx hb wdX1_passOfFill_5 (lv_at hl 0 rfl) ?_
    refine lv_aload_n hx hb wdX1_passOfFill_7 rfl (lv_at hl 4 rfl) ?_
    refine f_9_1 F w (a := a) hk wtb_41 wdX1_passOfFill_8 ?_
    refine r_val (v := (zI (q : Int))) (hW1.2.1) ?_
    refine z_icmp_ge (tgt := 99) hx hb (by omega) (by omega) wdX1_passOfFill_11 (by decide) (fun c1 => ?_) (fun c1 => False.elim (by omega))
    exact kk s9 cc Nm o1 _ _ ls i1 (by rw [show q = s9 by omega]; exact i2) i4 (by omega) w (lv_sub hl [1] rfl)
  | succ f ih =>
    intro s9 cc Nm o1 i0 i1 i2 i3 i4 i5 hf H locs ls w hl
    have hW1 := i1.1
    have hwf1 := i1.wf
    have hKL1 := hwf1.2.2.2.2
    have hn1 := hwf1.1
    have hq1 := hwf1.2.1
    refine lv_iload hx hb wdX1_passOfFill_5 (lv_at hl 0 rfl) ?_
    refine lv_aload_n hx hb wdX1_passOfFill_7 rfl (lv_at hl 4 rfl) ?_
    refine f_9_1 F w (a := a) hk wtb_41 wdX1_passOfFill_8 ?_
    refine r_val (v := (zI (q : Int))) (hW1.2.1) ?_
    refine z_icmp_ge (tgt := 99) hx hb (by omega) (by omega) wdX1_passOfFill_11 (by decide) (fun c1 => ?_) (fun c1 => ?_)
    · exact kk s9 cc Nm o1 _ _ ls i1 (by rw [show q = s9 by omega]; exact i2) i4 (by omega) w (lv_sub hl [1] rfl)
    · refine lv_aload_n hx hb wdX1_passOfFill_14 rfl (lv_at hl 4 rfl) ?_
      refine lv_iload hx hb wdX1_passOfFill_15 (lv_at hl 0 rfl) ?_
      refine k_Vi F w (As := [.int (zI (s9 : Int))]) (rest := []) (a := a) (kd_lt (a := a) hk (by decide)) (sh_9 hk _ _) rfl (s_X9_isBare hk hW1 hwf1 (by omega)) wgv_X1_39 whv_X9_isBare ⟨(by omega), (by omega)⟩ hl.1 rfl (Nat.le_of_ble_eq_true rfl) ⟨Nat.zero_le _, Nat.zero_le _⟩ wdX1_passOfFill_17 (fun r Ma3 H locs hp w => ?_)
      rcases hp with ⟨⟨⟨k9, e91, hk9, hb2⟩, rfl⟩ | ⟨hb2, rfl⟩, hMe⟩
      · obtain rfl : s9 = k9 := by omega
        rw [hMe] at w
        refine z_if_eq (tgt := 33) hx hb (by omega) wdX1_passOfFill_20 (by decide) (fun c4 => False.elim (by omega)) (fun c4 => ?_)
        refine lv_aload_n hx hb wdX1_passOfFill_23 rfl (lv_at hl 2 rfl) ?_
        refine lv_aload_n hx hb wdX1_passOfFill_24 rfl (lv_at hl 4 rfl) ?_
        refine lv_iload hx hb wdX1_passOfFill_25 (lv_at hl 0 rfl) ?_
        refine x_Vi F w (As := [.ref (B + a), .int (zI (s9 : Int))]) (rest := []) (a := 23) (kd_lt (a := 23) (show kd 23 = (1, 0, 0) from rfl) (by decide)) (sh_1 rfl _ _) rfl (s_X1_placeToFill hk i1 (s9 := s9) (by omega)) wgv_X1_78 whv_X1_placeToFill ⟨(by omega), (by omega)⟩ hl.1 rfl (Nat.le_of_ble_eq_true rfl) ⟨Nat.zero_le _, Nat.zero_le _⟩ wdX1_passOfFill_27 (fun H locs w => ?_)
        have hpl := plF_le (L := o1.2.2) (s9 := s9) o1.1
        refine lv_goto (tgt := 34) hx hb wdX1_passOfFill_30 (by decide) ?_
        refine lv_istore (lv' := [(5, .int (zI (((plF o1.2.2 s9 o1.1) : Nat) : Int))), (4, .int (zI (s9 : Int))), (3, .int (zI (cc : Int))), (0, .ref (B + 23)), (1, .ref (B + ru)), (2, .ref (B + a))]) hx hb wdX1_passOfFill_34 hl (by decide) rfl (fun ls hl => ?_)
        refine lv_iload hx hb wdX1_passOfFill_36 (lv_at hl 0 rfl) ?_
        refine lv_iconst (v := zI (-1)) hx hb wdX1_passOfFill_38 rfl ?_
        refine z_icmp_eq (tgt := 93) hx hb (by omega) (by omega) wdX1_passOfFill_39 (by decide) (fun c6 => False.elim (by omega)) (fun c6 => ?_)
        refine lv_aload_n hx hb wdX1_passOfFill_42 rfl (lv_at hl 5 rfl) ?_
        refine f_9_0 F w (a := a) hk wtb_32 wdX1_passOfFill_43 ?_
        refine r_val (v := (zI ((o1.1 : Nat) : Int))) (hW1.1) ?_
        refine lv_bipush (v := zI 12) hx hb wdX1_passOfFill_46 (by decide) ?_
        refine z_icmp_ge (tgt := 93) hx hb (by omega) (by omega) wdX1_passOfFill_48 (by decide) (fun c7 => ?_) (fun c7 => ?_)
        · refine z_iinc (v := (((s9 + 1) : Nat) : Int)) (lv' := [(4, .int (zI (((s9 + 1) : Nat) : Int))), (5, .int (zI (((plF o1.2.2 s9 o1.1) : Nat) : Int))), (3, .int (zI (cc : Int))), (0, .ref (B + 23)), (1, .ref (B + ru)), (2, .ref (B + a))]) hx hb wdX1_passOfFill_93 hl (k := 1) rfl (by omega) (by decide) rfl (fun ls hl => ?_)
          refine lv_goto (tgt := 5) hx hb wdX1_passOfFill_96 (by decide) ?_
          exact ih (s9 + 1) (cc + 0) Nm o1 (by omega) i1 (fiP_s i2 (fiS_n (fun h9 => by have h8 := h9.2.1; omega))) (by omega) i4 i5 (by omega) _ _ ls w (lv_sub hl [0, 2, 3, 4, 5] rfl)
        · refine lv_aload_n hx hb wdX1_passOfFill_51 rfl (lv_at hl 5 rfl) ?_
          refine lv_iload hx hb wdX1_passOfFill_52 (lv_at hl 0 rfl) ?_
          refine lv_iload hx hb wdX1_passOfFill_54 (lv_at hl 0 rfl) ?_
          refine lv_iload hx hb wdX1_passOfFill_56 (lv_at hl 1 rfl) ?_
          refine k_Vi F w (As := [.int (zI (((plF o1.2.2 s9 o1.1) : Nat) : Int)), .int (zI (((plF o1.2.2 s9 o1.1) : Nat) : Int)), .int (zI (s9 : Int))]) (rest := []) (a := a) (kd_lt (a := a) hk (by decide)) (sh_9 hk _ _) rfl (s_X9_crossesNone hk hW1 hwf1 (x := (plF o1.2.2 s9 o1.1)) (y := (plF o1.2.2 s9 o1.1)) (j := s9) (by omega) (by omega) (by omega)) wgv_X1_82 whv_X9_crossesNone ⟨(by omega), (by omega)⟩ hl.1 rfl (Nat.le_of_ble_eq_true rfl) ⟨Nat.zero_le _, Nat.zero_le _⟩ wdX1_passOfFill_58 (fun r Ma8 H locs hp w => ?_)
          rcases hp with ⟨⟨hc9, rfl⟩ | ⟨hc9, rfl⟩, hMe⟩
          · rw [hMe] at w
            refine z_if_eq (tgt := 93) hx hb (by omega) wdX1_passOfFill_61 (by decide) (fun c9 => False.elim (by omega)) (fun c9 => ?_)
            refine lv_aload_n hx hb wdX1_passOfFill_64 rfl (lv_at hl 5 rfl) ?_
            refine lv_iload hx hb wdX1_passOfFill_65 (lv_at hl 0 rfl) ?_
            refine lv_aload_n hx hb wdX1_passOfFill_67 rfl (lv_at hl 4 rfl) ?_
            refine f_4_0 F w (a := ru) hku wtb_45 wdX1_passOfFill_68 ?_
            refine lv_iconst (v := zI 2) hx hb wdX1_passOfFill_71 rfl ?_
            refine g_iald F w (a := (ru + 1)) (kd_r1 hku) (j := 2) ⟨by decide, by decide⟩ (by omega) wdX1_passOfFill_72 ?_
            refine r_val (v := (zI (P 2))) (i5 2 (by decide)) ?_
            refine r_val (v := (zI (kn : Int))) (congrArg zI hq2) ?_
            refine k_Vv F w (As := [.int (zI (((plF o1.2.2 s9 o1.1) : Nat) : Int)), .int (zI (kn : Int))]) (rest := []) (a := a) (kd_lt (a := a) hk (by decide)) (sh_9 hk _ _) rfl (s_X9_insertTone hk hW1 hwf1 (t := (plF o1.2.2 s9 o1.1)) (x := kn) (by omega) (by omega) hkn) wgv_X1_86 whv_X9_insertTone ⟨(by omega), (by omega)⟩ hl.1 rfl (Nat.le_of_ble_eq_true rfl) ⟨Nat.zero_le _, Nat.zero_le _⟩ wdX1_passOfFill_73 (fun Ma10 H locs hp w => ?_)
            rcases hp with ⟨hW2, hF2⟩
            refine lv_aload_n hx hb wdX1_passOfFill_76 rfl (lv_at hl 5 rfl) ?_
            refine f_9_5 F w (a := a) hk wtb_27 wdX1_passOfFill_77 ?_
            refine lv_iload hx hb wdX1_passOfFill_80 (lv_at hl 0 rfl) ?_
            refine lv_dup2_11 hx hb wdX1_passOfFill_82 rfl rfl ?_
            refine g_iald F w (a := (a + 2)) (kd_w2 hk) (j := (plF o1.2.2 s9 o1.1)) (ix_n (by omega)) (by omega) wdX1_passOfFill_83 ?_
            refine r_val (v := (zI 0)) ((hW2.2.2.2.2.2 (plF o1.2.2 s9 o1.1) (by omega)).trans (by rw [insF_at]; rfl)) ?_
            refine lv_iconst (v := zI 1) hx hb wdX1_passOfFill_84 rfl ?_
            refine lv_iload hx hb wdX1_passOfFill_85 (lv_at hl 1 rfl) ?_
            refine lv_ishl hx hb wdX1_passOfFill_87 ?_
            refine r_val (v := (zI (((2 ^ s9) : Nat) : Int))) (zb_shl (n := s9) (by omega)) ?_
            have q11 := p2_b (n := s9) (by omega)
            refine lv_ior hx hb wdX1_passOfFill_88 ?_
            refine r_val (v := (zI (((0 ||| (2 ^ s9)) : Nat) : Int))) (zb_or 0 (2 ^ s9)) ?_
            have q12 := or_lt12 (a := 0) (b := (2 ^ s9)) (by omega) (by omega)
            refine g_iast F w (a := (a + 2)) (kd_w2 hk) (j := (plF o1.2.2 s9 o1.1)) (ix_n (by omega)) (by omega) wdX1_passOfFill_89 (fun H locs w => ?_)
            refine z_iinc (v := (((cc + 2) : Nat) : Int)) (lv' := [(3, .int (zI (((cc + 2) : Nat) : Int))), (5, .int (zI (((plF o1.2.2 s9 o1.1) : Nat) : Int))), (4, .int (zI (s9 : Int))), (0, .ref (B + 23)), (1, .ref (B + ru)), (2, .ref (B + a))]) hx hb wdX1_passOfFill_90 hl (k := 2) rfl (by omega) (by decide) rfl (fun ls hl => ?_)
            refine z_iinc (v := (((s9 + 1) : Nat) : Int)) (lv' := [(4, .int (zI (((s9 + 1) : Nat) : Int))), (3, .int (zI (((cc + 2) : Nat) : Int))), (5, .int (zI (((plF o1.2.2 s9 o1.1) : Nat) : Int))), (0, .ref (B + 23)), (1, .ref (B + ru)), (2, .ref (B + a))]) hx hb wdX1_passOfFill_93 hl (k := 2) rfl (by omega) (by decide) rfl (fun ls hl => ?_)
            refine lv_goto (tgt := 5) hx hb wdX1_passOfFill_96 (by decide) ?_
            exact ih (s9 + 1) (cc + 2) (st Ma10 (a + 2) (plF o1.2.2 s9 o1.1) (zI (((0 ||| (2 ^ s9)) : Nat) : Int))) (fiO kn s9 o1) (by omega) ⟨wlineW hW2, okW_fi i1.2.1 (by omega) hkn (by omega), i1.2.2⟩ (fiP_s i2 (fiS_y ⟨hb2, by omega, hc9⟩)) (by omega) (Fr3.tr i4 (wlineF hF2)) (isU.fr i5 ((wlineF hF2).1 (ru + 1) (by omega) (by omega) (by omega))) (by omega) _ _ ls w (lv_sub hl [0, 1, 3, 4, 5] rfl)
          · rw [hMe] at w
            refine z_if_eq (tgt := 93) hx hb (by omega) wdX1_passOfFill_61 (by decide) (fun c13 => ?_) (fun c13 => False.elim (by omega))
            refine z_iinc (v := (((s9 + 1) : Nat) : Int)) (lv' := [(4, .int (zI (((s9 + 1) : Nat) : Int))), (5, .int (zI (((plF o1.2.2 s9 o1.1) : Nat) : Int))), (3, .int (zI (cc : Int))), (0, .ref (B + 23)), (1, .ref (B + ru)), (2, .ref (B + a))]) hx hb wdX1_passOfFill_93 hl (k := 1) rfl (by omega) (by decide) rfl (fun ls hl => ?_)
            refine lv_goto (tgt := 5) hx hb wdX1_passOfFill_96 (by decide) ?_
            exact ih (s9 + 1) (cc + 0) Nm o1 (by omega) i1 (fiP_s i2 (fiS_n (fun h9 => hc9 h9.2.2))) (by omega) i4 i5 (by omega) _ _ ls w (lv_sub hl [0, 2, 3, 4, 5] rfl)
      · replace hb2 : ¬ bareP o1.1 o1.2.2 s9 := fun h9 => hb2 ⟨_, rfl, by omega, h9⟩
        rw [hMe] at w
        refine z_if_eq (tgt := 33) hx hb (by omega) wdX1_passOfFill_20 (by decide) (fun c14 => ?_) (fun c14 => False.elim (by omega))
        refine lv_iconst (v := zI (-1)) hx hb wdX1_passOfFill_33 rfl ?_
        refine lv_istore (lv' := [(5, .int (zI (-1))), (4, .int (zI (s9 : Int))), (3, .int (zI (cc : Int))), (0, .ref (B + 23)), (1, .ref (B + ru)), (2, .ref (B + a))]) hx hb wdX1_passOfFill_34 hl (by decide) rfl (fun ls hl => ?_)
        refine lv_iload hx hb wdX1_passOfFill_36 (lv_at hl 0 rfl) ?_
        refine lv_iconst (v := zI (-1)) hx hb wdX1_passOfFill_38 rfl ?_
        refine z_icmp_eq (tgt := 93) hx hb (by omega) (by omega) wdX1_passOfFill_39 (by decide) (fun c15 => ?_) (fun c15 => False.elim (by omega))
        refine z_iinc (v := (((s9 + 1) : Nat) : Int)) (lv' := [(4, .int (zI (((s9 + 1) : Nat) : Int))), (5, .int (zI (-1))), (3, .int (zI (cc : Int))), (0, .ref (B + 23)), (1, .ref (B + ru)), (2, .ref (B + a))]) hx hb wdX1_passOfFill_93 hl (k := 1) rfl (by omega) (by decide) rfl (fun ls hl => ?_)
        refine lv_goto (tgt := 5) hx hb wdX1_passOfFill_96 (by decide) ?_
        exact ih (s9 + 1) (cc + 0) Nm o1 (by omega) i1 (fiP_s i2 (fiS_n (fun h9 => hb2 h9.1))) (by omega) i4 i5 (by omega) _ _ ls w (lv_sub hl [0, 2, 3, 4, 5] rfl)
theorem wdX1_passOfFill_0 : decode cX1_passOfFill 0 = .ok (.iconst 0, 1) := dq0 kk_3 (by decide +kernel)
theorem wdX1_passOfFill_1 : decode cX1_passOfFill 1 = .ok (.istore_n 3, 1) := dq0 kk_62 (by decide +kernel)
theorem wdX1_passOfFill_2 : decode cX1_passOfFill 2 = .ok (.iconst 0, 1) := dq0 kk_3 (by decide +kernel)
theorem wdX1_passOfFill_3 : decode cX1_passOfFill 3 = .ok (.istore 4, 2) := dqU kk_54 (by decide +kernel)
theorem wdX1_passOfFill_99 : decode cX1_passOfFill 99 = .ok (.iload_n 3, 1) := dq0 kk_29 (by decide +kernel)
theorem wdX1_passOfFill_100 : decode cX1_passOfFill 100 = .ok (.ireturn, 1) := dq0 kk_172 (by decide +kernel)
set_option maxRecDepth 4000 in
theorem s_X1_passOfFill {l : Launch} {D : va_G} {B : Nat} {cy : Nat → ClassId} {M : Mem} {a q hv ed : Nat} {o : Wo} (hk : kd a = (9, 0, 0)) (hC : CW M a q hv ed o) {ru : Nat} {P : Nat → Int} (hku : kd ru = (4, 0, 0)) (hU : isU M ru P) (hP : okP P) (hap : ru + 1 < a ∨ a + 2 < ru) {kn : Nat} (hq2 : P 2 = (kn : Int)) (hkn : kn ≤ 2) : Ci l D B cy yX1_passOfFill cX1_passOfFill 6 (some .int) 3 66 [.ref (B + 23), .ref (B + ru), .ref (B + a)] M (fun r M1 => ∃ o1 cc, fiP kn q o = (o1, cc) ∧ r = zI ((cc : Nat) : Int) ∧ CW M1 a q hv ed o1 ∧ Fr3 M1 M a ∧ cc ≤ 24) := by
  refine s_any (by decide) (Nat.le_of_ble_eq_true rfl) ?_
  intro p e s m below meth c ls F hr hlocks w hl
  have F : CallFix p m c cX1_passOfFill 6 s _ TB RX1 := F
  have hx := F.1
  have hb := F.2.1
  have hl : lv_has ls 6 [(0, .ref (B + 23)), (1, .ref (B + ru)), (2, .ref (B + a))] := hl
  have hW := hC.1
  have hwf := hC.wf
  have hKL := hwf.2.2.2.2
  have hn12 := hwf.1
  have hq12 := hwf.2.1
  refine lv_iconst (v := zI 0) hx hb wdX1_passOfFill_0 rfl ?_
  refine lv_istore_n (lv' := [(3, .int (zI 0)), (0, .ref (B + 23)), (1, .ref (B + ru)), (2, .ref (B + a))]) hx hb wdX1_passOfFill_1 rfl hl (by decide) rfl (fun ls hl => ?_)
  refine lv_iconst (v := zI 0) hx hb wdX1_passOfFill_2 rfl ?_
  refine lv_istore (lv' := [(4, .int (zI 0)), (3, .int (zI 0)), (0, .ref (B + 23)), (1, .ref (B + ru)), (2, .ref (B + a))]) hx hb wdX1_passOfFill_3 hl (by decide) rfl (fun ls hl => ?_)
  refine lp_X1_fill  F (Nat.le_of_ble_eq_true rfl) (Nat.le_of_ble_eq_true rfl) hk hku hq2 hkn hap (fun s9 cc Nm o1 H locs ls x0 x1 x2 x3 w hl => ?_) q 0 0 M o (by omega) hC rfl (by omega) Fr3.rf hU (by omega) _ _ ls w (lv_sub hl [0, 1, 2, 3, 4] rfl)
  refine lv_iload_n hx hb wdX1_passOfFill_99 rfl (lv_at hl 0 rfl) ?_
  exact e_i F w hr hlocks ⟨o1, cc, x1, rfl, x0, x2, x3⟩ wdX1_passOfFill_100
