theorem dX9_clear_0 : decode cX9_clear 0 = .ok (.aload_n 0, 1) := dq0 kk_42 (by decide +kernel)
theorem dX9_clear_1 : decode cX9_clear 1 = .ok (.iconst 0, 1) := dq0 kk_3 (by decide +kernel)
theorem dX9_clear_2 : decode cX9_clear 2 = .ok (.putfield 9, 3) := dqV kk_181 (by decide +kernel)
theorem dX9_clear_5 : decode cX9_clear 5 = .ok (.aload_n 0, 1) := dq0 kk_42 (by decide +kernel)
theorem dX9_clear_6 : decode cX9_clear 6 = .ok (.iconst 0, 1) := dq0 kk_3 (by decide +kernel)
theorem dX9_clear_7 : decode cX9_clear 7 = .ok (.putfield 15, 3) := dqV kk_181 (by decide +kernel)
theorem dX9_clear_10 : decode cX9_clear 10 = .ok (.aload_n 0, 1) := dq0 kk_42 (by decide +kernel)
theorem dX9_clear_11 : decode cX9_clear 11 = .ok (.iconst 0, 1) := dq0 kk_3 (by decide +kernel)
theorem dX9_clear_12 : decode cX9_clear 12 = .ok (.putfield 18, 3) := dqV kk_181 (by decide +kernel)
theorem dX9_clear_15 : decode cX9_clear 15 = .ok (.aload_n 0, 1) := dq0 kk_42 (by decide +kernel)
theorem dX9_clear_16 : decode cX9_clear 16 = .ok (.iconst 0, 1) := dq0 kk_3 (by decide +kernel)
theorem dX9_clear_17 : decode cX9_clear 17 = .ok (.putfield 21, 3) := dqV kk_181 (by decide +kernel)
theorem dX9_clear_20 : decode cX9_clear 20 = .ok (.return_, 1) := dq0 kk_177 (by decide +kernel)
set_option maxRecDepth 4000 in
theorem s_X9_clear {l : Launch} {D : va_G} {B : Nat} {cy : Nat → ClassId} {M : Mem} {a : Nat} (hk : kd a = (9, 0, 0)) : Cv l D B cy yX9_clear cX9_clear 1 0 0 [.ref (B + a)] M (fun M1 => isW M1 a 0 0 0 0 (fun _ => 0) (fun _ => 0) ∧ Fr3 M1 M a) := by
  refine s_any (by decide) (Nat.le_of_ble_eq_true rfl) ?_
  intro p e s m below meth c ls F hr hlocks w hl
  have F : CallFix p m c cX9_clear 1 s _ TB RX9 := F
  have hx := F.1
  have hb := F.2.1
  have hl : lv_has ls 1 [(0, .ref (B + a))] := hl
  refine lv_aload_n hx hb dX9_clear_0 rfl (lv_at hl 0 rfl) ?_
  refine lv_iconst (v := zI 0) hx hb dX9_clear_1 rfl ?_
  refine u_9_0 F w (a := a) hk tb_0 dX9_clear_2 (fun H locs w => ?_)
  refine lv_aload_n hx hb dX9_clear_5 rfl (lv_at hl 0 rfl) ?_
  refine lv_iconst (v := zI 0) hx hb dX9_clear_6 rfl ?_
  refine u_9_1 F w (a := a) hk tb_1 dX9_clear_7 (fun H locs w => ?_)
  refine lv_aload_n hx hb dX9_clear_10 rfl (lv_at hl 0 rfl) ?_
  refine lv_iconst (v := zI 0) hx hb dX9_clear_11 rfl ?_
  refine u_9_2 F w (a := a) hk tb_11 dX9_clear_12 (fun H locs w => ?_)
  refine lv_aload_n hx hb dX9_clear_15 rfl (lv_at hl 0 rfl) ?_
  refine lv_iconst (v := zI 0) hx hb dX9_clear_16 rfl ?_
  refine u_9_3 F w (a := a) hk tb_12 dX9_clear_17 (fun H locs w => ?_)
  exact e_v F w hr hlocks ⟨⟨by simp [st, sA, upd], by simp [st, sA, upd], by simp [st, sA, upd], by simp [st, sA, upd], fun k9 hk9 => absurd hk9 (Nat.not_lt_zero k9), fun k9 hk9 => absurd hk9 (Nat.not_lt_zero k9)⟩, ⟨fun b9 h91 h92 h93 => by simp [st, sA, h91, h92, h93], rfl⟩⟩ dX9_clear_20
theorem dX9_setSyllable_0 : decode cX9_setSyllable 0 = .ok (.iconst 1, 1) := dq0 kk_4 (by decide +kernel)
theorem dX9_setSyllable_1 : decode cX9_setSyllable 1 = .ok (.iload_n 1, 1) := dq0 kk_27 (by decide +kernel)
theorem dX9_setSyllable_2 : decode cX9_setSyllable 2 = .ok (.ishl, 1) := dq0 kk_120 (by decide +kernel)
theorem dX9_setSyllable_3 : decode cX9_setSyllable 3 = .ok (.istore 4, 2) := dqU kk_54 (by decide +kernel)
theorem dX9_setSyllable_5 : decode cX9_setSyllable 5 = .ok (.aload_n 0, 1) := dq0 kk_42 (by decide +kernel)
theorem dX9_setSyllable_6 : decode cX9_setSyllable 6 = .ok (.iload_n 2, 1) := dq0 kk_28 (by decide +kernel)
theorem dX9_setSyllable_7 : decode cX9_setSyllable 7 = .ok (.ifCond .eq 13, 3) := dqT kk_153 (by decide +kernel)
theorem dX9_setSyllable_20 : decode cX9_setSyllable 20 = .ok (.aload_n 0, 1) := dq0 kk_42 (by decide +kernel)
theorem dX9_setSyllable_21 : decode cX9_setSyllable 21 = .ok (.getfield 18, 3) := dqV kk_180 (by decide +kernel)
theorem dX9_setSyllable_24 : decode cX9_setSyllable 24 = .ok (.iload 4, 2) := dqU kk_21 (by decide +kernel)
theorem dX9_setSyllable_26 : decode cX9_setSyllable 26 = .ok (.iconst (-1), 1) := dq0 kk_2 (by decide +kernel)
theorem dX9_setSyllable_27 : decode cX9_setSyllable 27 = .ok (.ixor, 1) := dq0 kk_130 (by decide +kernel)
theorem dX9_setSyllable_28 : decode cX9_setSyllable 28 = .ok (.iand, 1) := dq0 kk_126 (by decide +kernel)
theorem dX9_setSyllable_29 : decode cX9_setSyllable 29 = .ok (.putfield 18, 3) := dqV kk_181 (by decide +kernel)
theorem dX9_setSyllable_32 : decode cX9_setSyllable 32 = .ok (.aload_n 0, 1) := dq0 kk_42 (by decide +kernel)
theorem dX9_setSyllable_33 : decode cX9_setSyllable 33 = .ok (.iload_n 3, 1) := dq0 kk_29 (by decide +kernel)
theorem dX9_setSyllable_34 : decode cX9_setSyllable 34 = .ok (.ifCond .eq 13, 3) := dqT kk_153 (by decide +kernel)
theorem dX9_setSyllable_47 : decode cX9_setSyllable 47 = .ok (.aload_n 0, 1) := dq0 kk_42 (by decide +kernel)
theorem dX9_setSyllable_48 : decode cX9_setSyllable 48 = .ok (.getfield 21, 3) := dqV kk_180 (by decide +kernel)
theorem dX9_setSyllable_51 : decode cX9_setSyllable 51 = .ok (.iload 4, 2) := dqU kk_21 (by decide +kernel)
theorem dX9_setSyllable_53 : decode cX9_setSyllable 53 = .ok (.iconst (-1), 1) := dq0 kk_2 (by decide +kernel)
theorem dX9_setSyllable_54 : decode cX9_setSyllable 54 = .ok (.ixor, 1) := dq0 kk_130 (by decide +kernel)
theorem dX9_setSyllable_55 : decode cX9_setSyllable 55 = .ok (.iand, 1) := dq0 kk_126 (by decide +kernel)
theorem dX9_setSyllable_56 : decode cX9_setSyllable 56 = .ok (.putfield 21, 3) := dqV kk_181 (by decide +kernel)
theorem dX9_setSyllable_59 : decode cX9_setSyllable 59 = .ok (.return_, 1) := dq0 kk_177 (by decide +kernel)
theorem dX9_setSyllable_37 : decode cX9_setSyllable 37 = .ok (.aload_n 0, 1) := dq0 kk_42 (by decide +kernel)
theorem dX9_setSyllable_38 : decode cX9_setSyllable 38 = .ok (.getfield 21, 3) := dqV kk_180 (by decide +kernel)
theorem dX9_setSyllable_41 : decode cX9_setSyllable 41 = .ok (.iload 4, 2) := dqU kk_21 (by decide +kernel)
theorem dX9_setSyllable_43 : decode cX9_setSyllable 43 = .ok (.ior, 1) := dq0 kk_128 (by decide +kernel)
theorem dX9_setSyllable_44 : decode cX9_setSyllable 44 = .ok (.goto 12, 3) := dqT kk_167 (by decide +kernel)
theorem dX9_setSyllable_10 : decode cX9_setSyllable 10 = .ok (.aload_n 0, 1) := dq0 kk_42 (by decide +kernel)
theorem dX9_setSyllable_11 : decode cX9_setSyllable 11 = .ok (.getfield 18, 3) := dqV kk_180 (by decide +kernel)
theorem dX9_setSyllable_14 : decode cX9_setSyllable 14 = .ok (.iload 4, 2) := dqU kk_21 (by decide +kernel)
theorem dX9_setSyllable_16 : decode cX9_setSyllable 16 = .ok (.ior, 1) := dq0 kk_128 (by decide +kernel)
theorem dX9_setSyllable_17 : decode cX9_setSyllable 17 = .ok (.goto 12, 3) := dqT kk_167 (by decide +kernel)
set_option maxRecDepth 4000 in
theorem s_X9_setSyllable {l : Launch} {D : va_G} {B : Nat} {cy : Nat → ClassId} {M : Mem} {a n q hv ed : Nat} {K L : Nat → Nat} (hk : kd a = (9, 0, 0)) (hW : isW M a n q hv ed K L) (hwf : wf n q hv ed K L)  {j x y : Nat} (hj : j < 12) (hx9 : x = 0 ∨ x = 1) (hy9 : y = 0 ∨ y = 1) : Cv l D B cy yX9_setSyllable cX9_setSyllable 5 0 0 [.ref (B + a), .int (zI (j : Int)), .int (zI (x : Int)), .int (zI (y : Int))] M (fun M1 => isW M1 a n q (sbit hv j x) (sbit ed j y) K L ∧ Fr3 M1 M a) := by
  refine s_any (by decide) (Nat.le_of_ble_eq_true rfl) ?_
  intro p e s m below meth c ls F hr hlocks w hl
  have F : CallFix p m c cX9_setSyllable 5 s _ TB RX9 := F
  have hx := F.1
  have hb := F.2.1
  have hl : lv_has ls 5 [(0, .ref (B + a)), (1, .int (zI (j : Int))), (2, .int (zI (x : Int))), (3, .int (zI (y : Int)))] := hl
  have hwf0 := hwf
  obtain ⟨hn, hq, hhv, hed, hKL⟩ := hwf0
  refine lv_iconst (v := zI 1) hx hb dX9_setSyllable_0 rfl ?_
  refine lv_iload_n hx hb dX9_setSyllable_1 rfl (lv_at hl 1 rfl) ?_
  refine lv_ishl hx hb dX9_setSyllable_2 ?_
  refine r_val (v := (zI (((2 ^ j) : Nat) : Int))) (zb_shl (n := j) (by omega)) ?_
  have q1 := p2_b (n := j) (by omega)
  refine lv_istore (lv' := [(4, .int (zI (((2 ^ j) : Nat) : Int))), (0, .ref (B + a)), (1, .int (zI (j : Int))), (2, .int (zI (x : Int))), (3, .int (zI (y : Int)))]) hx hb dX9_setSyllable_3 hl (by decide) rfl (fun ls hl => ?_)
  refine lv_aload_n hx hb dX9_setSyllable_5 rfl (lv_at hl 1 rfl) ?_
  refine lv_iload_n hx hb dX9_setSyllable_6 rfl (lv_at hl 3 rfl) ?_
  refine z_if_eq (tgt := 20) hx hb (by omega) dX9_setSyllable_7 (by decide) (fun c2 => ?_) (fun c2 => ?_)
  · refine lv_aload_n hx hb dX9_setSyllable_20 rfl (lv_at hl 1 rfl) ?_
    refine f_9_2 F w (a := a) hk tb_11 dX9_setSyllable_21 ?_
    refine r_val (v := (zI (hv : Int))) (hW.2.2.1) ?_
    refine lv_iload hx hb dX9_setSyllable_24 (lv_at hl 0 rfl) ?_
    refine lv_iconst (v := zI (-1)) hx hb dX9_setSyllable_26 rfl ?_
    refine lv_ixor hx hb dX9_setSyllable_27 ?_
    refine lv_iand hx hb dX9_setSyllable_28 ?_
    refine r_val (v := (zI (((andn hv (2 ^ j)) : Nat) : Int))) (zb_andn _ _) ?_
    have q4 := andn_le hv (2 ^ j)
    refine u_9_2 F w (a := a) hk tb_11 dX9_setSyllable_29 (fun H locs w => ?_)
    refine lv_aload_n hx hb dX9_setSyllable_32 rfl (lv_at hl 1 rfl) ?_
    refine lv_iload_n hx hb dX9_setSyllable_33 rfl (lv_at hl 4 rfl) ?_
    refine z_if_eq (tgt := 47) hx hb (by omega) dX9_setSyllable_34 (by decide) (fun c5 => ?_) (fun c5 => ?_)
    · refine lv_aload_n hx hb dX9_setSyllable_47 rfl (lv_at hl 1 rfl) ?_
      refine f_9_3 F w (a := a) hk tb_12 dX9_setSyllable_48 ?_
      refine r_val (v := (zI (ed : Int))) ((st_ne (Or.inr (by omega))).trans (hW.2.2.2.1)) ?_
      refine lv_iload hx hb dX9_setSyllable_51 (lv_at hl 0 rfl) ?_
      refine lv_iconst (v := zI (-1)) hx hb dX9_setSyllable_53 rfl ?_
      refine lv_ixor hx hb dX9_setSyllable_54 ?_
      refine lv_iand hx hb dX9_setSyllable_55 ?_
      refine r_val (v := (zI (((andn ed (2 ^ j)) : Nat) : Int))) (zb_andn _ _) ?_
      have q7 := andn_le ed (2 ^ j)
      refine u_9_3 F w (a := a) hk tb_12 dX9_setSyllable_56 (fun H locs w => ?_)
      exact e_v F w hr hlocks ⟨⟨by simp [st, sA, upd, hW.1], by simp [st, sA, upd, hW.2.1], by rw [show sbit hv j x = _ from sbit_0 (by omega)]; simp [st, sA, upd], by rw [show sbit ed j y = _ from sbit_0 (by omega)]; simp [st, sA, upd], fun k9 hk9 => by simp [st, sA, upd, hW.2.2.2.2.1 k9 hk9], fun k9 hk9 => by simp [st, sA, upd, hW.2.2.2.2.2 k9 hk9]⟩, ⟨fun b9 h91 h92 h93 => by simp [st, sA, h91, h92, h93], rfl⟩⟩ dX9_setSyllable_59
    · refine lv_aload_n hx hb dX9_setSyllable_37 rfl (lv_at hl 1 rfl) ?_
      refine f_9_3 F w (a := a) hk tb_12 dX9_setSyllable_38 ?_
      refine r_val (v := (zI (ed : Int))) ((st_ne (Or.inr (by omega))).trans (hW.2.2.2.1)) ?_
      refine lv_iload hx hb dX9_setSyllable_41 (lv_at hl 0 rfl) ?_
      refine lv_ior hx hb dX9_setSyllable_43 ?_
      refine r_val (v := (zI (((ed ||| (2 ^ j)) : Nat) : Int))) (zb_or ed (2 ^ j)) ?_
      have q8 := or_lt12 (a := ed) (b := (2 ^ j)) (by omega) (by omega)
      refine lv_goto (tgt := 56) hx hb dX9_setSyllable_44 (by decide) ?_
      refine u_9_3 F w (a := a) hk tb_12 dX9_setSyllable_56 (fun H locs w => ?_)
      exact e_v F w hr hlocks ⟨⟨by simp [st, sA, upd, hW.1], by simp [st, sA, upd, hW.2.1], by rw [show sbit hv j x = _ from sbit_0 (by omega)]; simp [st, sA, upd], by rw [show sbit ed j y = _ from sbit_1 (by omega)]; simp [st, sA, upd], fun k9 hk9 => by simp [st, sA, upd, hW.2.2.2.2.1 k9 hk9], fun k9 hk9 => by simp [st, sA, upd, hW.2.2.2.2.2 k9 hk9]⟩, ⟨fun b9 h91 h92 h93 => by simp [st, sA, h91, h92, h93], rfl⟩⟩ dX9_setSyllable_59
  · refine lv_aload_n hx hb dX9_setSyllable_10 rfl (lv_at hl 1 rfl) ?_
    refine f_9_2 F w (a := a) hk tb_11 dX9_setSyllable_11 ?_
    refine r_val (v := (zI (hv : Int))) (hW.2.2.1) ?_
    refine lv_iload hx hb dX9_setSyllable_14 (lv_at hl 0 rfl) ?_
    refine lv_ior hx hb dX9_setSyllable_16 ?_
    refine r_val (v := (zI (((hv ||| (2 ^ j)) : Nat) : Int))) (zb_or hv (2 ^ j)) ?_
    have q9 := or_lt12 (a := hv) (b := (2 ^ j)) (by omega) (by omega)
    refine lv_goto (tgt := 29) hx hb dX9_setSyllable_17 (by decide) ?_
    refine u_9_2 F w (a := a) hk tb_11 dX9_setSyllable_29 (fun H locs w => ?_)
    refine lv_aload_n hx hb dX9_setSyllable_32 rfl (lv_at hl 1 rfl) ?_
    refine lv_iload_n hx hb dX9_setSyllable_33 rfl (lv_at hl 4 rfl) ?_
    refine z_if_eq (tgt := 47) hx hb (by omega) dX9_setSyllable_34 (by decide) (fun c10 => ?_) (fun c10 => ?_)
    · refine lv_aload_n hx hb dX9_setSyllable_47 rfl (lv_at hl 1 rfl) ?_
      refine f_9_3 F w (a := a) hk tb_12 dX9_setSyllable_48 ?_
      refine r_val (v := (zI (ed : Int))) ((st_ne (Or.inr (by omega))).trans (hW.2.2.2.1)) ?_
      refine lv_iload hx hb dX9_setSyllable_51 (lv_at hl 0 rfl) ?_
      refine lv_iconst (v := zI (-1)) hx hb dX9_setSyllable_53 rfl ?_
      refine lv_ixor hx hb dX9_setSyllable_54 ?_
      refine lv_iand hx hb dX9_setSyllable_55 ?_
      refine r_val (v := (zI (((andn ed (2 ^ j)) : Nat) : Int))) (zb_andn _ _) ?_
      have q12 := andn_le ed (2 ^ j)
      refine u_9_3 F w (a := a) hk tb_12 dX9_setSyllable_56 (fun H locs w => ?_)
      exact e_v F w hr hlocks ⟨⟨by simp [st, sA, upd, hW.1], by simp [st, sA, upd, hW.2.1], by rw [show sbit hv j x = _ from sbit_1 (by omega)]; simp [st, sA, upd], by rw [show sbit ed j y = _ from sbit_0 (by omega)]; simp [st, sA, upd], fun k9 hk9 => by simp [st, sA, upd, hW.2.2.2.2.1 k9 hk9], fun k9 hk9 => by simp [st, sA, upd, hW.2.2.2.2.2 k9 hk9]⟩, ⟨fun b9 h91 h92 h93 => by simp [st, sA, h91, h92, h93], rfl⟩⟩ dX9_setSyllable_59
    · refine lv_aload_n hx hb dX9_setSyllable_37 rfl (lv_at hl 1 rfl) ?_
      refine f_9_3 F w (a := a) hk tb_12 dX9_setSyllable_38 ?_
      refine r_val (v := (zI (ed : Int))) ((st_ne (Or.inr (by omega))).trans (hW.2.2.2.1)) ?_
      refine lv_iload hx hb dX9_setSyllable_41 (lv_at hl 0 rfl) ?_
      refine lv_ior hx hb dX9_setSyllable_43 ?_
      refine r_val (v := (zI (((ed ||| (2 ^ j)) : Nat) : Int))) (zb_or ed (2 ^ j)) ?_
      have q13 := or_lt12 (a := ed) (b := (2 ^ j)) (by omega) (by omega)
      refine lv_goto (tgt := 56) hx hb dX9_setSyllable_44 (by decide) ?_
      refine u_9_3 F w (a := a) hk tb_12 dX9_setSyllable_56 (fun H locs w => ?_)
      exact e_v F w hr hlocks ⟨⟨by simp [st, sA, upd, hW.1], by simp [st, sA, upd, hW.2.1], by rw [show sbit hv j x = _ from sbit_1 (by omega)]; simp [st, sA, upd], by rw [show sbit ed j y = _ from sbit_1 (by omega)]; simp [st, sA, upd], fun k9 hk9 => by simp [st, sA, upd, hW.2.2.2.2.1 k9 hk9], fun k9 hk9 => by simp [st, sA, upd, hW.2.2.2.2.2 k9 hk9]⟩, ⟨fun b9 h91 h92 h93 => by simp [st, sA, h91, h92, h93], rfl⟩⟩ dX9_setSyllable_59
theorem dX9_insertTone_27 : decode cX9_insertTone 27 = .ok (.iload_n 3, 1) := dq0 kk_29 (by decide +kernel)
theorem dX9_insertTone_28 : decode cX9_insertTone 28 = .ok (.iload_n 1, 1) := dq0 kk_27 (by decide +kernel)
theorem dX9_insertTone_29 : decode cX9_insertTone 29 = .ok (.if_icmp .le 37, 3) := dqT kk_164 (by decide +kernel)
theorem dX9_insertTone_32 : decode cX9_insertTone 32 = .ok (.aload_n 0, 1) := dq0 kk_42 (by decide +kernel)
theorem dX9_insertTone_33 : decode cX9_insertTone 33 = .ok (.getfield 24, 3) := dqV kk_180 (by decide +kernel)
theorem dX9_insertTone_36 : decode cX9_insertTone 36 = .ok (.iload_n 3, 1) := dq0 kk_29 (by decide +kernel)
theorem dX9_insertTone_37 : decode cX9_insertTone 37 = .ok (.aload_n 0, 1) := dq0 kk_42 (by decide +kernel)
theorem dX9_insertTone_38 : decode cX9_insertTone 38 = .ok (.getfield 24, 3) := dqV kk_180 (by decide +kernel)
theorem dX9_insertTone_41 : decode cX9_insertTone 41 = .ok (.iload_n 3, 1) := dq0 kk_29 (by decide +kernel)
theorem dX9_insertTone_42 : decode cX9_insertTone 42 = .ok (.iconst 1, 1) := dq0 kk_4 (by decide +kernel)
theorem dX9_insertTone_43 : decode cX9_insertTone 43 = .ok (.isub, 1) := dq0 kk_100 (by decide +kernel)
theorem dX9_insertTone_44 : decode cX9_insertTone 44 = .ok (.iaload, 1) := dq0 kk_46 (by decide +kernel)
theorem dX9_insertTone_45 : decode cX9_insertTone 45 = .ok (.iastore, 1) := dq0 kk_79 (by decide +kernel)
theorem dX9_insertTone_46 : decode cX9_insertTone 46 = .ok (.aload_n 0, 1) := dq0 kk_42 (by decide +kernel)
theorem dX9_insertTone_47 : decode cX9_insertTone 47 = .ok (.getfield 28, 3) := dqV kk_180 (by decide +kernel)
theorem dX9_insertTone_50 : decode cX9_insertTone 50 = .ok (.iload_n 3, 1) := dq0 kk_29 (by decide +kernel)
theorem dX9_insertTone_51 : decode cX9_insertTone 51 = .ok (.aload_n 0, 1) := dq0 kk_42 (by decide +kernel)
theorem dX9_insertTone_52 : decode cX9_insertTone 52 = .ok (.getfield 28, 3) := dqV kk_180 (by decide +kernel)
theorem dX9_insertTone_55 : decode cX9_insertTone 55 = .ok (.iload_n 3, 1) := dq0 kk_29 (by decide +kernel)
theorem dX9_insertTone_56 : decode cX9_insertTone 56 = .ok (.iconst 1, 1) := dq0 kk_4 (by decide +kernel)
theorem dX9_insertTone_57 : decode cX9_insertTone 57 = .ok (.isub, 1) := dq0 kk_100 (by decide +kernel)
theorem dX9_insertTone_58 : decode cX9_insertTone 58 = .ok (.iaload, 1) := dq0 kk_46 (by decide +kernel)
theorem dX9_insertTone_59 : decode cX9_insertTone 59 = .ok (.iastore, 1) := dq0 kk_79 (by decide +kernel)
theorem dX9_insertTone_60 : decode cX9_insertTone 60 = .ok (.iinc 3 (-1), 3) := dqI kk_132 (by decide +kernel)
theorem dX9_insertTone_63 : decode cX9_insertTone 63 = .ok (.goto (-36), 3) := dqT kk_167 (by decide +kernel)
set_option maxRecDepth 4000 in
theorem lp_X9_insertTone {p : Program} {l : Launch} {e : Env} {s : State} {m : MethodId} {args : Array Value} {below : List Frame} {meth : Method} {c : Code} {D : va_G} {B : Nat} {cy : Nat → ClassId} {H0 : Heap} {Q : State → Prop} {M : Mem} {R : Room} {a n q hv ed : Nat} {K L : Nat → Nat}  {t x : Nat} (F : CallFix p m c cX9_insertTone 4 s args TB RX9) (hR1 : 0 ≤ R.frames) (hR2 : 0 ≤ R.locals) (hk : kd a = (9, 0, 0)) (hW : isW M a n q hv ed K L) (hwf : wf n q hv ed K L) (ht : t ≤ n) (hn9 : n < 12) (hx9 : x ≤ 2) (kk : ∀ (d : Nat) (H : Heap) (locs : List Loc) (ls : Array Slot), (d = 0) → Wd D B cy s H0 (insM M a n (t + d)) H locs → lv_has ls 4 [(3, .int (zI (((t + d) : Nat) : Int))), (0, .ref (B + a)), (1, .int (zI (t : Int))), (2, .int (zI (x : Int)))] → W p l e R s m args below meth c H locs 0 0 Q (F0 m 66 ls [])) : ∀ (f : Nat) (d : Nat), (t + d ≤ n) → (d ≤ f) → ∀ (H : Heap) (locs : List Loc) (ls : Array Slot), Wd D B cy s H0 (insM M a n (t + d)) H locs → lv_has ls 4 [(3, .int (zI (((t + d) : Nat) : Int))), (0, .ref (B + a)), (1, .int (zI (t : Int))), (2, .int (zI (x : Int)))] → W p l e R s m args below meth c H locs 0 0 Q (F0 m 27 ls []) := by
  have hx := F.1
  have hb := F.2.1
  have hwf0 := hwf
  obtain ⟨hn, hq, hhv, hed, hKL⟩ := hwf0
  intro f
  induction f with
  | zero =>
    intro d i0 hf H locs ls w hl
    refine lv_iload_n hx hb dX9_insertTone_27 rfl (lv_at hl 0 rfl) ?_
    refine lv_iload_n hx hb dX9_insertTone_28 rfl (lv_at hl 2 rfl) ?_
    refine z_icmp_le (tgt := 66) hx hb (by omega) (by omega) dX9_insertTone_29 (by decide) (fun c1 => ?_) (fun c1 => False.elim (by omega))
    exact kk d _ _ ls (by omega) w (lv_sub hl [0, 1, 2, 3] rfl)
  | succ f ih =>
    intro d i0 hf H locs ls w hl
    refine lv_iload_n hx hb dX9_insertTone_27 rfl (lv_at hl 0 rfl) ?_
    refine lv_iload_n hx hb dX9_insertTone_28 rfl (lv_at hl 2 rfl) ?_
    refine z_icmp_le (tgt := 66) hx hb (by omega) (by omega) dX9_insertTone_29 (by decide) (fun c1 => ?_) (fun c1 => ?_)
    · exact kk d _ _ ls (by omega) w (lv_sub hl [0, 1, 2, 3] rfl)
    · refine lv_aload_n hx hb dX9_insertTone_32 rfl (lv_at hl 1 rfl) ?_
      refine f_9_4 F w (a := a) hk tb_7 dX9_insertTone_33 ?_
      refine lv_iload_n hx hb dX9_insertTone_36 rfl (lv_at hl 0 rfl) ?_
      refine lv_aload_n hx hb dX9_insertTone_37 rfl (lv_at hl 1 rfl) ?_
      refine f_9_4 F w (a := a) hk tb_7 dX9_insertTone_38 ?_
      refine lv_iload_n hx hb dX9_insertTone_41 rfl (lv_at hl 0 rfl) ?_
      refine lv_iconst (v := zI 1) hx hb dX9_insertTone_42 rfl ?_
      refine z_isub (z := ((((t + d) : Nat) : Int) - 1)) hx hb dX9_insertTone_43 (by omega) ?_
      refine r_val (v := (zI (((t + d - 1) : Nat) : Int))) (congrArg zI (by omega)) ?_
      refine g_iald F w (a := (a + 1)) (kd_w1 hk) (j := (t + d - 1)) (ix_n (by omega)) (by omega) dX9_insertTone_44 ?_
      refine r_val (v := (M.1 (a + 1) (t + d - 1))) (insM_1 (by omega)) ?_
      refine g_iast F w (a := (a + 1)) (kd_w1 hk) (j := (t + d)) (ix_n (by omega)) (by omega) dX9_insertTone_45 (fun H locs w => ?_)
      refine lv_aload_n hx hb dX9_insertTone_46 rfl (lv_at hl 1 rfl) ?_
      refine f_9_5 F w (a := a) hk tb_6 dX9_insertTone_47 ?_
      refine lv_iload_n hx hb dX9_insertTone_50 rfl (lv_at hl 0 rfl) ?_
      refine lv_aload_n hx hb dX9_insertTone_51 rfl (lv_at hl 1 rfl) ?_
      refine f_9_5 F w (a := a) hk tb_6 dX9_insertTone_52 ?_
      refine lv_iload_n hx hb dX9_insertTone_55 rfl (lv_at hl 0 rfl) ?_
      refine lv_iconst (v := zI 1) hx hb dX9_insertTone_56 rfl ?_
      refine z_isub (z := ((((t + d) : Nat) : Int) - 1)) hx hb dX9_insertTone_57 (by omega) ?_
      refine r_val (v := (zI (((t + d - 1) : Nat) : Int))) (congrArg zI (by omega)) ?_
      refine g_iald F w (a := (a + 2)) (kd_w2 hk) (j := (t + d - 1)) (ix_n (by omega)) (by omega) dX9_insertTone_58 ?_
      refine r_val (v := (M.1 (a + 2) (t + d - 1))) ((st_ne (Or.inl (by omega))).trans (insM_2 (by omega))) ?_
      refine g_iast F w (a := (a + 2)) (kd_w2 hk) (j := (t + d)) (ix_n (by omega)) (by omega) dX9_insertTone_59 (fun H locs w => ?_)
      refine z_iinc (v := ((((t + d) : Nat) : Int) - 1)) (lv' := [(3, .int (zI ((((t + d) : Nat) : Int) - 1))), (0, .ref (B + a)), (1, .int (zI (t : Int))), (2, .int (zI (x : Int)))]) hx hb dX9_insertTone_60 hl (k := 0) rfl (by omega) (by decide) rfl (fun ls hl => ?_)
      refine lv_goto (tgt := 27) hx hb dX9_insertTone_63 (by decide) ?_
      rw [show (((t + d : Nat) : Int) - 1) = ((t + (d - 1) : Nat) : Int) by omega] at hl
      rw [insM_step (by omega) (by omega), show t + d - 1 = t + (d - 1) by omega] at w
      exact ih (d - 1) (by omega) (by omega) _ _ ls w (lv_sub hl [0, 1, 2, 3] rfl)
theorem dX9_insertTone_0 : decode cX9_insertTone 0 = .ok (.iload_n 1, 1) := dq0 kk_27 (by decide +kernel)
theorem dX9_insertTone_1 : decode cX9_insertTone 1 = .ok (.ifCond .lt 20, 3) := dqT kk_155 (by decide +kernel)
theorem dX9_insertTone_4 : decode cX9_insertTone 4 = .ok (.iload_n 1, 1) := dq0 kk_27 (by decide +kernel)
theorem dX9_insertTone_5 : decode cX9_insertTone 5 = .ok (.aload_n 0, 1) := dq0 kk_42 (by decide +kernel)
theorem dX9_insertTone_6 : decode cX9_insertTone 6 = .ok (.getfield 9, 3) := dqV kk_180 (by decide +kernel)
theorem dX9_insertTone_9 : decode cX9_insertTone 9 = .ok (.if_icmp .gt 12, 3) := dqT kk_163 (by decide +kernel)
theorem dX9_insertTone_12 : decode cX9_insertTone 12 = .ok (.aload_n 0, 1) := dq0 kk_42 (by decide +kernel)
theorem dX9_insertTone_13 : decode cX9_insertTone 13 = .ok (.getfield 9, 3) := dqV kk_180 (by decide +kernel)
theorem dX9_insertTone_16 : decode cX9_insertTone 16 = .ok (.bipush 12, 2) := dqS kk_16 (by decide +kernel)
theorem dX9_insertTone_18 : decode cX9_insertTone 18 = .ok (.if_icmp .lt 4, 3) := dqT kk_161 (by decide +kernel)
theorem dX9_insertTone_22 : decode cX9_insertTone 22 = .ok (.aload_n 0, 1) := dq0 kk_42 (by decide +kernel)
theorem dX9_insertTone_23 : decode cX9_insertTone 23 = .ok (.getfield 9, 3) := dqV kk_180 (by decide +kernel)
theorem dX9_insertTone_26 : decode cX9_insertTone 26 = .ok (.istore_n 3, 1) := dq0 kk_62 (by decide +kernel)
theorem dX9_insertTone_66 : decode cX9_insertTone 66 = .ok (.aload_n 0, 1) := dq0 kk_42 (by decide +kernel)
theorem dX9_insertTone_67 : decode cX9_insertTone 67 = .ok (.getfield 24, 3) := dqV kk_180 (by decide +kernel)
theorem dX9_insertTone_70 : decode cX9_insertTone 70 = .ok (.iload_n 1, 1) := dq0 kk_27 (by decide +kernel)
theorem dX9_insertTone_71 : decode cX9_insertTone 71 = .ok (.iload_n 2, 1) := dq0 kk_28 (by decide +kernel)
theorem dX9_insertTone_72 : decode cX9_insertTone 72 = .ok (.iastore, 1) := dq0 kk_79 (by decide +kernel)
theorem dX9_insertTone_73 : decode cX9_insertTone 73 = .ok (.aload_n 0, 1) := dq0 kk_42 (by decide +kernel)
theorem dX9_insertTone_74 : decode cX9_insertTone 74 = .ok (.getfield 28, 3) := dqV kk_180 (by decide +kernel)
theorem dX9_insertTone_77 : decode cX9_insertTone 77 = .ok (.iload_n 1, 1) := dq0 kk_27 (by decide +kernel)
theorem dX9_insertTone_78 : decode cX9_insertTone 78 = .ok (.iconst 0, 1) := dq0 kk_3 (by decide +kernel)
theorem dX9_insertTone_79 : decode cX9_insertTone 79 = .ok (.iastore, 1) := dq0 kk_79 (by decide +kernel)
theorem dX9_insertTone_80 : decode cX9_insertTone 80 = .ok (.aload_n 0, 1) := dq0 kk_42 (by decide +kernel)
theorem dX9_insertTone_81 : decode cX9_insertTone 81 = .ok (.dup, 1) := dq0 kk_89 (by decide +kernel)
theorem dX9_insertTone_82 : decode cX9_insertTone 82 = .ok (.getfield 9, 3) := dqV kk_180 (by decide +kernel)
theorem dX9_insertTone_85 : decode cX9_insertTone 85 = .ok (.iconst 1, 1) := dq0 kk_4 (by decide +kernel)
theorem dX9_insertTone_86 : decode cX9_insertTone 86 = .ok (.iadd, 1) := dq0 kk_96 (by decide +kernel)
theorem dX9_insertTone_87 : decode cX9_insertTone 87 = .ok (.putfield 9, 3) := dqV kk_181 (by decide +kernel)
theorem dX9_insertTone_90 : decode cX9_insertTone 90 = .ok (.return_, 1) := dq0 kk_177 (by decide +kernel)
set_option maxRecDepth 4000 in
theorem s_X9_insertTone {l : Launch} {D : va_G} {B : Nat} {cy : Nat → ClassId} {M : Mem} {a n q hv ed : Nat} {K L : Nat → Nat} (hk : kd a = (9, 0, 0)) (hW : isW M a n q hv ed K L) (hwf : wf n q hv ed K L)  {t x : Nat} (ht : t ≤ n) (hn9 : n < 12) (hx9 : x ≤ 2) : Cv l D B cy yX9_insertTone cX9_insertTone 4 0 0 [.ref (B + a), .int (zI (t : Int)), .int (zI (x : Int))] M (fun M1 => isW M1 a (n + 1) q hv ed (insF K t x) (insF L t 0) ∧ Fr3 M1 M a) := by
  refine s_any (by decide) (Nat.le_of_ble_eq_true rfl) ?_
  intro p e s m below meth c ls F hr hlocks w hl
  have F : CallFix p m c cX9_insertTone 4 s _ TB RX9 := F
  have hx := F.1
  have hb := F.2.1
  have hl : lv_has ls 4 [(0, .ref (B + a)), (1, .int (zI (t : Int))), (2, .int (zI (x : Int)))] := hl
  have hwf0 := hwf
  obtain ⟨hn, hq, hhv, hed, hKL⟩ := hwf0
  refine lv_iload_n hx hb dX9_insertTone_0 rfl (lv_at hl 1 rfl) ?_
  refine z_if_lt (tgt := 21) hx hb (by omega) dX9_insertTone_1 (by decide) (fun c1 => False.elim (by omega)) (fun c1 => ?_)
  refine lv_iload_n hx hb dX9_insertTone_4 rfl (lv_at hl 1 rfl) ?_
  refine lv_aload_n hx hb dX9_insertTone_5 rfl (lv_at hl 0 rfl) ?_
  refine f_9_0 F w (a := a) hk tb_0 dX9_insertTone_6 ?_
  refine r_val (v := (zI (n : Int))) (hW.1) ?_
  refine z_icmp_gt (tgt := 21) hx hb (by omega) (by omega) dX9_insertTone_9 (by decide) (fun c2 => False.elim (by omega)) (fun c2 => ?_)
  refine lv_aload_n hx hb dX9_insertTone_12 rfl (lv_at hl 0 rfl) ?_
  refine f_9_0 F w (a := a) hk tb_0 dX9_insertTone_13 ?_
  refine r_val (v := (zI (n : Int))) (hW.1) ?_
  refine lv_bipush (v := zI 12) hx hb dX9_insertTone_16 (by decide) ?_
  refine z_icmp_lt (tgt := 22) hx hb (by omega) (by omega) dX9_insertTone_18 (by decide) (fun c3 => ?_) (fun c3 => False.elim (by omega))
  refine lv_aload_n hx hb dX9_insertTone_22 rfl (lv_at hl 0 rfl) ?_
  refine f_9_0 F w (a := a) hk tb_0 dX9_insertTone_23 ?_
  refine r_val (v := (zI (n : Int))) (hW.1) ?_
  refine lv_istore_n (lv' := [(3, .int (zI (n : Int))), (0, .ref (B + a)), (1, .int (zI (t : Int))), (2, .int (zI (x : Int)))]) hx hb dX9_insertTone_26 rfl hl (by decide) rfl (fun ls hl => ?_)
  have hl : lv_has ls 4 [(3, .int (zI ((t + (n - t) : Nat) : Int))), (0, .ref (B + a)), (1, .int (zI (t : Int))), (2, .int (zI (x : Int)))] := by rw [show t + (n - t) = n by omega]; exact hl
  rw [← insM_n M a n] at w
  rw [show insM M a n n = insM M a n (t + (n - t)) by rw [show t + (n - t) = n by omega]] at w
  refine lp_X9_insertTone  F (Nat.le_of_ble_eq_true rfl) (Nat.le_of_ble_eq_true rfl) hk hW hwf ht hn9 hx9 (fun d H locs ls x0 w hl => ?_) n (n - t) (by omega) (by omega) _ _ ls w (lv_sub hl [0, 1, 2, 3] rfl)
  subst x0
  refine lv_aload_n hx hb dX9_insertTone_66 rfl (lv_at hl 1 rfl) ?_
  refine f_9_4 F w (a := a) hk tb_7 dX9_insertTone_67 ?_
  refine lv_iload_n hx hb dX9_insertTone_70 rfl (lv_at hl 2 rfl) ?_
  refine lv_iload_n hx hb dX9_insertTone_71 rfl (lv_at hl 3 rfl) ?_
  refine g_iast F w (a := (a + 1)) (kd_w1 hk) (j := t) (ix_n (by omega)) (by omega) dX9_insertTone_72 (fun H locs w => ?_)
  refine lv_aload_n hx hb dX9_insertTone_73 rfl (lv_at hl 1 rfl) ?_
  refine f_9_5 F w (a := a) hk tb_6 dX9_insertTone_74 ?_
  refine lv_iload_n hx hb dX9_insertTone_77 rfl (lv_at hl 2 rfl) ?_
  refine lv_iconst (v := zI 0) hx hb dX9_insertTone_78 rfl ?_
  refine g_iast F w (a := (a + 2)) (kd_w2 hk) (j := t) (ix_n (by omega)) (by omega) dX9_insertTone_79 (fun H locs w => ?_)
  refine lv_aload_n hx hb dX9_insertTone_80 rfl (lv_at hl 1 rfl) ?_
  refine lv_dup hx hb dX9_insertTone_81 rfl ?_
  refine f_9_0 F w (a := a) hk tb_0 dX9_insertTone_82 ?_
  refine r_val (v := (zI (n : Int))) ((st_ne (Or.inl (by omega))).trans ((st_ne (Or.inl (by omega))).trans (insM_0.trans (hW.1)))) ?_
  refine lv_iconst (v := zI 1) hx hb dX9_insertTone_85 rfl ?_
  refine z_iadd (z := (((n + 1) : Nat) : Int)) hx hb dX9_insertTone_86 (by omega) ?_
  refine u_9_0 F w (a := a) hk tb_0 dX9_insertTone_87 (fun H locs w => ?_)
  exact e_v F w hr hlocks ⟨insM_end hW ht, insM_fr⟩ dX9_insertTone_90
theorem dX9_removeTone_11 : decode cX9_removeTone 11 = .ok (.iload_n 2, 1) := dq0 kk_28 (by decide +kernel)
theorem dX9_removeTone_12 : decode cX9_removeTone 12 = .ok (.aload_n 0, 1) := dq0 kk_42 (by decide +kernel)
theorem dX9_removeTone_13 : decode cX9_removeTone 13 = .ok (.getfield 9, 3) := dqV kk_180 (by decide +kernel)
theorem dX9_removeTone_16 : decode cX9_removeTone 16 = .ok (.iconst 1, 1) := dq0 kk_4 (by decide +kernel)
theorem dX9_removeTone_17 : decode cX9_removeTone 17 = .ok (.isub, 1) := dq0 kk_100 (by decide +kernel)
theorem dX9_removeTone_18 : decode cX9_removeTone 18 = .ok (.if_icmp .ge 37, 3) := dqT kk_162 (by decide +kernel)
theorem dX9_removeTone_21 : decode cX9_removeTone 21 = .ok (.aload_n 0, 1) := dq0 kk_42 (by decide +kernel)
theorem dX9_removeTone_22 : decode cX9_removeTone 22 = .ok (.getfield 24, 3) := dqV kk_180 (by decide +kernel)
theorem dX9_removeTone_25 : decode cX9_removeTone 25 = .ok (.iload_n 2, 1) := dq0 kk_28 (by decide +kernel)
theorem dX9_removeTone_26 : decode cX9_removeTone 26 = .ok (.aload_n 0, 1) := dq0 kk_42 (by decide +kernel)
theorem dX9_removeTone_27 : decode cX9_removeTone 27 = .ok (.getfield 24, 3) := dqV kk_180 (by decide +kernel)
theorem dX9_removeTone_30 : decode cX9_removeTone 30 = .ok (.iload_n 2, 1) := dq0 kk_28 (by decide +kernel)
theorem dX9_removeTone_31 : decode cX9_removeTone 31 = .ok (.iconst 1, 1) := dq0 kk_4 (by decide +kernel)
theorem dX9_removeTone_32 : decode cX9_removeTone 32 = .ok (.iadd, 1) := dq0 kk_96 (by decide +kernel)
theorem dX9_removeTone_33 : decode cX9_removeTone 33 = .ok (.iaload, 1) := dq0 kk_46 (by decide +kernel)
theorem dX9_removeTone_34 : decode cX9_removeTone 34 = .ok (.iastore, 1) := dq0 kk_79 (by decide +kernel)
theorem dX9_removeTone_35 : decode cX9_removeTone 35 = .ok (.aload_n 0, 1) := dq0 kk_42 (by decide +kernel)
theorem dX9_removeTone_36 : decode cX9_removeTone 36 = .ok (.getfield 28, 3) := dqV kk_180 (by decide +kernel)
theorem dX9_removeTone_39 : decode cX9_removeTone 39 = .ok (.iload_n 2, 1) := dq0 kk_28 (by decide +kernel)
theorem dX9_removeTone_40 : decode cX9_removeTone 40 = .ok (.aload_n 0, 1) := dq0 kk_42 (by decide +kernel)
theorem dX9_removeTone_41 : decode cX9_removeTone 41 = .ok (.getfield 28, 3) := dqV kk_180 (by decide +kernel)
theorem dX9_removeTone_44 : decode cX9_removeTone 44 = .ok (.iload_n 2, 1) := dq0 kk_28 (by decide +kernel)
theorem dX9_removeTone_45 : decode cX9_removeTone 45 = .ok (.iconst 1, 1) := dq0 kk_4 (by decide +kernel)
theorem dX9_removeTone_46 : decode cX9_removeTone 46 = .ok (.iadd, 1) := dq0 kk_96 (by decide +kernel)
theorem dX9_removeTone_47 : decode cX9_removeTone 47 = .ok (.iaload, 1) := dq0 kk_46 (by decide +kernel)
theorem dX9_removeTone_48 : decode cX9_removeTone 48 = .ok (.iastore, 1) := dq0 kk_79 (by decide +kernel)
theorem dX9_removeTone_49 : decode cX9_removeTone 49 = .ok (.iinc 2 1, 3) := dqI kk_132 (by decide +kernel)
theorem dX9_removeTone_52 : decode cX9_removeTone 52 = .ok (.goto (-41), 3) := dqT kk_167 (by decide +kernel)
set_option maxRecDepth 4000 in
theorem lp_X9_removeTone {p : Program} {l : Launch} {e : Env} {s : State} {m : MethodId} {args : Array Value} {below : List Frame} {meth : Method} {c : Code} {D : va_G} {B : Nat} {cy : Nat → ClassId} {H0 : Heap} {Q : State → Prop} {M : Mem} {R : Room} {a n q hv ed : Nat} {K L : Nat → Nat}  {t : Nat} (F : CallFix p m c cX9_removeTone 3 s args TB RX9) (hR1 : 0 ≤ R.frames) (hR2 : 0 ≤ R.locals) (hk : kd a = (9, 0, 0)) (hW : isW M a n q hv ed K L) (hwf : wf n q hv ed K L) (ht : t < n) (kk : ∀ (u : Nat) (H : Heap) (locs : List Loc) (ls : Array Slot), (u = n - 1) → Wd D B cy s H0 (remM M a t u) H locs → lv_has ls 3 [(2, .int (zI (u : Int))), (0, .ref (B + a)), (1, .int (zI (t : Int)))] → W p l e R s m args below meth c H locs 0 0 Q (F0 m 55 ls [])) : ∀ (f : Nat) (u : Nat), (t ≤ u) → (u < n) → (n ≤ u + 1 + f) → ∀ (H : Heap) (locs : List Loc) (ls : Array Slot), Wd D B cy s H0 (remM M a t u) H locs → lv_has ls 3 [(2, .int (zI (u : Int))), (0, .ref (B + a)), (1, .int (zI (t : Int)))] → W p l e R s m args below meth c H locs 0 0 Q (F0 m 11 ls []) := by
  have hx := F.1
  have hb := F.2.1
  have hwf0 := hwf
  obtain ⟨hn, hq, hhv, hed, hKL⟩ := hwf0
  intro f
  induction f with
  | zero =>
    intro u i0 i1 hf H locs ls w hl
    refine lv_iload_n hx hb dX9_removeTone_11 rfl (lv_at hl 0 rfl) ?_
    refine lv_aload_n hx hb dX9_removeTone_12 rfl (lv_at hl 1 rfl) ?_
    refine f_9_0 F w (a := a) hk tb_0 dX9_removeTone_13 ?_
    refine r_val (v := (zI (n : Int))) (remM_0.trans (hW.1)) ?_
    refine lv_iconst (v := zI 1) hx hb dX9_removeTone_16 rfl ?_
    refine z_isub (z := ((n : Int) - 1)) hx hb dX9_removeTone_17 (by omega) ?_
    refine z_icmp_ge (tgt := 55) hx hb (by omega) (by omega) dX9_removeTone_18 (by decide) (fun c1 => ?_) (fun c1 => False.elim (by omega))
    exact kk u _ _ ls (by omega) w (lv_sub hl [0, 1, 2] rfl)
  | succ f ih =>
    intro u i0 i1 hf H locs ls w hl
    refine lv_iload_n hx hb dX9_removeTone_11 rfl (lv_at hl 0 rfl) ?_
    refine lv_aload_n hx hb dX9_removeTone_12 rfl (lv_at hl 1 rfl) ?_
    refine f_9_0 F w (a := a) hk tb_0 dX9_removeTone_13 ?_
    refine r_val (v := (zI (n : Int))) (remM_0.trans (hW.1)) ?_
    refine lv_iconst (v := zI 1) hx hb dX9_removeTone_16 rfl ?_
    refine z_isub (z := ((n : Int) - 1)) hx hb dX9_removeTone_17 (by omega) ?_
    refine z_icmp_ge (tgt := 55) hx hb (by omega) (by omega) dX9_removeTone_18 (by decide) (fun c1 => ?_) (fun c1 => ?_)
    · exact kk u _ _ ls (by omega) w (lv_sub hl [0, 1, 2] rfl)
    · refine lv_aload_n hx hb dX9_removeTone_21 rfl (lv_at hl 1 rfl) ?_
      refine f_9_4 F w (a := a) hk tb_7 dX9_removeTone_22 ?_
      refine lv_iload_n hx hb dX9_removeTone_25 rfl (lv_at hl 0 rfl) ?_
      refine lv_aload_n hx hb dX9_removeTone_26 rfl (lv_at hl 1 rfl) ?_
      refine f_9_4 F w (a := a) hk tb_7 dX9_removeTone_27 ?_
      refine lv_iload_n hx hb dX9_removeTone_30 rfl (lv_at hl 0 rfl) ?_
      refine lv_iconst (v := zI 1) hx hb dX9_removeTone_31 rfl ?_
      refine z_iadd (z := (((u + 1) : Nat) : Int)) hx hb dX9_removeTone_32 (by omega) ?_
      refine g_iald F w (a := (a + 1)) (kd_w1 hk) (j := (u + 1)) (ix_n (by omega)) (by omega) dX9_removeTone_33 ?_
      refine r_val (v := (M.1 (a + 1) (u + 1))) (remM_1 (by omega)) ?_
      refine g_iast F w (a := (a + 1)) (kd_w1 hk) (j := u) (ix_n (by omega)) (by omega) dX9_removeTone_34 (fun H locs w => ?_)
      refine lv_aload_n hx hb dX9_removeTone_35 rfl (lv_at hl 1 rfl) ?_
      refine f_9_5 F w (a := a) hk tb_6 dX9_removeTone_36 ?_
      refine lv_iload_n hx hb dX9_removeTone_39 rfl (lv_at hl 0 rfl) ?_
      refine lv_aload_n hx hb dX9_removeTone_40 rfl (lv_at hl 1 rfl) ?_
      refine f_9_5 F w (a := a) hk tb_6 dX9_removeTone_41 ?_
      refine lv_iload_n hx hb dX9_removeTone_44 rfl (lv_at hl 0 rfl) ?_
      refine lv_iconst (v := zI 1) hx hb dX9_removeTone_45 rfl ?_
      refine z_iadd (z := (((u + 1) : Nat) : Int)) hx hb dX9_removeTone_46 (by omega) ?_
      refine g_iald F w (a := (a + 2)) (kd_w2 hk) (j := (u + 1)) (ix_n (by omega)) (by omega) dX9_removeTone_47 ?_
      refine r_val (v := (M.1 (a + 2) (u + 1))) ((st_ne (Or.inl (by omega))).trans (remM_2 (by omega))) ?_
      refine g_iast F w (a := (a + 2)) (kd_w2 hk) (j := u) (ix_n (by omega)) (by omega) dX9_removeTone_48 (fun H locs w => ?_)
      refine z_iinc (v := (((u + 1) : Nat) : Int)) (lv' := [(2, .int (zI (((u + 1) : Nat) : Int))), (0, .ref (B + a)), (1, .int (zI (t : Int)))]) hx hb dX9_removeTone_49 hl (k := 0) rfl (by omega) (by decide) rfl (fun ls hl => ?_)
      refine lv_goto (tgt := 11) hx hb dX9_removeTone_52 (by decide) ?_
      rw [remM_step (by omega)] at w
      exact ih (u + 1) (by omega) (by omega) (by omega) _ _ ls w (lv_sub hl [0, 1, 2] rfl)
theorem dX9_removeTone_0 : decode cX9_removeTone 0 = .ok (.aload_n 0, 1) := dq0 kk_42 (by decide +kernel)
theorem dX9_removeTone_1 : decode cX9_removeTone 1 = .ok (.iload_n 1, 1) := dq0 kk_27 (by decide +kernel)
theorem dX9_removeTone_2 : decode cX9_removeTone 2 = .ok (.invokevirtual 41, 3) := dqV kk_182 (by decide +kernel)
theorem dX9_removeTone_5 : decode cX9_removeTone 5 = .ok (.ifCond .ne 4, 3) := dqT kk_154 (by decide +kernel)
theorem dX9_removeTone_9 : decode cX9_removeTone 9 = .ok (.iload_n 1, 1) := dq0 kk_27 (by decide +kernel)
theorem dX9_removeTone_10 : decode cX9_removeTone 10 = .ok (.istore_n 2, 1) := dq0 kk_61 (by decide +kernel)
theorem dX9_removeTone_55 : decode cX9_removeTone 55 = .ok (.aload_n 0, 1) := dq0 kk_42 (by decide +kernel)
theorem dX9_removeTone_56 : decode cX9_removeTone 56 = .ok (.dup, 1) := dq0 kk_89 (by decide +kernel)
theorem dX9_removeTone_57 : decode cX9_removeTone 57 = .ok (.getfield 9, 3) := dqV kk_180 (by decide +kernel)
theorem dX9_removeTone_60 : decode cX9_removeTone 60 = .ok (.iconst 1, 1) := dq0 kk_4 (by decide +kernel)
theorem dX9_removeTone_61 : decode cX9_removeTone 61 = .ok (.isub, 1) := dq0 kk_100 (by decide +kernel)
theorem dX9_removeTone_62 : decode cX9_removeTone 62 = .ok (.putfield 9, 3) := dqV kk_181 (by decide +kernel)
theorem dX9_removeTone_65 : decode cX9_removeTone 65 = .ok (.return_, 1) := dq0 kk_177 (by decide +kernel)
set_option maxRecDepth 4000 in
theorem s_X9_removeTone {l : Launch} {D : va_G} {B : Nat} {cy : Nat → ClassId} {M : Mem} {a n q hv ed : Nat} {K L : Nat → Nat} (hk : kd a = (9, 0, 0)) (hW : isW M a n q hv ed K L) (hwf : wf n q hv ed K L) {t : Nat} (ht : t < n) : Cv l D B cy yX9_removeTone cX9_removeTone 3 1 21 [.ref (B + a), .int (zI (t : Int))] M (fun M1 => isW M1 a (n - 1) q hv ed (remF K t) (remF L t) ∧ Fr3 M1 M a) := by
  refine s_any (by decide) (Nat.le_of_ble_eq_true rfl) ?_
  intro p e s m below meth c ls F hr hlocks w hl
  have F : CallFix p m c cX9_removeTone 3 s _ TB RX9 := F
  have hx := F.1
  have hb := F.2.1
  have hl : lv_has ls 3 [(0, .ref (B + a)), (1, .int (zI (t : Int)))] := hl
  have hwf0 := hwf
  obtain ⟨hn, hq, hhv, hed, hKL⟩ := hwf0
  refine lv_aload_n hx hb dX9_removeTone_0 rfl (lv_at hl 0 rfl) ?_
  refine lv_iload_n hx hb dX9_removeTone_1 rfl (lv_at hl 1 rfl) ?_
  refine k_Vi F w (As := [.int (zI (t : Int))]) (rest := []) (a := a) (kd_lt (a := a) hk (by decide)) (sh_9 hk _ _) rfl (s_X9_hasTone hk hW hwf (by omega)) gv_X9_41 hv_X9_hasTone ⟨(Nat.le_of_ble_eq_true rfl), (Nat.le_of_ble_eq_true rfl)⟩ hl.1 rfl (Nat.le_of_ble_eq_true rfl) ⟨Nat.zero_le _, Nat.zero_le _⟩ dX9_removeTone_2 (fun r M1 H locs hp w => ?_)
  rcases hp with ⟨⟨k1, ek1, hk1, rfl⟩ | ⟨nk1, rfl⟩, hMe⟩
  · rw [hMe] at w
    have gk1 : t < n := by omega
    refine z_if_ne (tgt := 9) hx hb (by omega) dX9_removeTone_5 (by decide) (fun c2 => ?_) (fun c2 => False.elim (by omega))
    refine lv_iload_n hx hb dX9_removeTone_9 rfl (lv_at hl 1 rfl) ?_
    refine lv_istore_n (lv' := [(2, .int (zI (t : Int))), (0, .ref (B + a)), (1, .int (zI (t : Int)))]) hx hb dX9_removeTone_10 rfl hl (by decide) rfl (fun ls hl => ?_)
    rw [← remM_t M a t] at w
    refine lp_X9_removeTone  F (Nat.le_of_ble_eq_true rfl) (Nat.le_of_ble_eq_true rfl) hk hW hwf ht (fun u H locs ls x0 w hl => ?_) n t (by omega) (by omega) (by omega) _ _ ls w (lv_sub hl [0, 1, 2] rfl)
    subst x0
    refine lv_aload_n hx hb dX9_removeTone_55 rfl (lv_at hl 1 rfl) ?_
    refine lv_dup hx hb dX9_removeTone_56 rfl ?_
    refine f_9_0 F w (a := a) hk tb_0 dX9_removeTone_57 ?_
    refine r_val (v := (zI (n : Int))) (remM_0.trans (hW.1)) ?_
    refine lv_iconst (v := zI 1) hx hb dX9_removeTone_60 rfl ?_
    refine z_isub (z := ((n : Int) - 1)) hx hb dX9_removeTone_61 (by omega) ?_
    refine u_9_0 F w (a := a) hk tb_0 dX9_removeTone_62 (fun H locs w => ?_)
    exact e_v F w hr hlocks ⟨remM_end hW ht, remM_fr⟩ dX9_removeTone_65
  · exact False.elim (by omega)
theorem dX9_addSyllable_0 : decode cX9_addSyllable 0 = .ok (.aload_n 0, 1) := dq0 kk_42 (by decide +kernel)
theorem dX9_addSyllable_1 : decode cX9_addSyllable 1 = .ok (.getfield 15, 3) := dqV kk_180 (by decide +kernel)
theorem dX9_addSyllable_4 : decode cX9_addSyllable 4 = .ok (.bipush 12, 2) := dqS kk_16 (by decide +kernel)
theorem dX9_addSyllable_6 : decode cX9_addSyllable 6 = .ok (.if_icmp .ge 25, 3) := dqT kk_162 (by decide +kernel)
theorem dX9_addSyllable_9 : decode cX9_addSyllable 9 = .ok (.aload_n 0, 1) := dq0 kk_42 (by decide +kernel)
theorem dX9_addSyllable_10 : decode cX9_addSyllable 10 = .ok (.dup, 1) := dq0 kk_89 (by decide +kernel)
theorem dX9_addSyllable_11 : decode cX9_addSyllable 11 = .ok (.getfield 15, 3) := dqV kk_180 (by decide +kernel)
theorem dX9_addSyllable_14 : decode cX9_addSyllable 14 = .ok (.iconst 1, 1) := dq0 kk_4 (by decide +kernel)
theorem dX9_addSyllable_15 : decode cX9_addSyllable 15 = .ok (.iadd, 1) := dq0 kk_96 (by decide +kernel)
theorem dX9_addSyllable_16 : decode cX9_addSyllable 16 = .ok (.putfield 15, 3) := dqV kk_181 (by decide +kernel)
theorem dX9_addSyllable_19 : decode cX9_addSyllable 19 = .ok (.aload_n 0, 1) := dq0 kk_42 (by decide +kernel)
theorem dX9_addSyllable_20 : decode cX9_addSyllable 20 = .ok (.aload_n 0, 1) := dq0 kk_42 (by decide +kernel)
theorem dX9_addSyllable_21 : decode cX9_addSyllable 21 = .ok (.getfield 15, 3) := dqV kk_180 (by decide +kernel)
theorem dX9_addSyllable_24 : decode cX9_addSyllable 24 = .ok (.iconst 1, 1) := dq0 kk_4 (by decide +kernel)
theorem dX9_addSyllable_25 : decode cX9_addSyllable 25 = .ok (.isub, 1) := dq0 kk_100 (by decide +kernel)
theorem dX9_addSyllable_26 : decode cX9_addSyllable 26 = .ok (.iload_n 1, 1) := dq0 kk_27 (by decide +kernel)
theorem dX9_addSyllable_27 : decode cX9_addSyllable 27 = .ok (.iload_n 2, 1) := dq0 kk_28 (by decide +kernel)
theorem dX9_addSyllable_28 : decode cX9_addSyllable 28 = .ok (.invokevirtual 56, 3) := dqV kk_182 (by decide +kernel)
theorem tk_X9_setSyllable : Cond.code yX9_setSyllable cX9_setSyllable 5 none ∈ TB := tbm (tc2 (List.mem_of_getElem? (i := 226) rfl)) rfl
theorem gc_X9_setSyllable : GoodIn TB (cw yX9_setSyllable cX9_setSyllable 5 none) := goodIn_c2 tk_X9_setSyllable
theorem tb_26 : Cond.methodLink "ToneLines$Word" 56 yX9_setSyllable ∈ TB := tbm (tc2 (List.mem_of_getElem? (i := 223) rfl)) rfl
theorem tb_27 : Cond.instanceMethod yX9_setSyllable ∈ TB := tbm (tc2 (List.mem_of_getElem? (i := 224) rfl)) rfl
theorem tb_28 : Cond.selects "ToneLines$Word" yX9_setSyllable yX9_setSyllable ∈ TB := tbm (tc2 (List.mem_of_getElem? (i := 225) rfl)) rfl
theorem gv_X9_56 : GoodIn TB (wsV RX9 56 RX9 yX9_setSyllable (cw yX9_setSyllable cX9_setSyllable 5 none)) := goodIn_4 tb_26 tb_27 tb_28 tb_5 gc_X9_setSyllable
theorem hv_X9_setSyllable : yX9_setSyllable.cls = RX9 ∧ yX9_setSyllable.cls ≠ "java/lang/invoke/MethodHandle" ∧ yX9_setSyllable.cls ≠ "java/lang/invoke/VarHandle" ∧ (parseMethodDescriptor yX9_setSyllable.desc).map (fun d => d.parameters.length) = some 3 := by decide +kernel
theorem dX9_addSyllable_31 : decode cX9_addSyllable 31 = .ok (.return_, 1) := dq0 kk_177 (by decide +kernel)
set_option maxRecDepth 4000 in
theorem s_X9_addSyllable {l : Launch} {D : va_G} {B : Nat} {cy : Nat → ClassId} {M : Mem} {a n q hv ed : Nat} {K L : Nat → Nat} (hk : kd a = (9, 0, 0)) (hW : isW M a n q hv ed K L) (hwf : wf n q hv ed K L) {x y : Nat} (hq9 : q < 12) (hx9 : x = 0 ∨ x = 1) (hy9 : y = 0 ∨ y = 1) : Cv l D B cy yX9_addSyllable cX9_addSyllable 3 1 24 [.ref (B + a), .int (zI (x : Int)), .int (zI (y : Int))] M (fun M1 => isW M1 a n (q + 1) (sbit hv q x) (sbit ed q y) K L ∧ Fr3 M1 M a) := by
  refine s_any (by decide) (Nat.le_of_ble_eq_true rfl) ?_
  intro p e s m below meth c ls F hr hlocks w hl
  have F : CallFix p m c cX9_addSyllable 3 s _ TB RX9 := F
  have hx := F.1
  have hb := F.2.1
  have hl : lv_has ls 3 [(0, .ref (B + a)), (1, .int (zI (x : Int))), (2, .int (zI (y : Int)))] := hl
  have hwf0 := hwf
  obtain ⟨hn, hq, hhv, hed, hKL⟩ := hwf0
  refine lv_aload_n hx hb dX9_addSyllable_0 rfl (lv_at hl 0 rfl) ?_
  refine f_9_1 F w (a := a) hk tb_1 dX9_addSyllable_1 ?_
  refine r_val (v := (zI (q : Int))) (hW.2.1) ?_
  refine lv_bipush (v := zI 12) hx hb dX9_addSyllable_4 (by decide) ?_
  refine z_icmp_ge (tgt := 31) hx hb (by omega) (by omega) dX9_addSyllable_6 (by decide) (fun c1 => False.elim (by omega)) (fun c1 => ?_)
  refine lv_aload_n hx hb dX9_addSyllable_9 rfl (lv_at hl 0 rfl) ?_
  refine lv_dup hx hb dX9_addSyllable_10 rfl ?_
  refine f_9_1 F w (a := a) hk tb_1 dX9_addSyllable_11 ?_
  refine r_val (v := (zI (q : Int))) (hW.2.1) ?_
  refine lv_iconst (v := zI 1) hx hb dX9_addSyllable_14 rfl ?_
  refine z_iadd (z := (((q + 1) : Nat) : Int)) hx hb dX9_addSyllable_15 (by omega) ?_
  refine u_9_1 F w (a := a) hk tb_1 dX9_addSyllable_16 (fun H locs w => ?_)
  refine lv_aload_n hx hb dX9_addSyllable_19 rfl (lv_at hl 0 rfl) ?_
  refine lv_aload_n hx hb dX9_addSyllable_20 rfl (lv_at hl 0 rfl) ?_
  refine f_9_1 F w (a := a) hk tb_1 dX9_addSyllable_21 ?_
  refine r_val (v := (zI (((q + 1) : Nat) : Int))) (st_at) ?_
  refine lv_iconst (v := zI 1) hx hb dX9_addSyllable_24 rfl ?_
  refine z_isub (z := ((((q + 1) : Nat) : Int) - 1)) hx hb dX9_addSyllable_25 (by omega) ?_
  have hW1 : isW (st M a 1 (zI (((q + 1) : Nat) : Int))) a n (q + 1) hv ed K L := ⟨by simp [st, sA, upd, hW.1], by simp [st, sA, upd], by simp [st, sA, upd, hW.2.2.1], by simp [st, sA, upd, hW.2.2.2.1], fun k9 hk9 => by simp [st, sA, upd, hW.2.2.2.2.1 k9 hk9], fun k9 hk9 => by simp [st, sA, upd, hW.2.2.2.2.2 k9 hk9]⟩
  have hwf1 : wf n (q + 1) hv ed K L := ⟨hn, by omega, hhv, hed, hKL⟩
  refine r_val (v := (zI (q : Int))) (congrArg zI (by omega)) ?_
  refine lv_iload_n hx hb dX9_addSyllable_26 rfl (lv_at hl 1 rfl) ?_
  refine lv_iload_n hx hb dX9_addSyllable_27 rfl (lv_at hl 2 rfl) ?_
  refine k_Vv F w (As := [.int (zI (q : Int)), .int (zI (x : Int)), .int (zI (y : Int))]) (rest := []) (a := a) (kd_lt (a := a) hk (by decide)) (sh_9 hk _ _) rfl (s_X9_setSyllable hk hW1 hwf1 (j := q) (by omega) hx9 hy9) gv_X9_56 hv_X9_setSyllable ⟨(Nat.le_of_ble_eq_true rfl), (Nat.le_of_ble_eq_true rfl)⟩ hl.1 rfl (Nat.le_of_ble_eq_true rfl) ⟨Nat.zero_le _, Nat.zero_le _⟩ dX9_addSyllable_28 (fun M1 H locs hp w => ?_)
  rcases hp with ⟨hW2, hF2⟩
  exact e_v F w hr hlocks ⟨hW2, Fr3.tr (M1 := st M a 1 (zI ((q + 1 : Nat) : Int))) ⟨fun b9 h91 h92 h93 => by simp [st, sA, h91], rfl⟩ hF2⟩ dX9_addSyllable_31
theorem dX9_copySyllables_0 : decode cX9_copySyllables 0 = .ok (.aload_n 0, 1) := dq0 kk_42 (by decide +kernel)
theorem dX9_copySyllables_1 : decode cX9_copySyllables 1 = .ok (.aload_n 1, 1) := dq0 kk_43 (by decide +kernel)
theorem dX9_copySyllables_2 : decode cX9_copySyllables 2 = .ok (.getfield 15, 3) := dqV kk_180 (by decide +kernel)
theorem dX9_copySyllables_5 : decode cX9_copySyllables 5 = .ok (.putfield 15, 3) := dqV kk_181 (by decide +kernel)
theorem dX9_copySyllables_8 : decode cX9_copySyllables 8 = .ok (.aload_n 0, 1) := dq0 kk_42 (by decide +kernel)
theorem dX9_copySyllables_9 : decode cX9_copySyllables 9 = .ok (.aload_n 1, 1) := dq0 kk_43 (by decide +kernel)
theorem dX9_copySyllables_10 : decode cX9_copySyllables 10 = .ok (.getfield 18, 3) := dqV kk_180 (by decide +kernel)
theorem dX9_copySyllables_13 : decode cX9_copySyllables 13 = .ok (.putfield 18, 3) := dqV kk_181 (by decide +kernel)
theorem dX9_copySyllables_16 : decode cX9_copySyllables 16 = .ok (.aload_n 0, 1) := dq0 kk_42 (by decide +kernel)
theorem dX9_copySyllables_17 : decode cX9_copySyllables 17 = .ok (.aload_n 1, 1) := dq0 kk_43 (by decide +kernel)
theorem dX9_copySyllables_18 : decode cX9_copySyllables 18 = .ok (.getfield 21, 3) := dqV kk_180 (by decide +kernel)
theorem dX9_copySyllables_21 : decode cX9_copySyllables 21 = .ok (.putfield 21, 3) := dqV kk_181 (by decide +kernel)
theorem dX9_copySyllables_24 : decode cX9_copySyllables 24 = .ok (.return_, 1) := dq0 kk_177 (by decide +kernel)
set_option maxRecDepth 4000 in
theorem s_X9_copySyllables {l : Launch} {D : va_G} {B : Nat} {cy : Nat → ClassId} {M : Mem} {a : Nat} (hk : kd a = (9, 0, 0)) {b n2 q2 hv2 ed2 : Nat} {K2 L2 : Nat → Nat} (hk2 : kd b = (9, 0, 0)) (hW2 : isW M b n2 q2 hv2 ed2 K2 L2) (hab : a + 2 < b ∨ b + 2 < a) : Cv l D B cy yX9_copySyllables cX9_copySyllables 2 0 0 [.ref (B + a), .ref (B + b)] M (fun M1 => M1 = st (st (st M a 1 (zI (q2 : Int))) a 2 (zI (hv2 : Int))) a 3 (zI (ed2 : Int))) := by
  refine s_any (by decide) (Nat.le_of_ble_eq_true rfl) ?_
  intro p e s m below meth c ls F hr hlocks w hl
  have F : CallFix p m c cX9_copySyllables 2 s _ TB RX9 := F
  have hx := F.1
  have hb := F.2.1
  have hl : lv_has ls 2 [(0, .ref (B + a)), (1, .ref (B + b))] := hl
  refine lv_aload_n hx hb dX9_copySyllables_0 rfl (lv_at hl 0 rfl) ?_
  refine lv_aload_n hx hb dX9_copySyllables_1 rfl (lv_at hl 1 rfl) ?_
  refine f_9_1 F w (a := b) hk2 tb_1 dX9_copySyllables_2 ?_
  refine r_val (v := (zI (q2 : Int))) (hW2.2.1) ?_
  refine u_9_1 F w (a := a) hk tb_1 dX9_copySyllables_5 (fun H locs w => ?_)
  refine lv_aload_n hx hb dX9_copySyllables_8 rfl (lv_at hl 0 rfl) ?_
  refine lv_aload_n hx hb dX9_copySyllables_9 rfl (lv_at hl 1 rfl) ?_
  refine f_9_2 F w (a := b) hk2 tb_11 dX9_copySyllables_10 ?_
  refine r_val (v := (zI (hv2 : Int))) ((st_ne (Or.inl (by omega))).trans (hW2.2.2.1)) ?_
  refine u_9_2 F w (a := a) hk tb_11 dX9_copySyllables_13 (fun H locs w => ?_)
  refine lv_aload_n hx hb dX9_copySyllables_16 rfl (lv_at hl 0 rfl) ?_
  refine lv_aload_n hx hb dX9_copySyllables_17 rfl (lv_at hl 1 rfl) ?_
  refine f_9_3 F w (a := b) hk2 tb_12 dX9_copySyllables_18 ?_
  refine r_val (v := (zI (ed2 : Int))) ((st_ne (Or.inl (by omega))).trans ((st_ne (Or.inl (by omega))).trans (hW2.2.2.2.1))) ?_
  refine u_9_3 F w (a := a) hk tb_12 dX9_copySyllables_21 (fun H locs w => ?_)
  exact e_v F w hr hlocks rfl dX9_copySyllables_24
theorem dX9_copyFrom_0 : decode cX9_copyFrom 0 = .ok (.aload_n 0, 1) := dq0 kk_42 (by decide +kernel)
theorem dX9_copyFrom_1 : decode cX9_copyFrom 1 = .ok (.aload_n 1, 1) := dq0 kk_43 (by decide +kernel)
theorem dX9_copyFrom_2 : decode cX9_copyFrom 2 = .ok (.invokevirtual 31, 3) := dqV kk_182 (by decide +kernel)
theorem tk_X9_copySyllables : Cond.code yX9_copySyllables cX9_copySyllables 2 none ∈ TB := tbm (tc3 (List.mem_of_getElem? (i := 25) rfl)) rfl
theorem gc_X9_copySyllables : GoodIn TB (cw yX9_copySyllables cX9_copySyllables 2 none) := goodIn_c2 tk_X9_copySyllables
theorem tb_29 : Cond.methodLink "ToneLines$Word" 31 yX9_copySyllables ∈ TB := tbm (tc3 (List.mem_of_getElem? (i := 22) rfl)) rfl
theorem tb_30 : Cond.instanceMethod yX9_copySyllables ∈ TB := tbm (tc3 (List.mem_of_getElem? (i := 23) rfl)) rfl
theorem tb_31 : Cond.selects "ToneLines$Word" yX9_copySyllables yX9_copySyllables ∈ TB := tbm (tc3 (List.mem_of_getElem? (i := 24) rfl)) rfl
theorem gv_X9_31 : GoodIn TB (wsV RX9 31 RX9 yX9_copySyllables (cw yX9_copySyllables cX9_copySyllables 2 none)) := goodIn_4 tb_29 tb_30 tb_31 tb_5 gc_X9_copySyllables
theorem hv_X9_copySyllables : yX9_copySyllables.cls = RX9 ∧ yX9_copySyllables.cls ≠ "java/lang/invoke/MethodHandle" ∧ yX9_copySyllables.cls ≠ "java/lang/invoke/VarHandle" ∧ (parseMethodDescriptor yX9_copySyllables.desc).map (fun d => d.parameters.length) = some 1 := by decide +kernel
theorem dX9_copyFrom_5 : decode cX9_copyFrom 5 = .ok (.aload_n 0, 1) := dq0 kk_42 (by decide +kernel)
theorem dX9_copyFrom_6 : decode cX9_copyFrom 6 = .ok (.aload_n 1, 1) := dq0 kk_43 (by decide +kernel)
theorem dX9_copyFrom_7 : decode cX9_copyFrom 7 = .ok (.getfield 9, 3) := dqV kk_180 (by decide +kernel)
theorem dX9_copyFrom_10 : decode cX9_copyFrom 10 = .ok (.putfield 9, 3) := dqV kk_181 (by decide +kernel)
theorem dX9_copyFrom_13 : decode cX9_copyFrom 13 = .ok (.aload_n 1, 1) := dq0 kk_43 (by decide +kernel)
theorem dX9_copyFrom_14 : decode cX9_copyFrom 14 = .ok (.getfield 24, 3) := dqV kk_180 (by decide +kernel)
theorem dX9_copyFrom_17 : decode cX9_copyFrom 17 = .ok (.iconst 0, 1) := dq0 kk_3 (by decide +kernel)
theorem dX9_copyFrom_18 : decode cX9_copyFrom 18 = .ok (.aload_n 0, 1) := dq0 kk_42 (by decide +kernel)
theorem dX9_copyFrom_19 : decode cX9_copyFrom 19 = .ok (.getfield 24, 3) := dqV kk_180 (by decide +kernel)
theorem dX9_copyFrom_22 : decode cX9_copyFrom 22 = .ok (.iconst 0, 1) := dq0 kk_3 (by decide +kernel)
theorem dX9_copyFrom_23 : decode cX9_copyFrom 23 = .ok (.bipush 12, 2) := dqS kk_16 (by decide +kernel)
theorem dX9_copyFrom_25 : decode cX9_copyFrom 25 = .ok (.invokestatic 35, 3) := dqV kk_184 (by decide +kernel)
theorem tb_32 : Cond.methodLink "ToneLines$Word" 35 arraycopyName ∈ TB := tbm (tc3 (List.mem_of_getElem? (i := 26) rfl)) rfl
theorem tb_33 : Cond.native arraycopyName ∈ TB := rtb_83
theorem tb_34 : Cond.static arraycopyName ∈ TB := rtb_84
theorem tb_35 : Cond.initialized "java/lang/System" ∈ TB := rtb_85
theorem dX9_copyFrom_28 : decode cX9_copyFrom 28 = .ok (.aload_n 1, 1) := dq0 kk_43 (by decide +kernel)
theorem dX9_copyFrom_29 : decode cX9_copyFrom 29 = .ok (.getfield 28, 3) := dqV kk_180 (by decide +kernel)
theorem dX9_copyFrom_32 : decode cX9_copyFrom 32 = .ok (.iconst 0, 1) := dq0 kk_3 (by decide +kernel)
theorem dX9_copyFrom_33 : decode cX9_copyFrom 33 = .ok (.aload_n 0, 1) := dq0 kk_42 (by decide +kernel)
theorem dX9_copyFrom_34 : decode cX9_copyFrom 34 = .ok (.getfield 28, 3) := dqV kk_180 (by decide +kernel)
theorem dX9_copyFrom_37 : decode cX9_copyFrom 37 = .ok (.iconst 0, 1) := dq0 kk_3 (by decide +kernel)
theorem dX9_copyFrom_38 : decode cX9_copyFrom 38 = .ok (.bipush 12, 2) := dqS kk_16 (by decide +kernel)
theorem dX9_copyFrom_40 : decode cX9_copyFrom 40 = .ok (.invokestatic 35, 3) := dqV kk_184 (by decide +kernel)
theorem dX9_copyFrom_43 : decode cX9_copyFrom 43 = .ok (.return_, 1) := dq0 kk_177 (by decide +kernel)
set_option maxRecDepth 4000 in
theorem s_X9_copyFrom {l : Launch} {D : va_G} {B : Nat} {cy : Nat → ClassId} {M : Mem} {a : Nat} (hk : kd a = (9, 0, 0)) {b n2 q2 hv2 ed2 : Nat} {K2 L2 : Nat → Nat} (hk2 : kd b = (9, 0, 0)) (hW2 : isW M b n2 q2 hv2 ed2 K2 L2) (hab : a + 2 < b ∨ b + 2 < a) (hn9 : n2 ≤ 12) : Cv l D B cy yX9_copyFrom cX9_copyFrom 2 1 40 [.ref (B + a), .ref (B + b)] M (fun M1 => isW M1 a n2 q2 hv2 ed2 K2 L2 ∧ Fr3 M1 M a) := by
  refine s_any (by decide) (Nat.le_of_ble_eq_true rfl) ?_
  intro p e s m below meth c ls F hr hlocks w hl
  have F : CallFix p m c cX9_copyFrom 2 s _ TB RX9 := F
  have hx := F.1
  have hb := F.2.1
  have hl : lv_has ls 2 [(0, .ref (B + a)), (1, .ref (B + b))] := hl
  refine lv_aload_n hx hb dX9_copyFrom_0 rfl (lv_at hl 0 rfl) ?_
  refine lv_aload_n hx hb dX9_copyFrom_1 rfl (lv_at hl 1 rfl) ?_
  refine x_Vv F w (As := [.ref (B + b)]) (rest := []) (a := a) (kd_lt (a := a) hk (by decide)) (sh_9 hk _ _) rfl (s_X9_copySyllables hk hk2 hW2 hab) gv_X9_31 hv_X9_copySyllables ⟨(Nat.le_of_ble_eq_true rfl), (Nat.le_of_ble_eq_true rfl)⟩ hl.1 rfl (Nat.le_of_ble_eq_true rfl) ⟨Nat.zero_le _, Nat.zero_le _⟩ dX9_copyFrom_2 (fun H locs w => ?_)
  refine lv_aload_n hx hb dX9_copyFrom_5 rfl (lv_at hl 0 rfl) ?_
  refine lv_aload_n hx hb dX9_copyFrom_6 rfl (lv_at hl 1 rfl) ?_
  refine f_9_0 F w (a := b) hk2 tb_0 dX9_copyFrom_7 ?_
  refine r_val (v := (zI (n2 : Int))) ((st_ne (Or.inl (by omega))).trans ((st_ne (Or.inl (by omega))).trans ((st_ne (Or.inl (by omega))).trans (hW2.1)))) ?_
  refine u_9_0 F w (a := a) hk tb_0 dX9_copyFrom_10 (fun H locs w => ?_)
  refine lv_aload_n hx hb dX9_copyFrom_13 rfl (lv_at hl 1 rfl) ?_
  refine f_9_4 F w (a := b) hk2 tb_7 dX9_copyFrom_14 ?_
  refine lv_iconst (v := zI 0) hx hb dX9_copyFrom_17 rfl ?_
  refine lv_aload_n hx hb dX9_copyFrom_18 rfl (lv_at hl 0 rfl) ?_
  refine f_9_4 F w (a := a) hk tb_7 dX9_copyFrom_19 ?_
  refine lv_iconst (v := zI 0) hx hb dX9_copyFrom_22 rfl ?_
  refine lv_bipush (v := zI 12) hx hb dX9_copyFrom_23 (by decide) ?_
  refine g_copyi F w (a0 := (b + 1)) (a1 := (a + 1)) (kd_w1 hk2) (kd_w1 hk) hl.1 tb_32 tb_33 tb_34 tb_35 (by decide) (by decide) (by decide) (by decide) (by decide) (Nat.le_of_ble_eq_true rfl) (Nat.le_of_ble_eq_true rfl) dX9_copyFrom_25 (fun H locs w => ?_)
  refine lv_aload_n hx hb dX9_copyFrom_28 rfl (lv_at hl 1 rfl) ?_
  refine f_9_5 F w (a := b) hk2 tb_6 dX9_copyFrom_29 ?_
  refine lv_iconst (v := zI 0) hx hb dX9_copyFrom_32 rfl ?_
  refine lv_aload_n hx hb dX9_copyFrom_33 rfl (lv_at hl 0 rfl) ?_
  refine f_9_5 F w (a := a) hk tb_6 dX9_copyFrom_34 ?_
  refine lv_iconst (v := zI 0) hx hb dX9_copyFrom_37 rfl ?_
  refine lv_bipush (v := zI 12) hx hb dX9_copyFrom_38 (by decide) ?_
  refine g_copyi F w (a0 := (b + 2)) (a1 := (a + 2)) (kd_w2 hk2) (kd_w2 hk) hl.1 tb_32 tb_33 tb_34 tb_35 (by decide) (by decide) (by decide) (by decide) (by decide) (Nat.le_of_ble_eq_true rfl) (Nat.le_of_ble_eq_true rfl) dX9_copyFrom_40 (fun H locs w => ?_)
  exact e_v F w hr hlocks (cpW hW2 hab hn9) dX9_copyFrom_43
