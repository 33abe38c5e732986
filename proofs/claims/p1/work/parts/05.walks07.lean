set_option maxRecDepth 4000 in
theorem c_X6_layRow_460 {l : Launch} {D : va_G} {B : Nat} {cy : Nat → ClassId} {M : Mem} {p3 : Int32} (h0 : M.1 138 0 = 6) (h1 : M.1 138 1 = 0) (h2 : M.1 138 2 = 0) (h3 : M.1 138 3 = 0) (h4 : M.1 44 1 = 0) (h5 : M.1 44 2 = 0) (h6 : M.1 44 3 = 0) (h7 : M.1 140 0 = 0) (h8 : M.1 140 1 = 0) (h9 : M.1 140 2 = 0) (h10 : M.1 140 3 = 0) (h11 : M.1 140 4 = 0) (h12 : M.1 140 5 = 0) : Cv l D B cy yX6_layRow cX6_layRow 6 1 23 [.ref (B + 135), .ref (B + 44), .int 6, .int p3] M (fun M1 => ∃ f, M1 = sA (st (st (st (st (st (st (st M 138 0 0) 138 0 1) 138 0 2) 138 0 3) 138 0 4) 138 0 5) 138 0 6) 139 f) := by
  refine s_any (by decide) (Nat.le_of_ble_eq_true rfl) ?_
  intro p e s m below meth c ls F hr hlocks w hl
  have F : CallFix p m c cX6_layRow 6 s _ TB RX6 := F
  have hx := F.1
  have hb := F.2.1
  have hl : lv_has ls 6 [(0, .ref (B + 135)), (1, .ref (B + 44)), (2, .int 6), (3, .int p3)] := hl
  refine lv_aload_n hx hb dX6_layRow_0 rfl (lv_at hl 0 rfl) ?_
  refine f_6_3 F w (a := 135) rfl tb_111 dX6_layRow_1 ?_
  refine x_Vv F w (As := []) (rest := []) (a := 138) (by decide) (sh_9 rfl _ _) rfl (c_X9_clear_458 (h0) (h1) (h2) (h3)) gv_X6_62 hv_X9_clear ⟨Nat.le_of_ble_eq_true rfl, Nat.le_of_ble_eq_true rfl⟩ hl.1 rfl (Nat.le_of_ble_eq_true rfl) ⟨Nat.zero_le _, Nat.zero_le _⟩ dX6_layRow_4 (fun H locs w => ?_)
  refine lv_aload_n hx hb dX6_layRow_7 rfl (lv_at hl 0 rfl) ?_
  refine f_6_3 F w (a := 135) rfl tb_111 dX6_layRow_8 ?_
  refine lv_aload_n hx hb dX6_layRow_11 rfl (lv_at hl 1 rfl) ?_
  refine x_Vv F w (As := [.ref (B + 44)]) (rest := []) (a := 138) (by decide) (sh_9 rfl _ _) rfl (c_X9_copySyllables_370 ((st_ne (by decide)).trans h4) ((st_ne (by decide)).trans h1) ((st_ne (by decide)).trans h5) ((st_ne (by decide)).trans h2) ((st_ne (by decide)).trans h6) ((st_ne (by decide)).trans h3)) gv_X6_65 hv_X9_copySyllables ⟨Nat.le_of_ble_eq_true rfl, Nat.le_of_ble_eq_true rfl⟩ hl.1 rfl (Nat.le_of_ble_eq_true rfl) ⟨Nat.zero_le _, Nat.zero_le _⟩ dX6_layRow_12 (fun H locs w => ?_)
  refine lv_iload_n hx hb dX6_layRow_15 rfl (lv_at hl 3 rfl) ?_
  refine lv_istore (lv' := [(4, .int p3), (0, .ref (B + 135)), (1, .ref (B + 44)), (2, .int 6), (3, .int p3)]) hx hb dX6_layRow_16 hl (by decide) rfl (fun ls hl => ?_)
  refine lv_iconst (v := 0) hx hb dX6_layRow_18 (by decide) ?_
  refine lv_istore (lv' := [(5, .int 0), (4, .int p3), (0, .ref (B + 135)), (1, .ref (B + 44)), (2, .int 6), (3, .int p3)]) hx hb dX6_layRow_19 hl (by decide) rfl (fun ls hl => ?_)
  refine lv_iload hx hb dX6_layRow_21 (lv_at hl 0 rfl) ?_
  refine lv_iload_n hx hb dX6_layRow_23 rfl (lv_at hl 4 rfl) ?_
  refine lv_icmp_ge (tgt := 51) hx hb dX6_layRow_24 (by decide) (fun c1 => absurd c1 (by decide)) (fun _ => ?_)
  refine lv_aload_n hx hb dX6_layRow_27 rfl (lv_at hl 2 rfl) ?_
  refine f_6_3 F w (a := 135) rfl tb_111 dX6_layRow_28 ?_
  refine lv_iconst (v := 0) hx hb dX6_layRow_31 (by decide) ?_
  refine lv_iload hx hb dX6_layRow_32 (lv_at hl 1 rfl) ?_
  refine lv_iconst (v := 3) hx hb dX6_layRow_34 (by decide) ?_
  refine lv_irem hx hb dX6_layRow_35 (by decide) ?_
  refine k_Vv F w (As := [.int 0, .int (p3 - p3 / 3 * 3)]) (rest := []) (a := 138) (by decide) (sh_9 rfl _ _) rfl (c_X9_insertTone_384 (st_at) ((st_ne (by decide)).trans h7)) gv_X6_69 hv_X9_insertTone ⟨Nat.le_of_ble_eq_true rfl, Nat.le_of_ble_eq_true rfl⟩ hl.1 rfl (Nat.le_of_ble_eq_true rfl) ⟨Nat.zero_le _, Nat.zero_le _⟩ dX6_layRow_36 (fun M1 H locs hp w => ?_)
  obtain ⟨f21, hf⟩ := hp
  rw [hf] at w
  clear hf
  refine lv_iload hx hb dX6_layRow_39 (lv_at hl 1 rfl) ?_
  refine lv_iconst (v := 3) hx hb dX6_layRow_41 (by decide) ?_
  refine lv_idiv hx hb dX6_layRow_42 (by decide) ?_
  refine lv_istore (lv' := [(4, .int (p3 / 3)), (5, .int 0), (0, .ref (B + 135)), (1, .ref (B + 44)), (2, .int 6), (3, .int p3)]) hx hb dX6_layRow_43 hl (by decide) rfl (fun ls hl => ?_)
  refine lv_iinc (v := 1) (lv' := [(5, .int 1), (4, .int (p3 / 3)), (0, .ref (B + 135)), (1, .ref (B + 44)), (2, .int 6), (3, .int p3)]) hx hb dX6_layRow_45 hl (k := 1) rfl (by decide) (by decide) rfl (fun ls hl => ?_)
  refine lv_goto (tgt := 21) hx hb dX6_layRow_48 (by decide) ?_
  refine lv_iload hx hb dX6_layRow_21 (lv_at hl 0 rfl) ?_
  refine lv_iload_n hx hb dX6_layRow_23 rfl (lv_at hl 4 rfl) ?_
  refine lv_icmp_ge (tgt := 51) hx hb dX6_layRow_24 (by decide) (fun c1 => absurd c1 (by decide)) (fun _ => ?_)
  refine lv_aload_n hx hb dX6_layRow_27 rfl (lv_at hl 2 rfl) ?_
  refine f_6_3 F w (a := 135) rfl tb_111 dX6_layRow_28 ?_
  refine lv_iconst (v := 0) hx hb dX6_layRow_31 (by decide) ?_
  refine lv_iload hx hb dX6_layRow_32 (lv_at hl 1 rfl) ?_
  refine lv_iconst (v := 3) hx hb dX6_layRow_34 (by decide) ?_
  refine lv_irem hx hb dX6_layRow_35 (by decide) ?_
  refine k_Vv F w (As := [.int 0, .int ((p3 / 3) - (p3 / 3) / 3 * 3)]) (rest := []) (a := 138) (by decide) (sh_9 rfl _ _) rfl (c_X9_insertTone_399 ((sA_ne (by decide)).trans st_at) ((sA_ne (by decide)).trans ((st_ne (by decide)).trans ((st_ne (by decide)).trans h7))) ((sA_ne (by decide)).trans ((st_ne (by decide)).trans ((st_ne (by decide)).trans h8)))) gv_X6_69 hv_X9_insertTone ⟨Nat.le_of_ble_eq_true rfl, Nat.le_of_ble_eq_true rfl⟩ hl.1 rfl (Nat.le_of_ble_eq_true rfl) ⟨Nat.zero_le _, Nat.zero_le _⟩ dX6_layRow_36 (fun M1 H locs hp w => ?_)
  obtain ⟨f22, hf⟩ := hp
  rw [hf] at w
  clear hf
  refine lv_iload hx hb dX6_layRow_39 (lv_at hl 1 rfl) ?_
  refine lv_iconst (v := 3) hx hb dX6_layRow_41 (by decide) ?_
  refine lv_idiv hx hb dX6_layRow_42 (by decide) ?_
  refine lv_istore (lv' := [(4, .int ((p3 / 3) / 3)), (5, .int 1), (0, .ref (B + 135)), (1, .ref (B + 44)), (2, .int 6), (3, .int p3)]) hx hb dX6_layRow_43 hl (by decide) rfl (fun ls hl => ?_)
  refine lv_iinc (v := 2) (lv' := [(5, .int 2), (4, .int ((p3 / 3) / 3)), (0, .ref (B + 135)), (1, .ref (B + 44)), (2, .int 6), (3, .int p3)]) hx hb dX6_layRow_45 hl (k := 1) rfl (by decide) (by decide) rfl (fun ls hl => ?_)
  refine lv_goto (tgt := 21) hx hb dX6_layRow_48 (by decide) ?_
  refine lv_iload hx hb dX6_layRow_21 (lv_at hl 0 rfl) ?_
  refine lv_iload_n hx hb dX6_layRow_23 rfl (lv_at hl 4 rfl) ?_
  refine lv_icmp_ge (tgt := 51) hx hb dX6_layRow_24 (by decide) (fun c1 => absurd c1 (by decide)) (fun _ => ?_)
  refine lv_aload_n hx hb dX6_layRow_27 rfl (lv_at hl 2 rfl) ?_
  refine f_6_3 F w (a := 135) rfl tb_111 dX6_layRow_28 ?_
  refine lv_iconst (v := 0) hx hb dX6_layRow_31 (by decide) ?_
  refine lv_iload hx hb dX6_layRow_32 (lv_at hl 1 rfl) ?_
  refine lv_iconst (v := 3) hx hb dX6_layRow_34 (by decide) ?_
  refine lv_irem hx hb dX6_layRow_35 (by decide) ?_
  refine k_Vv F w (As := [.int 0, .int (((p3 / 3) / 3) - ((p3 / 3) / 3) / 3 * 3)]) (rest := []) (a := 138) (by decide) (sh_9 rfl _ _) rfl (c_X9_insertTone_414 ((sA_ne (by decide)).trans st_at) ((sA_ne (by decide)).trans ((st_ne (by decide)).trans ((sA_ne (by decide)).trans ((st_ne (by decide)).trans ((st_ne (by decide)).trans h8))))) ((sA_ne (by decide)).trans ((st_ne (by decide)).trans ((sA_ne (by decide)).trans ((st_ne (by decide)).trans ((st_ne (by decide)).trans h9))))) ((sA_ne (by decide)).trans ((st_ne (by decide)).trans ((sA_ne (by decide)).trans ((st_ne (by decide)).trans ((st_ne (by decide)).trans h7)))))) gv_X6_69 hv_X9_insertTone ⟨Nat.le_of_ble_eq_true rfl, Nat.le_of_ble_eq_true rfl⟩ hl.1 rfl (Nat.le_of_ble_eq_true rfl) ⟨Nat.zero_le _, Nat.zero_le _⟩ dX6_layRow_36 (fun M1 H locs hp w => ?_)
  obtain ⟨f23, hf⟩ := hp
  rw [hf] at w
  clear hf
  refine lv_iload hx hb dX6_layRow_39 (lv_at hl 1 rfl) ?_
  refine lv_iconst (v := 3) hx hb dX6_layRow_41 (by decide) ?_
  refine lv_idiv hx hb dX6_layRow_42 (by decide) ?_
  refine lv_istore (lv' := [(4, .int (((p3 / 3) / 3) / 3)), (5, .int 2), (0, .ref (B + 135)), (1, .ref (B + 44)), (2, .int 6), (3, .int p3)]) hx hb dX6_layRow_43 hl (by decide) rfl (fun ls hl => ?_)
  refine lv_iinc (v := 3) (lv' := [(5, .int 3), (4, .int (((p3 / 3) / 3) / 3)), (0, .ref (B + 135)), (1, .ref (B + 44)), (2, .int 6), (3, .int p3)]) hx hb dX6_layRow_45 hl (k := 1) rfl (by decide) (by decide) rfl (fun ls hl => ?_)
  refine lv_goto (tgt := 21) hx hb dX6_layRow_48 (by decide) ?_
  refine lv_iload hx hb dX6_layRow_21 (lv_at hl 0 rfl) ?_
  refine lv_iload_n hx hb dX6_layRow_23 rfl (lv_at hl 4 rfl) ?_
  refine lv_icmp_ge (tgt := 51) hx hb dX6_layRow_24 (by decide) (fun c1 => absurd c1 (by decide)) (fun _ => ?_)
  refine lv_aload_n hx hb dX6_layRow_27 rfl (lv_at hl 2 rfl) ?_
  refine f_6_3 F w (a := 135) rfl tb_111 dX6_layRow_28 ?_
  refine lv_iconst (v := 0) hx hb dX6_layRow_31 (by decide) ?_
  refine lv_iload hx hb dX6_layRow_32 (lv_at hl 1 rfl) ?_
  refine lv_iconst (v := 3) hx hb dX6_layRow_34 (by decide) ?_
  refine lv_irem hx hb dX6_layRow_35 (by decide) ?_
  refine k_Vv F w (As := [.int 0, .int ((((p3 / 3) / 3) / 3) - (((p3 / 3) / 3) / 3) / 3 * 3)]) (rest := []) (a := 138) (by decide) (sh_9 rfl _ _) rfl (c_X9_insertTone_429 ((sA_ne (by decide)).trans st_at) ((sA_ne (by decide)).trans ((st_ne (by decide)).trans ((sA_ne (by decide)).trans ((st_ne (by decide)).trans ((sA_ne (by decide)).trans ((st_ne (by decide)).trans ((st_ne (by decide)).trans h9))))))) ((sA_ne (by decide)).trans ((st_ne (by decide)).trans ((sA_ne (by decide)).trans ((st_ne (by decide)).trans ((sA_ne (by decide)).trans ((st_ne (by decide)).trans ((st_ne (by decide)).trans h10))))))) ((sA_ne (by decide)).trans ((st_ne (by decide)).trans ((sA_ne (by decide)).trans ((st_ne (by decide)).trans ((sA_ne (by decide)).trans ((st_ne (by decide)).trans ((st_ne (by decide)).trans h8))))))) ((sA_ne (by decide)).trans ((st_ne (by decide)).trans ((sA_ne (by decide)).trans ((st_ne (by decide)).trans ((sA_ne (by decide)).trans ((st_ne (by decide)).trans ((st_ne (by decide)).trans h7)))))))) gv_X6_69 hv_X9_insertTone ⟨Nat.le_of_ble_eq_true rfl, Nat.le_of_ble_eq_true rfl⟩ hl.1 rfl (Nat.le_of_ble_eq_true rfl) ⟨Nat.zero_le _, Nat.zero_le _⟩ dX6_layRow_36 (fun M1 H locs hp w => ?_)
  obtain ⟨f24, hf⟩ := hp
  rw [hf] at w
  clear hf
  refine lv_iload hx hb dX6_layRow_39 (lv_at hl 1 rfl) ?_
  refine lv_iconst (v := 3) hx hb dX6_layRow_41 (by decide) ?_
  refine lv_idiv hx hb dX6_layRow_42 (by decide) ?_
  refine lv_istore (lv' := [(4, .int ((((p3 / 3) / 3) / 3) / 3)), (5, .int 3), (0, .ref (B + 135)), (1, .ref (B + 44)), (2, .int 6), (3, .int p3)]) hx hb dX6_layRow_43 hl (by decide) rfl (fun ls hl => ?_)
  refine lv_iinc (v := 4) (lv' := [(5, .int 4), (4, .int ((((p3 / 3) / 3) / 3) / 3)), (0, .ref (B + 135)), (1, .ref (B + 44)), (2, .int 6), (3, .int p3)]) hx hb dX6_layRow_45 hl (k := 1) rfl (by decide) (by decide) rfl (fun ls hl => ?_)
  refine lv_goto (tgt := 21) hx hb dX6_layRow_48 (by decide) ?_
  refine lv_iload hx hb dX6_layRow_21 (lv_at hl 0 rfl) ?_
  refine lv_iload_n hx hb dX6_layRow_23 rfl (lv_at hl 4 rfl) ?_
  refine lv_icmp_ge (tgt := 51) hx hb dX6_layRow_24 (by decide) (fun c1 => absurd c1 (by decide)) (fun _ => ?_)
  refine lv_aload_n hx hb dX6_layRow_27 rfl (lv_at hl 2 rfl) ?_
  refine f_6_3 F w (a := 135) rfl tb_111 dX6_layRow_28 ?_
  refine lv_iconst (v := 0) hx hb dX6_layRow_31 (by decide) ?_
  refine lv_iload hx hb dX6_layRow_32 (lv_at hl 1 rfl) ?_
  refine lv_iconst (v := 3) hx hb dX6_layRow_34 (by decide) ?_
  refine lv_irem hx hb dX6_layRow_35 (by decide) ?_
  refine k_Vv F w (As := [.int 0, .int (((((p3 / 3) / 3) / 3) / 3) - ((((p3 / 3) / 3) / 3) / 3) / 3 * 3)]) (rest := []) (a := 138) (by decide) (sh_9 rfl _ _) rfl (c_X9_insertTone_444 ((sA_ne (by decide)).trans st_at) ((sA_ne (by decide)).trans ((st_ne (by decide)).trans ((sA_ne (by decide)).trans ((st_ne (by decide)).trans ((sA_ne (by decide)).trans ((st_ne (by decide)).trans ((sA_ne (by decide)).trans ((st_ne (by decide)).trans ((st_ne (by decide)).trans h10))))))))) ((sA_ne (by decide)).trans ((st_ne (by decide)).trans ((sA_ne (by decide)).trans ((st_ne (by decide)).trans ((sA_ne (by decide)).trans ((st_ne (by decide)).trans ((sA_ne (by decide)).trans ((st_ne (by decide)).trans ((st_ne (by decide)).trans h11))))))))) ((sA_ne (by decide)).trans ((st_ne (by decide)).trans ((sA_ne (by decide)).trans ((st_ne (by decide)).trans ((sA_ne (by decide)).trans ((st_ne (by decide)).trans ((sA_ne (by decide)).trans ((st_ne (by decide)).trans ((st_ne (by decide)).trans h9))))))))) ((sA_ne (by decide)).trans ((st_ne (by decide)).trans ((sA_ne (by decide)).trans ((st_ne (by decide)).trans ((sA_ne (by decide)).trans ((st_ne (by decide)).trans ((sA_ne (by decide)).trans ((st_ne (by decide)).trans ((st_ne (by decide)).trans h8))))))))) ((sA_ne (by decide)).trans ((st_ne (by decide)).trans ((sA_ne (by decide)).trans ((st_ne (by decide)).trans ((sA_ne (by decide)).trans ((st_ne (by decide)).trans ((sA_ne (by decide)).trans ((st_ne (by decide)).trans ((st_ne (by decide)).trans h7)))))))))) gv_X6_69 hv_X9_insertTone ⟨Nat.le_of_ble_eq_true rfl, Nat.le_of_ble_eq_true rfl⟩ hl.1 rfl (Nat.le_of_ble_eq_true rfl) ⟨Nat.zero_le _, Nat.zero_le _⟩ dX6_layRow_36 (fun M1 H locs hp w => ?_)
  obtain ⟨f25, hf⟩ := hp
  rw [hf] at w
  clear hf
  refine lv_iload hx hb dX6_layRow_39 (lv_at hl 1 rfl) ?_
  refine lv_iconst (v := 3) hx hb dX6_layRow_41 (by decide) ?_
  refine lv_idiv hx hb dX6_layRow_42 (by decide) ?_
  refine lv_istore (lv' := [(4, .int (((((p3 / 3) / 3) / 3) / 3) / 3)), (5, .int 4), (0, .ref (B + 135)), (1, .ref (B + 44)), (2, .int 6), (3, .int p3)]) hx hb dX6_layRow_43 hl (by decide) rfl (fun ls hl => ?_)
  refine lv_iinc (v := 5) (lv' := [(5, .int 5), (4, .int (((((p3 / 3) / 3) / 3) / 3) / 3)), (0, .ref (B + 135)), (1, .ref (B + 44)), (2, .int 6), (3, .int p3)]) hx hb dX6_layRow_45 hl (k := 1) rfl (by decide) (by decide) rfl (fun ls hl => ?_)
  refine lv_goto (tgt := 21) hx hb dX6_layRow_48 (by decide) ?_
  refine lv_iload hx hb dX6_layRow_21 (lv_at hl 0 rfl) ?_
  refine lv_iload_n hx hb dX6_layRow_23 rfl (lv_at hl 4 rfl) ?_
  refine lv_icmp_ge (tgt := 51) hx hb dX6_layRow_24 (by decide) (fun c1 => absurd c1 (by decide)) (fun _ => ?_)
  refine lv_aload_n hx hb dX6_layRow_27 rfl (lv_at hl 2 rfl) ?_
  refine f_6_3 F w (a := 135) rfl tb_111 dX6_layRow_28 ?_
  refine lv_iconst (v := 0) hx hb dX6_layRow_31 (by decide) ?_
  refine lv_iload hx hb dX6_layRow_32 (lv_at hl 1 rfl) ?_
  refine lv_iconst (v := 3) hx hb dX6_layRow_34 (by decide) ?_
  refine lv_irem hx hb dX6_layRow_35 (by decide) ?_
  refine k_Vv F w (As := [.int 0, .int ((((((p3 / 3) / 3) / 3) / 3) / 3) - (((((p3 / 3) / 3) / 3) / 3) / 3) / 3 * 3)]) (rest := []) (a := 138) (by decide) (sh_9 rfl _ _) rfl (c_X9_insertTone_459 ((sA_ne (by decide)).trans st_at) ((sA_ne (by decide)).trans ((st_ne (by decide)).trans ((sA_ne (by decide)).trans ((st_ne (by decide)).trans ((sA_ne (by decide)).trans ((st_ne (by decide)).trans ((sA_ne (by decide)).trans ((st_ne (by decide)).trans ((sA_ne (by decide)).trans ((st_ne (by decide)).trans ((st_ne (by decide)).trans h11))))))))))) ((sA_ne (by decide)).trans ((st_ne (by decide)).trans ((sA_ne (by decide)).trans ((st_ne (by decide)).trans ((sA_ne (by decide)).trans ((st_ne (by decide)).trans ((sA_ne (by decide)).trans ((st_ne (by decide)).trans ((sA_ne (by decide)).trans ((st_ne (by decide)).trans ((st_ne (by decide)).trans h12))))))))))) ((sA_ne (by decide)).trans ((st_ne (by decide)).trans ((sA_ne (by decide)).trans ((st_ne (by decide)).trans ((sA_ne (by decide)).trans ((st_ne (by decide)).trans ((sA_ne (by decide)).trans ((st_ne (by decide)).trans ((sA_ne (by decide)).trans ((st_ne (by decide)).trans ((st_ne (by decide)).trans h10))))))))))) ((sA_ne (by decide)).trans ((st_ne (by decide)).trans ((sA_ne (by decide)).trans ((st_ne (by decide)).trans ((sA_ne (by decide)).trans ((st_ne (by decide)).trans ((sA_ne (by decide)).trans ((st_ne (by decide)).trans ((sA_ne (by decide)).trans ((st_ne (by decide)).trans ((st_ne (by decide)).trans h9))))))))))) ((sA_ne (by decide)).trans ((st_ne (by decide)).trans ((sA_ne (by decide)).trans ((st_ne (by decide)).trans ((sA_ne (by decide)).trans ((st_ne (by decide)).trans ((sA_ne (by decide)).trans ((st_ne (by decide)).trans ((sA_ne (by decide)).trans ((st_ne (by decide)).trans ((st_ne (by decide)).trans h8))))))))))) ((sA_ne (by decide)).trans ((st_ne (by decide)).trans ((sA_ne (by decide)).trans ((st_ne (by decide)).trans ((sA_ne (by decide)).trans ((st_ne (by decide)).trans ((sA_ne (by decide)).trans ((st_ne (by decide)).trans ((sA_ne (by decide)).trans ((st_ne (by decide)).trans ((st_ne (by decide)).trans h7)))))))))))) gv_X6_69 hv_X9_insertTone ⟨Nat.le_of_ble_eq_true rfl, Nat.le_of_ble_eq_true rfl⟩ hl.1 rfl (Nat.le_of_ble_eq_true rfl) ⟨Nat.zero_le _, Nat.zero_le _⟩ dX6_layRow_36 (fun M1 H locs hp w => ?_)
  obtain ⟨f26, hf⟩ := hp
  rw [hf] at w
  clear hf
  refine lv_iload hx hb dX6_layRow_39 (lv_at hl 1 rfl) ?_
  refine lv_iconst (v := 3) hx hb dX6_layRow_41 (by decide) ?_
  refine lv_idiv hx hb dX6_layRow_42 (by decide) ?_
  refine lv_istore (lv' := [(4, .int ((((((p3 / 3) / 3) / 3) / 3) / 3) / 3)), (5, .int 5), (0, .ref (B + 135)), (1, .ref (B + 44)), (2, .int 6), (3, .int p3)]) hx hb dX6_layRow_43 hl (by decide) rfl (fun ls hl => ?_)
  refine lv_iinc (v := 6) (lv' := [(5, .int 6), (4, .int ((((((p3 / 3) / 3) / 3) / 3) / 3) / 3)), (0, .ref (B + 135)), (1, .ref (B + 44)), (2, .int 6), (3, .int p3)]) hx hb dX6_layRow_45 hl (k := 1) rfl (by decide) (by decide) rfl (fun ls hl => ?_)
  refine lv_goto (tgt := 21) hx hb dX6_layRow_48 (by decide) ?_
  refine lv_iload hx hb dX6_layRow_21 (lv_at hl 0 rfl) ?_
  refine lv_iload_n hx hb dX6_layRow_23 rfl (lv_at hl 4 rfl) ?_
  refine lv_icmp_ge (tgt := 51) hx hb dX6_layRow_24 (by decide) (fun _ => ?_) (fun c1 => absurd c1 (by decide))
  exact e_v F w hr hlocks ⟨_, hv_ext (a := 139) (fun b hb => by simp [st, sA, hb]) rfl⟩ dX6_layRow_51
set_option maxRecDepth 8000 in
theorem bd_X6_bring_461 {p : Program} {l : Launch} {e : Env} {s : State} {m : MethodId} {args : Array Value} {below : List Frame} {meth : Method} {c : Code} {D : va_G} {B : Nat} {cy : Nat → ClassId} {H H0 : Heap} {locs : List Loc} {Q : State → Prop} {ls : Array Slot} {M : Mem} {k : Nat} (F : CallFix p m c cX6_bring 11 s args TB RX6) (w : Wd D B cy s H0 M H locs) (hl : lv_has ls 11 [(9, .int (nI k)), (7, .long 0), (5, .long 0), (4, .int 729), (0, .ref (B + 135)), (1, .ref (B + 22)), (2, .ref (B + 44)), (3, .int 6)]) (h0 : ¬ 729 ≤ (nI k)) (h1 : M.1 138 0 = 6) (h2 : M.1 138 1 = 0) (h3 : M.1 138 2 = 0) (h4 : M.1 138 3 = 0) (h5 : M.1 44 1 = 0) (h6 : M.1 44 2 = 0) (h7 : M.1 44 3 = 0) (h8 : M.1 140 0 = 0) (h9 : M.1 140 1 = 0) (h10 : M.1 140 2 = 0) (h11 : M.1 140 3 = 0) (h12 : M.1 140 4 = 0) (h13 : M.1 140 5 = 0) (h14 : M.1 22 2 = 0) (h15 : M.1 136 6 = (nI k)) (h16 : ¬ (nI k) = 0) (h17 : M.1 137 6 = 0) (kk : ∀ (f : Nat → Int32) (H1 : Heap) (locs1 : List Loc) (ls1 : Array Slot), Wd D B cy s H0 (st (sA (st (st (st (st (st (st (st M 138 0 0) 138 0 1) 138 0 2) 138 0 3) 138 0 4) 138 0 5) 138 0 6) 139 f) 136 6 (((nI k) + 1))) H1 locs1 → lv_has ls1 11 [(9, .int ((nI k) + 1)), (7, .long 0), (5, .long 0), (4, .int 729), (0, .ref (B + 135)), (1, .ref (B + 22)), (2, .ref (B + 44)), (3, .int 6)] → W p l e (rmm 2 48) s m args below meth c H1 locs1 0 0 Q (F0 m 76 ls1 [])) : W p l e (rmm 2 48) s m args below meth c H locs 0 0 Q (F0 m 76 ls []) := by
  have hx := F.1
  have hb := F.2.1
  refine lv_iload hx hb dX6_bring_76 (lv_at hl 0 rfl) ?_
  refine lv_iload hx hb dX6_bring_78 (lv_at hl 3 rfl) ?_
  refine lv_icmp_ge (tgt := 199) hx hb dX6_bring_80 (by decide) (fun c1 => absurd c1 h0) (fun _ => ?_)
  refine lv_aload_n hx hb dX6_bring_83 rfl (lv_at hl 4 rfl) ?_
  refine lv_aload_n hx hb dX6_bring_84 rfl (lv_at hl 5 rfl) ?_
  refine f_0_4 F w (a := 22) rfl tb_556 dX6_bring_85 ?_
  refine lv_iload_n hx hb dX6_bring_88 rfl (lv_at hl 7 rfl) ?_
  refine lv_iload hx hb dX6_bring_89 (lv_at hl 0 rfl) ?_
  refine k_Vv F w (As := [.ref (B + 44), .int 6, .int (nI k)]) (rest := []) (a := 135) (by decide) (sh_6 rfl _ _) rfl (c_X6_layRow_460 (h1) (h2) (h3) (h4) (h5) (h6) (h7) (h8) (h9) (h10) (h11) (h12) (h13)) gv_X6_41 hv_X6_layRow ⟨Nat.le_of_ble_eq_true rfl, Nat.le_of_ble_eq_true rfl⟩ hl.1 rfl (Nat.le_of_ble_eq_true rfl) ⟨Nat.zero_le _, Nat.zero_le _⟩ dX6_bring_91 (fun M1 H locs hp w => ?_)
  obtain ⟨f21, hf⟩ := hp
  rw [hf] at w
  clear hf
  refine lv_iconst (v := 0) hx hb dX6_bring_94 (by decide) ?_
  refine lv_istore (lv' := [(10, .int 0), (9, .int (nI k)), (7, .long 0), (5, .long 0), (4, .int 729), (0, .ref (B + 135)), (1, .ref (B + 22)), (2, .ref (B + 44)), (3, .int 6)]) hx hb dX6_bring_95 hl (by decide) rfl (fun ls hl => ?_)
  refine lv_iload hx hb dX6_bring_97 (lv_at hl 0 rfl) ?_
  refine lv_aload_n hx hb dX6_bring_99 rfl (lv_at hl 6 rfl) ?_
  refine f_0_2 F w (a := 22) rfl tb_562 dX6_bring_100 ?_
  refine r_val (v := 0) ((sA_ne (by decide)).trans ((st_ne (by decide)).trans ((st_ne (by decide)).trans ((st_ne (by decide)).trans ((st_ne (by decide)).trans ((st_ne (by decide)).trans ((st_ne (by decide)).trans ((st_ne (by decide)).trans h14)))))))) ?_
  refine lv_icmp_ge (tgt := 131) hx hb dX6_bring_103 (by decide) (fun _ => ?_) (fun c1 => absurd c1 (by decide))
  refine lv_aload_n hx hb dX6_bring_131 rfl (lv_at hl 5 rfl) ?_
  refine f_6_3 F w (a := 135) rfl tb_111 dX6_bring_132 ?_
  refine x_Vl F w (As := []) (rest := []) (a := 138) (by decide) (sh_9 rfl _ _) rfl (c_X9_kindsRead_456 ((sA_ne (by decide)).trans st_at) ((sA_ne (by decide)).trans ((st_ne (by decide)).trans ((st_ne (by decide)).trans ((st_ne (by decide)).trans ((st_ne (by decide)).trans ((st_ne (by decide)).trans ((st_ne (by decide)).trans ((st_ne (by decide)).trans h8)))))))) ((sA_ne (by decide)).trans ((st_ne (by decide)).trans ((st_ne (by decide)).trans ((st_ne (by decide)).trans ((st_ne (by decide)).trans ((st_ne (by decide)).trans ((st_ne (by decide)).trans ((st_ne (by decide)).trans h9)))))))) ((sA_ne (by decide)).trans ((st_ne (by decide)).trans ((st_ne (by decide)).trans ((st_ne (by decide)).trans ((st_ne (by decide)).trans ((st_ne (by decide)).trans ((st_ne (by decide)).trans ((st_ne (by decide)).trans h10)))))))) ((sA_ne (by decide)).trans ((st_ne (by decide)).trans ((st_ne (by decide)).trans ((st_ne (by decide)).trans ((st_ne (by decide)).trans ((st_ne (by decide)).trans ((st_ne (by decide)).trans ((st_ne (by decide)).trans h11)))))))) ((sA_ne (by decide)).trans ((st_ne (by decide)).trans ((st_ne (by decide)).trans ((st_ne (by decide)).trans ((st_ne (by decide)).trans ((st_ne (by decide)).trans ((st_ne (by decide)).trans ((st_ne (by decide)).trans h12)))))))) ((sA_ne (by decide)).trans ((st_ne (by decide)).trans ((st_ne (by decide)).trans ((st_ne (by decide)).trans ((st_ne (by decide)).trans ((st_ne (by decide)).trans ((st_ne (by decide)).trans ((st_ne (by decide)).trans h13))))))))) gv_X6_29 hv_X9_kindsRead ⟨Nat.le_of_ble_eq_true rfl, Nat.le_of_ble_eq_true rfl⟩ hl.1 rfl (Nat.le_of_ble_eq_true rfl) ⟨Nat.zero_le _, Nat.zero_le _⟩ dX6_bring_135 (fun H locs w => ?_)
  refine lv_lload hx hb dX6_bring_138 (lv_at hl 3 rfl) ?_
  refine W.lcmp hx hb dX6_bring_140 ?_
  refine r_val (v := 0) (by decide) ?_
  refine lv_if_ne (tgt := 193) hx hb dX6_bring_141 (by decide) (fun c1 => absurd c1 (by decide)) (fun _ => ?_)
  refine lv_aload_n hx hb dX6_bring_144 rfl (lv_at hl 5 rfl) ?_
  refine f_6_3 F w (a := 135) rfl tb_111 dX6_bring_145 ?_
  refine x_Vl F w (As := []) (rest := []) (a := 138) (by decide) (sh_9 rfl _ _) rfl (c_X9_linesRead_457 ((sA_ne (by decide)).trans st_at) ((sA_ne (by decide)).trans ((st_ne (by decide)).trans ((st_ne (by decide)).trans ((st_ne (by decide)).trans ((st_ne (by decide)).trans ((st_ne (by decide)).trans ((st_ne (by decide)).trans ((st_ne (by decide)).trans h8)))))))) ((sA_ne (by decide)).trans ((st_ne (by decide)).trans ((st_ne (by decide)).trans ((st_ne (by decide)).trans ((st_ne (by decide)).trans ((st_ne (by decide)).trans ((st_ne (by decide)).trans ((st_ne (by decide)).trans h9)))))))) ((sA_ne (by decide)).trans ((st_ne (by decide)).trans ((st_ne (by decide)).trans ((st_ne (by decide)).trans ((st_ne (by decide)).trans ((st_ne (by decide)).trans ((st_ne (by decide)).trans ((st_ne (by decide)).trans h10)))))))) ((sA_ne (by decide)).trans ((st_ne (by decide)).trans ((st_ne (by decide)).trans ((st_ne (by decide)).trans ((st_ne (by decide)).trans ((st_ne (by decide)).trans ((st_ne (by decide)).trans ((st_ne (by decide)).trans h11)))))))) ((sA_ne (by decide)).trans ((st_ne (by decide)).trans ((st_ne (by decide)).trans ((st_ne (by decide)).trans ((st_ne (by decide)).trans ((st_ne (by decide)).trans ((st_ne (by decide)).trans ((st_ne (by decide)).trans h12)))))))) ((sA_ne (by decide)).trans ((st_ne (by decide)).trans ((st_ne (by decide)).trans ((st_ne (by decide)).trans ((st_ne (by decide)).trans ((st_ne (by decide)).trans ((st_ne (by decide)).trans ((st_ne (by decide)).trans h13))))))))) gv_X6_33 hv_X9_linesRead ⟨Nat.le_of_ble_eq_true rfl, Nat.le_of_ble_eq_true rfl⟩ hl.1 rfl (Nat.le_of_ble_eq_true rfl) ⟨Nat.zero_le _, Nat.zero_le _⟩ dX6_bring_148 (fun H locs w => ?_)
  refine lv_lload hx hb dX6_bring_151 (lv_at hl 2 rfl) ?_
  refine W.lcmp hx hb dX6_bring_153 ?_
  refine r_val (v := 0) (by decide) ?_
  refine lv_if_ne (tgt := 193) hx hb dX6_bring_154 (by decide) (fun c1 => absurd c1 (by decide)) (fun _ => ?_)
  refine lv_aload_n hx hb dX6_bring_157 rfl (lv_at hl 5 rfl) ?_
  refine f_6_2 F w (a := 135) rfl tb_109 dX6_bring_158 ?_
  refine lv_iload_n hx hb dX6_bring_161 rfl (lv_at hl 8 rfl) ?_
  refine lv_aload_n hx hb dX6_bring_162 rfl (lv_at hl 5 rfl) ?_
  refine f_6_1 F w (a := 135) rfl tb_108 dX6_bring_163 ?_
  refine lv_iload_n hx hb dX6_bring_166 rfl (lv_at hl 8 rfl) ?_
  refine g_iald F w (a := 136) rfl (j := 6) ⟨by decide, by decide⟩ (by decide) dX6_bring_167 ?_
  refine r_val (v := (nI k)) ((sA_ne (by decide)).trans ((st_ne (by decide)).trans ((st_ne (by decide)).trans ((st_ne (by decide)).trans ((st_ne (by decide)).trans ((st_ne (by decide)).trans ((st_ne (by decide)).trans ((st_ne (by decide)).trans h15)))))))) ?_
  refine lv_if_ne (tgt := 176) hx hb dX6_bring_168 (by decide) (fun _ => ?_) (fun c1 => absurd c1 h16)
  refine lv_aload_n hx hb dX6_bring_176 rfl (lv_at hl 5 rfl) ?_
  refine f_6_2 F w (a := 135) rfl tb_109 dX6_bring_177 ?_
  refine lv_iload_n hx hb dX6_bring_180 rfl (lv_at hl 8 rfl) ?_
  refine g_iald F w (a := 137) rfl (j := 6) ⟨by decide, by decide⟩ (by decide) dX6_bring_181 ?_
  refine r_val (v := 0) ((sA_ne (by decide)).trans ((st_ne (by decide)).trans ((st_ne (by decide)).trans ((st_ne (by decide)).trans ((st_ne (by decide)).trans ((st_ne (by decide)).trans ((st_ne (by decide)).trans ((st_ne (by decide)).trans h17)))))))) ?_
  refine g_iast F w (a := 137) rfl (j := 6) ⟨by decide, by decide⟩ (by decide) dX6_bring_182 (fun H locs w => ?_)
  rw [st_same ((sA_ne (by decide)).trans ((st_ne (by decide)).trans ((st_ne (by decide)).trans ((st_ne (by decide)).trans ((st_ne (by decide)).trans ((st_ne (by decide)).trans ((st_ne (by decide)).trans ((st_ne (by decide)).trans h17))))))))] at w
  refine lv_aload_n hx hb dX6_bring_183 rfl (lv_at hl 5 rfl) ?_
  refine f_6_1 F w (a := 135) rfl tb_108 dX6_bring_184 ?_
  refine lv_iload_n hx hb dX6_bring_187 rfl (lv_at hl 8 rfl) ?_
  refine lv_dup2_11 hx hb dX6_bring_188 rfl rfl ?_
  refine g_iald F w (a := 136) rfl (j := 6) ⟨by decide, by decide⟩ (by decide) dX6_bring_189 ?_
  refine r_val (v := (nI k)) ((sA_ne (by decide)).trans ((st_ne (by decide)).trans ((st_ne (by decide)).trans ((st_ne (by decide)).trans ((st_ne (by decide)).trans ((st_ne (by decide)).trans ((st_ne (by decide)).trans ((st_ne (by decide)).trans h15)))))))) ?_
  refine lv_iconst (v := 1) hx hb dX6_bring_190 (by decide) ?_
  refine lv_iadd hx hb dX6_bring_191 ?_
  refine g_iast F w (a := 136) rfl (j := 6) ⟨by decide, by decide⟩ (by decide) dX6_bring_192 (fun H locs w => ?_)
  refine lv_iinc (v := ((nI k) + 1)) (lv' := [(9, .int ((nI k) + 1)), (10, .int 0), (7, .long 0), (5, .long 0), (4, .int 729), (0, .ref (B + 135)), (1, .ref (B + 22)), (2, .ref (B + 44)), (3, .int 6)]) hx hb dX6_bring_193 hl (k := 1) rfl rfl (by decide) rfl (fun ls hl => ?_)
  refine lv_goto (tgt := 76) hx hb dX6_bring_196 (by decide) ?_
  exact kk _ _ _ _ w (lv_sub hl [0, 2, 3, 4, 5, 6, 7, 8] rfl)
set_option maxRecDepth 8000 in
theorem ex_X6_bring_461 {p : Program} {l : Launch} {e : Env} {s : State} {m : MethodId} {args : Array Value} {below : List Frame} {meth : Method} {c : Code} {D : va_G} {B : Nat} {cy : Nat → ClassId} {H : Heap} {locs : List Loc} {ls : Array Slot} {M : Mem} {post : Mem → Prop} (F : CallFix p m c cX6_bring 11 s args TB RX6) (hr : meth.sig.returnType = none) (hlocks : meth.locks = false) (w : Wd D B cy s s.heap M H locs) (hl : lv_has ls 11 [(9, .int 729), (7, .long 0), (5, .long 0), (4, .int 729), (0, .ref (B + 135)), (1, .ref (B + 22)), (2, .ref (B + 44)), (3, .int 6)]) (h0 : M.1 135 0 = 0) (hp : post (st M 135 0 64)) : W p l e (rmm 2 48) s m args below meth c H locs 0 0 (MQ below (va_Qv post (fun M1 t => Wp D B cy M1 t) (fun q => B ≤ q)) args s 0 0 (fun q => B ≤ q)) (F0 m 76 ls []) := by
  have hx := F.1
  have hb := F.2.1
  refine lv_iload hx hb dX6_bring_76 (lv_at hl 0 rfl) ?_
  refine lv_iload hx hb dX6_bring_78 (lv_at hl 3 rfl) ?_
  refine lv_icmp_ge (tgt := 199) hx hb dX6_bring_80 (by decide) (fun _ => ?_) (fun c1 => absurd c1 (by decide))
  refine lv_aload_n hx hb dX6_bring_199 rfl (lv_at hl 4 rfl) ?_
  refine lv_dup hx hb dX6_bring_200 rfl ?_
  refine f_6_0 F w (a := 135) rfl tb_107 dX6_bring_201 ?_
  refine r_val (v := 0) (h0) ?_
  refine lv_iconst (v := 1) hx hb dX6_bring_204 (by decide) ?_
  refine lv_iload_n hx hb dX6_bring_205 rfl (lv_at hl 7 rfl) ?_
  refine lv_ishl hx hb dX6_bring_206 ?_
  refine r_val (v := 64) (by decide) ?_
  refine lv_ior hx hb dX6_bring_207 ?_
  refine r_val (v := 64) (by decide) ?_
  refine u_6_0 F w (a := 135) rfl tb_107 dX6_bring_208 (fun H locs w => ?_)
  exact e_v F w hr hlocks hp dX6_bring_211
set_option maxRecDepth 8000 in
theorem lp_X6_bring_461 {p : Program} {l : Launch} {e : Env} {s : State} {m : MethodId} {args : Array Value} {below : List Frame} {meth : Method} {c : Code} {D : va_G} {B : Nat} {cy : Nat → ClassId} {Mb : Mem} (F : CallFix p m c cX6_bring 11 s args TB RX6) (hr : meth.sig.returnType = none) (hlocks : meth.locks = false) : ∀ (n k : Nat), n + k = 729 → 1 ≤ k → ∀ (M : Mem) (H : Heap) (locs : List Loc) (ls : Array Slot), Wd D B cy s s.heap M H locs → lv_has ls 11 [(9, .int (nI k)), (7, .long 0), (5, .long 0), (4, .int 729), (0, .ref (B + 135)), (1, .ref (B + 22)), (2, .ref (B + 44)), (3, .int 6)] → M.1 136 6 = nI k → (M.1 138 0 = 6) → (M.1 138 1 = 0) → (M.1 138 2 = 0) → (M.1 138 3 = 0) → (M.1 44 1 = 0) → (M.1 44 2 = 0) → (M.1 44 3 = 0) → (M.1 140 0 = 0) → (M.1 140 1 = 0) → (M.1 140 2 = 0) → (M.1 140 3 = 0) → (M.1 140 4 = 0) → (M.1 140 5 = 0) → (M.1 22 2 = 0) → (M.1 137 6 = 0) → (M.1 135 0 = 0) → (∀ a, 146 ≤ a → M.1 a = Mb.1 a) → W p l e (rmm 2 48) s m args below meth c H locs 0 0 (MQ below (va_Qv (fun M1 => M1.1 136 6 = 729 ∧ M1.1 137 6 = 0 ∧ ∀ a, 146 ≤ a → M1.1 a = Mb.1 a) (fun M1 t => Wp D B cy M1 t) (fun q => B ≤ q)) args s 0 0 (fun q => B ≤ q)) (F0 m 76 ls []) := by
  intro n
  induction n with
  | zero =>
    intro k hk h1 M H locs ls w hl g0 h0 h1 h2 h3 h4 h5 h6 h7 h8 h9 h10 h11 h12 h13 h14 h15 hi
    have hk : k = 729 := by omega
    subst hk
    exact ex_X6_bring_461 (post := fun M1 => M1.1 136 6 = 729 ∧ M1.1 137 6 = 0 ∧ ∀ a, 146 ≤ a → M1.1 a = Mb.1 a) F hr hlocks w hl h15 ⟨(st_ne (by decide)).trans g0, (st_ne (by decide)).trans h14, fun a ha => (st_hi (by omega)).trans ((hi a ha))⟩
  | succ n ih =>
    intro k hk h1 M H locs ls w hl g0 h0 h1 h2 h3 h4 h5 h6 h7 h8 h9 h10 h11 h12 h13 h14 h15 hi
    exact bd_X6_bring_461 F w hl (show ¬ nI 729 ≤ nI k from nI_ge (by omega) (by decide)) h0 h1 h2 h3 h4 h5 h6 h7 h8 h9 h10 h11 h12 h13 g0 (nI_ne0 (by omega) (by omega)) h14 (fun f H1 locs1 ls1 w1 hl1 => ih (k + 1) (by omega) (by omega) _ H1 locs1 ls1 w1 (by rw [nI_1] at hl1; exact hl1) (st_at.trans (nI_1 k)) ((st_ne (by decide)).trans ((sA_ne (by decide)).trans st_at)) ((st_ne (by decide)).trans ((sA_ne (by decide)).trans ((st_ne (by decide)).trans ((st_ne (by decide)).trans ((st_ne (by decide)).trans ((st_ne (by decide)).trans ((st_ne (by decide)).trans ((st_ne (by decide)).trans ((st_ne (by decide)).trans h1))))))))) ((st_ne (by decide)).trans ((sA_ne (by decide)).trans ((st_ne (by decide)).trans ((st_ne (by decide)).trans ((st_ne (by decide)).trans ((st_ne (by decide)).trans ((st_ne (by decide)).trans ((st_ne (by decide)).trans ((st_ne (by decide)).trans h2))))))))) ((st_ne (by decide)).trans ((sA_ne (by decide)).trans ((st_ne (by decide)).trans ((st_ne (by decide)).trans ((st_ne (by decide)).trans ((st_ne (by decide)).trans ((st_ne (by decide)).trans ((st_ne (by decide)).trans ((st_ne (by decide)).trans h3))))))))) ((st_ne (by decide)).trans ((sA_ne (by decide)).trans ((st_ne (by decide)).trans ((st_ne (by decide)).trans ((st_ne (by decide)).trans ((st_ne (by decide)).trans ((st_ne (by decide)).trans ((st_ne (by decide)).trans ((st_ne (by decide)).trans h4))))))))) ((st_ne (by decide)).trans ((sA_ne (by decide)).trans ((st_ne (by decide)).trans ((st_ne (by decide)).trans ((st_ne (by decide)).trans ((st_ne (by decide)).trans ((st_ne (by decide)).trans ((st_ne (by decide)).trans ((st_ne (by decide)).trans h5))))))))) ((st_ne (by decide)).trans ((sA_ne (by decide)).trans ((st_ne (by decide)).trans ((st_ne (by decide)).trans ((st_ne (by decide)).trans ((st_ne (by decide)).trans ((st_ne (by decide)).trans ((st_ne (by decide)).trans ((st_ne (by decide)).trans h6))))))))) ((st_ne (by decide)).trans ((sA_ne (by decide)).trans ((st_ne (by decide)).trans ((st_ne (by decide)).trans ((st_ne (by decide)).trans ((st_ne (by decide)).trans ((st_ne (by decide)).trans ((st_ne (by decide)).trans ((st_ne (by decide)).trans h7))))))))) ((st_ne (by decide)).trans ((sA_ne (by decide)).trans ((st_ne (by decide)).trans ((st_ne (by decide)).trans ((st_ne (by decide)).trans ((st_ne (by decide)).trans ((st_ne (by decide)).trans ((st_ne (by decide)).trans ((st_ne (by decide)).trans h8))))))))) ((st_ne (by decide)).trans ((sA_ne (by decide)).trans ((st_ne (by decide)).trans ((st_ne (by decide)).trans ((st_ne (by decide)).trans ((st_ne (by decide)).trans ((st_ne (by decide)).trans ((st_ne (by decide)).trans ((st_ne (by decide)).trans h9))))))))) ((st_ne (by decide)).trans ((sA_ne (by decide)).trans ((st_ne (by decide)).trans ((st_ne (by decide)).trans ((st_ne (by decide)).trans ((st_ne (by decide)).trans ((st_ne (by decide)).trans ((st_ne (by decide)).trans ((st_ne (by decide)).trans h10))))))))) ((st_ne (by decide)).trans ((sA_ne (by decide)).trans ((st_ne (by decide)).trans ((st_ne (by decide)).trans ((st_ne (by decide)).trans ((st_ne (by decide)).trans ((st_ne (by decide)).trans ((st_ne (by decide)).trans ((st_ne (by decide)).trans h11))))))))) ((st_ne (by decide)).trans ((sA_ne (by decide)).trans ((st_ne (by decide)).trans ((st_ne (by decide)).trans ((st_ne (by decide)).trans ((st_ne (by decide)).trans ((st_ne (by decide)).trans ((st_ne (by decide)).trans ((st_ne (by decide)).trans h12))))))))) ((st_ne (by decide)).trans ((sA_ne (by decide)).trans ((st_ne (by decide)).trans ((st_ne (by decide)).trans ((st_ne (by decide)).trans ((st_ne (by decide)).trans ((st_ne (by decide)).trans ((st_ne (by decide)).trans ((st_ne (by decide)).trans h13))))))))) ((st_ne (by decide)).trans ((sA_ne (by decide)).trans ((st_ne (by decide)).trans ((st_ne (by decide)).trans ((st_ne (by decide)).trans ((st_ne (by decide)).trans ((st_ne (by decide)).trans ((st_ne (by decide)).trans ((st_ne (by decide)).trans h14))))))))) ((st_ne (by decide)).trans ((sA_ne (by decide)).trans ((st_ne (by decide)).trans ((st_ne (by decide)).trans ((st_ne (by decide)).trans ((st_ne (by decide)).trans ((st_ne (by decide)).trans ((st_ne (by decide)).trans ((st_ne (by decide)).trans h15))))))))) (fun a ha => (st_hi (by omega)).trans ((sA_hi (by omega)).trans ((st_hi (by omega)).trans ((st_hi (by omega)).trans ((st_hi (by omega)).trans ((st_hi (by omega)).trans ((st_hi (by omega)).trans ((st_hi (by omega)).trans ((st_hi (by omega)).trans ((hi a ha))))))))))))
set_option maxRecDepth 8000 in
theorem c_X6_bring_461 {l : Launch} {D : va_G} {B : Nat} {cy : Nat → ClassId} {M : Mem} (h0 : M.1 135 0 = 0) (h1 : M.1 44 0 = 0) (h2 : M.1 136 6 = 0) (h3 : M.1 137 6 = 0) (h4 : M.1 138 0 = 0) (h5 : M.1 138 1 = 0) (h6 : M.1 138 2 = 0) (h7 : M.1 138 3 = 0) (h8 : M.1 44 1 = 0) (h9 : M.1 44 2 = 0) (h10 : M.1 44 3 = 0) (h11 : M.1 140 0 = 0) (h12 : M.1 140 1 = 0) (h13 : M.1 140 2 = 0) (h14 : M.1 140 3 = 0) (h15 : M.1 140 4 = 0) (h16 : M.1 140 5 = 0) (h17 : M.1 22 2 = 0) : Cv l D B cy yX6_bring cX6_bring 11 2 48 [.ref (B + 135), .ref (B + 22), .ref (B + 44), .int 6] M (fun M1 => M1.1 136 6 = 729 ∧ M1.1 137 6 = 0 ∧ ∀ a, 146 ≤ a → M1.1 a = M.1 a) := by
  refine s_any (by decide) (Nat.le_of_ble_eq_true rfl) ?_
  intro p e s m below meth c ls F hr hlocks w hl
  have F : CallFix p m c cX6_bring 11 s _ TB RX6 := F
  have hx := F.1
  have hb := F.2.1
  have hl : lv_has ls 11 [(0, .ref (B + 135)), (1, .ref (B + 22)), (2, .ref (B + 44)), (3, .int 6)] := hl
  refine lv_iload_n hx hb dX6_bring_0 rfl (lv_at hl 3 rfl) ?_
  refine lv_if_lt (tgt := 21) hx hb dX6_bring_1 (by decide) (fun c1 => absurd c1 (by decide)) (fun _ => ?_)
  refine lv_iload_n hx hb dX6_bring_4 rfl (lv_at hl 3 rfl) ?_
  refine lv_bipush (v := 6) hx hb dX6_bring_5 (by decide) ?_
  refine lv_icmp_gt (tgt := 21) hx hb dX6_bring_7 (by decide) (fun c1 => absurd c1 (by decide)) (fun _ => ?_)
  refine lv_aload_n hx hb dX6_bring_10 rfl (lv_at hl 0 rfl) ?_
  refine f_6_0 F w (a := 135) rfl tb_107 dX6_bring_11 ?_
  refine r_val (v := 0) (h0) ?_
  refine lv_iload_n hx hb dX6_bring_14 rfl (lv_at hl 3 rfl) ?_
  refine lv_ishr hx hb dX6_bring_15 ?_
  refine r_val (v := 0) (by decide) ?_
  refine lv_iconst (v := 1) hx hb dX6_bring_16 (by decide) ?_
  refine lv_iand hx hb dX6_bring_17 ?_
  refine r_val (v := 0) (by decide) ?_
  refine lv_if_eq (tgt := 22) hx hb dX6_bring_18 (by decide) (fun _ => ?_) (fun c1 => absurd c1 (by decide))
  refine lv_iconst (v := 1) hx hb dX6_bring_22 (by decide) ?_
  refine lv_istore (lv' := [(4, .int 1), (0, .ref (B + 135)), (1, .ref (B + 22)), (2, .ref (B + 44)), (3, .int 6)]) hx hb dX6_bring_23 hl (by decide) rfl (fun ls hl => ?_)
  refine lv_iconst (v := 0) hx hb dX6_bring_25 (by decide) ?_
  refine lv_istore (lv' := [(5, .int 0), (4, .int 1), (0, .ref (B + 135)), (1, .ref (B + 22)), (2, .ref (B + 44)), (3, .int 6)]) hx hb dX6_bring_26 hl (by decide) rfl (fun ls hl => ?_)
  refine lv_iload hx hb dX6_bring_28 (lv_at hl 0 rfl) ?_
  refine lv_iload_n hx hb dX6_bring_30 rfl (lv_at hl 5 rfl) ?_
  refine lv_icmp_ge (tgt := 46) hx hb dX6_bring_31 (by decide) (fun c1 => absurd c1 (by decide)) (fun _ => ?_)
  refine lv_iload hx hb dX6_bring_34 (lv_at hl 1 rfl) ?_
  refine lv_iconst (v := 3) hx hb dX6_bring_36 (by decide) ?_
  refine lv_imul hx hb dX6_bring_37 ?_
  refine r_val (v := 3) (by decide) ?_
  refine lv_istore (lv' := [(4, .int 3), (5, .int 0), (0, .ref (B + 135)), (1, .ref (B + 22)), (2, .ref (B + 44)), (3, .int 6)]) hx hb dX6_bring_38 hl (by decide) rfl (fun ls hl => ?_)
  refine lv_iinc (v := 1) (lv' := [(5, .int 1), (4, .int 3), (0, .ref (B + 135)), (1, .ref (B + 22)), (2, .ref (B + 44)), (3, .int 6)]) hx hb dX6_bring_40 hl (k := 1) rfl (by decide) (by decide) rfl (fun ls hl => ?_)
  refine lv_goto (tgt := 28) hx hb dX6_bring_43 (by decide) ?_
  refine lv_iload hx hb dX6_bring_28 (lv_at hl 0 rfl) ?_
  refine lv_iload_n hx hb dX6_bring_30 rfl (lv_at hl 5 rfl) ?_
  refine lv_icmp_ge (tgt := 46) hx hb dX6_bring_31 (by decide) (fun c1 => absurd c1 (by decide)) (fun _ => ?_)
  refine lv_iload hx hb dX6_bring_34 (lv_at hl 1 rfl) ?_
  refine lv_iconst (v := 3) hx hb dX6_bring_36 (by decide) ?_
  refine lv_imul hx hb dX6_bring_37 ?_
  refine r_val (v := 9) (by decide) ?_
  refine lv_istore (lv' := [(4, .int 9), (5, .int 1), (0, .ref (B + 135)), (1, .ref (B + 22)), (2, .ref (B + 44)), (3, .int 6)]) hx hb dX6_bring_38 hl (by decide) rfl (fun ls hl => ?_)
  refine lv_iinc (v := 2) (lv' := [(5, .int 2), (4, .int 9), (0, .ref (B + 135)), (1, .ref (B + 22)), (2, .ref (B + 44)), (3, .int 6)]) hx hb dX6_bring_40 hl (k := 1) rfl (by decide) (by decide) rfl (fun ls hl => ?_)
  refine lv_goto (tgt := 28) hx hb dX6_bring_43 (by decide) ?_
  refine lv_iload hx hb dX6_bring_28 (lv_at hl 0 rfl) ?_
  refine lv_iload_n hx hb dX6_bring_30 rfl (lv_at hl 5 rfl) ?_
  refine lv_icmp_ge (tgt := 46) hx hb dX6_bring_31 (by decide) (fun c1 => absurd c1 (by decide)) (fun _ => ?_)
  refine lv_iload hx hb dX6_bring_34 (lv_at hl 1 rfl) ?_
  refine lv_iconst (v := 3) hx hb dX6_bring_36 (by decide) ?_
  refine lv_imul hx hb dX6_bring_37 ?_
  refine r_val (v := 27) (by decide) ?_
  refine lv_istore (lv' := [(4, .int 27), (5, .int 2), (0, .ref (B + 135)), (1, .ref (B + 22)), (2, .ref (B + 44)), (3, .int 6)]) hx hb dX6_bring_38 hl (by decide) rfl (fun ls hl => ?_)
  refine lv_iinc (v := 3) (lv' := [(5, .int 3), (4, .int 27), (0, .ref (B + 135)), (1, .ref (B + 22)), (2, .ref (B + 44)), (3, .int 6)]) hx hb dX6_bring_40 hl (k := 1) rfl (by decide) (by decide) rfl (fun ls hl => ?_)
  refine lv_goto (tgt := 28) hx hb dX6_bring_43 (by decide) ?_
  refine lv_iload hx hb dX6_bring_28 (lv_at hl 0 rfl) ?_
  refine lv_iload_n hx hb dX6_bring_30 rfl (lv_at hl 5 rfl) ?_
  refine lv_icmp_ge (tgt := 46) hx hb dX6_bring_31 (by decide) (fun c1 => absurd c1 (by decide)) (fun _ => ?_)
  refine lv_iload hx hb dX6_bring_34 (lv_at hl 1 rfl) ?_
  refine lv_iconst (v := 3) hx hb dX6_bring_36 (by decide) ?_
  refine lv_imul hx hb dX6_bring_37 ?_
  refine r_val (v := 81) (by decide) ?_
  refine lv_istore (lv' := [(4, .int 81), (5, .int 3), (0, .ref (B + 135)), (1, .ref (B + 22)), (2, .ref (B + 44)), (3, .int 6)]) hx hb dX6_bring_38 hl (by decide) rfl (fun ls hl => ?_)
  refine lv_iinc (v := 4) (lv' := [(5, .int 4), (4, .int 81), (0, .ref (B + 135)), (1, .ref (B + 22)), (2, .ref (B + 44)), (3, .int 6)]) hx hb dX6_bring_40 hl (k := 1) rfl (by decide) (by decide) rfl (fun ls hl => ?_)
  refine lv_goto (tgt := 28) hx hb dX6_bring_43 (by decide) ?_
  refine lv_iload hx hb dX6_bring_28 (lv_at hl 0 rfl) ?_
  refine lv_iload_n hx hb dX6_bring_30 rfl (lv_at hl 5 rfl) ?_
  refine lv_icmp_ge (tgt := 46) hx hb dX6_bring_31 (by decide) (fun c1 => absurd c1 (by decide)) (fun _ => ?_)
  refine lv_iload hx hb dX6_bring_34 (lv_at hl 1 rfl) ?_
  refine lv_iconst (v := 3) hx hb dX6_bring_36 (by decide) ?_
  refine lv_imul hx hb dX6_bring_37 ?_
  refine r_val (v := 243) (by decide) ?_
  refine lv_istore (lv' := [(4, .int 243), (5, .int 4), (0, .ref (B + 135)), (1, .ref (B + 22)), (2, .ref (B + 44)), (3, .int 6)]) hx hb dX6_bring_38 hl (by decide) rfl (fun ls hl => ?_)
  refine lv_iinc (v := 5) (lv' := [(5, .int 5), (4, .int 243), (0, .ref (B + 135)), (1, .ref (B + 22)), (2, .ref (B + 44)), (3, .int 6)]) hx hb dX6_bring_40 hl (k := 1) rfl (by decide) (by decide) rfl (fun ls hl => ?_)
  refine lv_goto (tgt := 28) hx hb dX6_bring_43 (by decide) ?_
  refine lv_iload hx hb dX6_bring_28 (lv_at hl 0 rfl) ?_
  refine lv_iload_n hx hb dX6_bring_30 rfl (lv_at hl 5 rfl) ?_
  refine lv_icmp_ge (tgt := 46) hx hb dX6_bring_31 (by decide) (fun c1 => absurd c1 (by decide)) (fun _ => ?_)
  refine lv_iload hx hb dX6_bring_34 (lv_at hl 1 rfl) ?_
  refine lv_iconst (v := 3) hx hb dX6_bring_36 (by decide) ?_
  refine lv_imul hx hb dX6_bring_37 ?_
  refine r_val (v := 729) (by decide) ?_
  refine lv_istore (lv' := [(4, .int 729), (5, .int 5), (0, .ref (B + 135)), (1, .ref (B + 22)), (2, .ref (B + 44)), (3, .int 6)]) hx hb dX6_bring_38 hl (by decide) rfl (fun ls hl => ?_)
  refine lv_iinc (v := 6) (lv' := [(5, .int 6), (4, .int 729), (0, .ref (B + 135)), (1, .ref (B + 22)), (2, .ref (B + 44)), (3, .int 6)]) hx hb dX6_bring_40 hl (k := 1) rfl (by decide) (by decide) rfl (fun ls hl => ?_)
  refine lv_goto (tgt := 28) hx hb dX6_bring_43 (by decide) ?_
  refine lv_iload hx hb dX6_bring_28 (lv_at hl 0 rfl) ?_
  refine lv_iload_n hx hb dX6_bring_30 rfl (lv_at hl 5 rfl) ?_
  refine lv_icmp_ge (tgt := 46) hx hb dX6_bring_31 (by decide) (fun _ => ?_) (fun c1 => absurd c1 (by decide))
  refine lv_aload_n hx hb dX6_bring_46 rfl (lv_at hl 4 rfl) ?_
  refine x_Vl F w (As := []) (rest := []) (a := 44) (by decide) (sh_9 rfl _ _) rfl (c_X9_kindsRead_345 (h1)) gv_X6_29 hv_X9_kindsRead ⟨Nat.le_of_ble_eq_true rfl, Nat.le_of_ble_eq_true rfl⟩ hl.1 rfl (Nat.le_of_ble_eq_true rfl) ⟨Nat.zero_le _, Nat.zero_le _⟩ dX6_bring_47 (fun H locs w => ?_)
  refine lv_lstore (lv' := [(5, .long 0), (4, .int 729), (0, .ref (B + 135)), (1, .ref (B + 22)), (2, .ref (B + 44)), (3, .int 6)]) hx hb dX6_bring_50 hl (by decide) rfl (fun ls hl => ?_)
  refine lv_aload_n hx hb dX6_bring_52 rfl (lv_at hl 4 rfl) ?_
  refine x_Vl F w (As := []) (rest := []) (a := 44) (by decide) (sh_9 rfl _ _) rfl (c_X9_linesRead_346 (h1)) gv_X6_33 hv_X9_linesRead ⟨Nat.le_of_ble_eq_true rfl, Nat.le_of_ble_eq_true rfl⟩ hl.1 rfl (Nat.le_of_ble_eq_true rfl) ⟨Nat.zero_le _, Nat.zero_le _⟩ dX6_bring_53 (fun H locs w => ?_)
  refine lv_lstore (lv' := [(7, .long 0), (5, .long 0), (4, .int 729), (0, .ref (B + 135)), (1, .ref (B + 22)), (2, .ref (B + 44)), (3, .int 6)]) hx hb dX6_bring_56 hl (by decide) rfl (fun ls hl => ?_)
  refine lv_aload_n hx hb dX6_bring_58 rfl (lv_at hl 3 rfl) ?_
  refine f_6_1 F w (a := 135) rfl tb_108 dX6_bring_59 ?_
  refine lv_iload_n hx hb dX6_bring_62 rfl (lv_at hl 6 rfl) ?_
  refine lv_iconst (v := 0) hx hb dX6_bring_63 (by decide) ?_
  refine g_iast F w (a := 136) rfl (j := 6) ⟨by decide, by decide⟩ (by decide) dX6_bring_64 (fun H locs w => ?_)
  rw [st_same (h2)] at w
  refine lv_aload_n hx hb dX6_bring_65 rfl (lv_at hl 3 rfl) ?_
  refine f_6_2 F w (a := 135) rfl tb_109 dX6_bring_66 ?_
  refine lv_iload_n hx hb dX6_bring_69 rfl (lv_at hl 6 rfl) ?_
  refine lv_bipush (v := (-2)) hx hb dX6_bring_70 (by decide) ?_
  refine g_iast F w (a := 137) rfl (j := 6) ⟨by decide, by decide⟩ (by decide) dX6_bring_72 (fun H locs w => ?_)
  refine lv_iconst (v := 0) hx hb dX6_bring_73 (by decide) ?_
  refine lv_istore (lv' := [(9, .int 0), (7, .long 0), (5, .long 0), (4, .int 729), (0, .ref (B + 135)), (1, .ref (B + 22)), (2, .ref (B + 44)), (3, .int 6)]) hx hb dX6_bring_74 hl (by decide) rfl (fun ls hl => ?_)
  refine lv_iload hx hb dX6_bring_76 (lv_at hl 0 rfl) ?_
  refine lv_iload hx hb dX6_bring_78 (lv_at hl 3 rfl) ?_
  refine lv_icmp_ge (tgt := 199) hx hb dX6_bring_80 (by decide) (fun c1 => absurd c1 (by decide)) (fun _ => ?_)
  refine lv_aload_n hx hb dX6_bring_83 rfl (lv_at hl 4 rfl) ?_
  refine lv_aload_n hx hb dX6_bring_84 rfl (lv_at hl 5 rfl) ?_
  refine f_0_4 F w (a := 22) rfl tb_556 dX6_bring_85 ?_
  refine lv_iload_n hx hb dX6_bring_88 rfl (lv_at hl 7 rfl) ?_
  refine lv_iload hx hb dX6_bring_89 (lv_at hl 0 rfl) ?_
  refine k_Vv F w (As := [.ref (B + 44), .int 6, .int 0]) (rest := []) (a := 135) (by decide) (sh_6 rfl _ _) rfl (c_X6_layRow_455 ((st_ne (by decide)).trans h4) ((st_ne (by decide)).trans h5) ((st_ne (by decide)).trans h6) ((st_ne (by decide)).trans h7) ((st_ne (by decide)).trans h8) ((st_ne (by decide)).trans h9) ((st_ne (by decide)).trans h10) ((st_ne (by decide)).trans h11) ((st_ne (by decide)).trans h12) ((st_ne (by decide)).trans h13) ((st_ne (by decide)).trans h14) ((st_ne (by decide)).trans h15) ((st_ne (by decide)).trans h16)) gv_X6_41 hv_X6_layRow ⟨Nat.le_of_ble_eq_true rfl, Nat.le_of_ble_eq_true rfl⟩ hl.1 rfl (Nat.le_of_ble_eq_true rfl) ⟨Nat.zero_le _, Nat.zero_le _⟩ dX6_bring_91 (fun M1 H locs hp w => ?_)
  obtain ⟨f21, hf⟩ := hp
  rw [hf] at w
  clear hf
  refine lv_iconst (v := 0) hx hb dX6_bring_94 (by decide) ?_
  refine lv_istore (lv' := [(10, .int 0), (9, .int 0), (7, .long 0), (5, .long 0), (4, .int 729), (0, .ref (B + 135)), (1, .ref (B + 22)), (2, .ref (B + 44)), (3, .int 6)]) hx hb dX6_bring_95 hl (by decide) rfl (fun ls hl => ?_)
  refine lv_iload hx hb dX6_bring_97 (lv_at hl 0 rfl) ?_
  refine lv_aload_n hx hb dX6_bring_99 rfl (lv_at hl 6 rfl) ?_
  refine f_0_2 F w (a := 22) rfl tb_562 dX6_bring_100 ?_
  refine r_val (v := 0) ((sA_ne (by decide)).trans ((st_ne (by decide)).trans ((st_ne (by decide)).trans ((st_ne (by decide)).trans ((st_ne (by decide)).trans ((st_ne (by decide)).trans ((st_ne (by decide)).trans ((st_ne (by decide)).trans h17)))))))) ?_
  refine lv_icmp_ge (tgt := 131) hx hb dX6_bring_103 (by decide) (fun _ => ?_) (fun c1 => absurd c1 (by decide))
  refine lv_aload_n hx hb dX6_bring_131 rfl (lv_at hl 5 rfl) ?_
  refine f_6_3 F w (a := 135) rfl tb_111 dX6_bring_132 ?_
  refine x_Vl F w (As := []) (rest := []) (a := 138) (by decide) (sh_9 rfl _ _) rfl (c_X9_kindsRead_456 ((sA_ne (by decide)).trans st_at) ((sA_ne (by decide)).trans ((st_ne (by decide)).trans ((st_ne (by decide)).trans ((st_ne (by decide)).trans ((st_ne (by decide)).trans ((st_ne (by decide)).trans ((st_ne (by decide)).trans ((st_ne (by decide)).trans h11)))))))) ((sA_ne (by decide)).trans ((st_ne (by decide)).trans ((st_ne (by decide)).trans ((st_ne (by decide)).trans ((st_ne (by decide)).trans ((st_ne (by decide)).trans ((st_ne (by decide)).trans ((st_ne (by decide)).trans h12)))))))) ((sA_ne (by decide)).trans ((st_ne (by decide)).trans ((st_ne (by decide)).trans ((st_ne (by decide)).trans ((st_ne (by decide)).trans ((st_ne (by decide)).trans ((st_ne (by decide)).trans ((st_ne (by decide)).trans h13)))))))) ((sA_ne (by decide)).trans ((st_ne (by decide)).trans ((st_ne (by decide)).trans ((st_ne (by decide)).trans ((st_ne (by decide)).trans ((st_ne (by decide)).trans ((st_ne (by decide)).trans ((st_ne (by decide)).trans h14)))))))) ((sA_ne (by decide)).trans ((st_ne (by decide)).trans ((st_ne (by decide)).trans ((st_ne (by decide)).trans ((st_ne (by decide)).trans ((st_ne (by decide)).trans ((st_ne (by decide)).trans ((st_ne (by decide)).trans h15)))))))) ((sA_ne (by decide)).trans ((st_ne (by decide)).trans ((st_ne (by decide)).trans ((st_ne (by decide)).trans ((st_ne (by decide)).trans ((st_ne (by decide)).trans ((st_ne (by decide)).trans ((st_ne (by decide)).trans h16))))))))) gv_X6_29 hv_X9_kindsRead ⟨Nat.le_of_ble_eq_true rfl, Nat.le_of_ble_eq_true rfl⟩ hl.1 rfl (Nat.le_of_ble_eq_true rfl) ⟨Nat.zero_le _, Nat.zero_le _⟩ dX6_bring_135 (fun H locs w => ?_)
  refine lv_lload hx hb dX6_bring_138 (lv_at hl 3 rfl) ?_
  refine W.lcmp hx hb dX6_bring_140 ?_
  refine r_val (v := 0) (by decide) ?_
  refine lv_if_ne (tgt := 193) hx hb dX6_bring_141 (by decide) (fun c1 => absurd c1 (by decide)) (fun _ => ?_)
  refine lv_aload_n hx hb dX6_bring_144 rfl (lv_at hl 5 rfl) ?_
  refine f_6_3 F w (a := 135) rfl tb_111 dX6_bring_145 ?_
  refine x_Vl F w (As := []) (rest := []) (a := 138) (by decide) (sh_9 rfl _ _) rfl (c_X9_linesRead_457 ((sA_ne (by decide)).trans st_at) ((sA_ne (by decide)).trans ((st_ne (by decide)).trans ((st_ne (by decide)).trans ((st_ne (by decide)).trans ((st_ne (by decide)).trans ((st_ne (by decide)).trans ((st_ne (by decide)).trans ((st_ne (by decide)).trans h11)))))))) ((sA_ne (by decide)).trans ((st_ne (by decide)).trans ((st_ne (by decide)).trans ((st_ne (by decide)).trans ((st_ne (by decide)).trans ((st_ne (by decide)).trans ((st_ne (by decide)).trans ((st_ne (by decide)).trans h12)))))))) ((sA_ne (by decide)).trans ((st_ne (by decide)).trans ((st_ne (by decide)).trans ((st_ne (by decide)).trans ((st_ne (by decide)).trans ((st_ne (by decide)).trans ((st_ne (by decide)).trans ((st_ne (by decide)).trans h13)))))))) ((sA_ne (by decide)).trans ((st_ne (by decide)).trans ((st_ne (by decide)).trans ((st_ne (by decide)).trans ((st_ne (by decide)).trans ((st_ne (by decide)).trans ((st_ne (by decide)).trans ((st_ne (by decide)).trans h14)))))))) ((sA_ne (by decide)).trans ((st_ne (by decide)).trans ((st_ne (by decide)).trans ((st_ne (by decide)).trans ((st_ne (by decide)).trans ((st_ne (by decide)).trans ((st_ne (by decide)).trans ((st_ne (by decide)).trans h15)))))))) ((sA_ne (by decide)).trans ((st_ne (by decide)).trans ((st_ne (by decide)).trans ((st_ne (by decide)).trans ((st_ne (by decide)).trans ((st_ne (by decide)).trans ((st_ne (by decide)).trans ((st_ne (by decide)).trans h16))))))))) gv_X6_33 hv_X9_linesRead ⟨Nat.le_of_ble_eq_true rfl, Nat.le_of_ble_eq_true rfl⟩ hl.1 rfl (Nat.le_of_ble_eq_true rfl) ⟨Nat.zero_le _, Nat.zero_le _⟩ dX6_bring_148 (fun H locs w => ?_)
  refine lv_lload hx hb dX6_bring_151 (lv_at hl 2 rfl) ?_
  refine W.lcmp hx hb dX6_bring_153 ?_
  refine r_val (v := 0) (by decide) ?_
  refine lv_if_ne (tgt := 193) hx hb dX6_bring_154 (by decide) (fun c1 => absurd c1 (by decide)) (fun _ => ?_)
  refine lv_aload_n hx hb dX6_bring_157 rfl (lv_at hl 5 rfl) ?_
  refine f_6_2 F w (a := 135) rfl tb_109 dX6_bring_158 ?_
  refine lv_iload_n hx hb dX6_bring_161 rfl (lv_at hl 8 rfl) ?_
  refine lv_aload_n hx hb dX6_bring_162 rfl (lv_at hl 5 rfl) ?_
  refine f_6_1 F w (a := 135) rfl tb_108 dX6_bring_163 ?_
  refine lv_iload_n hx hb dX6_bring_166 rfl (lv_at hl 8 rfl) ?_
  refine g_iald F w (a := 136) rfl (j := 6) ⟨by decide, by decide⟩ (by decide) dX6_bring_167 ?_
  refine r_val (v := 0) ((sA_ne (by decide)).trans ((st_ne (by decide)).trans ((st_ne (by decide)).trans ((st_ne (by decide)).trans ((st_ne (by decide)).trans ((st_ne (by decide)).trans ((st_ne (by decide)).trans ((st_ne (by decide)).trans h2)))))))) ?_
  refine lv_if_ne (tgt := 176) hx hb dX6_bring_168 (by decide) (fun c1 => absurd c1 (by decide)) (fun _ => ?_)
  refine lv_iload hx hb dX6_bring_171 (lv_at hl 1 rfl) ?_
  refine lv_goto (tgt := 182) hx hb dX6_bring_173 (by decide) ?_
  refine g_iast F w (a := 137) rfl (j := 6) ⟨by decide, by decide⟩ (by decide) dX6_bring_182 (fun H locs w => ?_)
  refine lv_aload_n hx hb dX6_bring_183 rfl (lv_at hl 5 rfl) ?_
  refine f_6_1 F w (a := 135) rfl tb_108 dX6_bring_184 ?_
  refine lv_iload_n hx hb dX6_bring_187 rfl (lv_at hl 8 rfl) ?_
  refine lv_dup2_11 hx hb dX6_bring_188 rfl rfl ?_
  refine g_iald F w (a := 136) rfl (j := 6) ⟨by decide, by decide⟩ (by decide) dX6_bring_189 ?_
  refine r_val (v := 0) ((st_ne (by decide)).trans ((sA_ne (by decide)).trans ((st_ne (by decide)).trans ((st_ne (by decide)).trans ((st_ne (by decide)).trans ((st_ne (by decide)).trans ((st_ne (by decide)).trans ((st_ne (by decide)).trans ((st_ne (by decide)).trans h2))))))))) ?_
  refine lv_iconst (v := 1) hx hb dX6_bring_190 (by decide) ?_
  refine lv_iadd hx hb dX6_bring_191 ?_
  refine r_val (v := 1) (by decide) ?_
  refine g_iast F w (a := 136) rfl (j := 6) ⟨by decide, by decide⟩ (by decide) dX6_bring_192 (fun H locs w => ?_)
  refine lv_iinc (v := 1) (lv' := [(9, .int 1), (10, .int 0), (7, .long 0), (5, .long 0), (4, .int 729), (0, .ref (B + 135)), (1, .ref (B + 22)), (2, .ref (B + 44)), (3, .int 6)]) hx hb dX6_bring_193 hl (k := 1) rfl (by decide) (by decide) rfl (fun ls hl => ?_)
  refine lv_goto (tgt := 76) hx hb dX6_bring_196 (by decide) ?_
  exact lp_X6_bring_461 F hr hlocks 728 1 (by decide) (by decide) _ H locs ls w (show lv_has ls 11 [(9, .int 1), (7, .long 0), (5, .long 0), (4, .int 729), (0, .ref (B + 135)), (1, .ref (B + 22)), (2, .ref (B + 44)), (3, .int 6)] from lv_sub hl [0, 2, 3, 4, 5, 6, 7, 8] rfl) (st_at) ((st_ne (by decide)).trans ((st_ne (by decide)).trans ((sA_ne (by decide)).trans st_at))) ((st_ne (by decide)).trans ((st_ne (by decide)).trans ((sA_ne (by decide)).trans ((st_ne (by decide)).trans ((st_ne (by decide)).trans ((st_ne (by decide)).trans ((st_ne (by decide)).trans ((st_ne (by decide)).trans ((st_ne (by decide)).trans ((st_ne (by decide)).trans h5)))))))))) ((st_ne (by decide)).trans ((st_ne (by decide)).trans ((sA_ne (by decide)).trans ((st_ne (by decide)).trans ((st_ne (by decide)).trans ((st_ne (by decide)).trans ((st_ne (by decide)).trans ((st_ne (by decide)).trans ((st_ne (by decide)).trans ((st_ne (by decide)).trans h6)))))))))) ((st_ne (by decide)).trans ((st_ne (by decide)).trans ((sA_ne (by decide)).trans ((st_ne (by decide)).trans ((st_ne (by decide)).trans ((st_ne (by decide)).trans ((st_ne (by decide)).trans ((st_ne (by decide)).trans ((st_ne (by decide)).trans ((st_ne (by decide)).trans h7)))))))))) ((st_ne (by decide)).trans ((st_ne (by decide)).trans ((sA_ne (by decide)).trans ((st_ne (by decide)).trans ((st_ne (by decide)).trans ((st_ne (by decide)).trans ((st_ne (by decide)).trans ((st_ne (by decide)).trans ((st_ne (by decide)).trans ((st_ne (by decide)).trans h8)))))))))) ((st_ne (by decide)).trans ((st_ne (by decide)).trans ((sA_ne (by decide)).trans ((st_ne (by decide)).trans ((st_ne (by decide)).trans ((st_ne (by decide)).trans ((st_ne (by decide)).trans ((st_ne (by decide)).trans ((st_ne (by decide)).trans ((st_ne (by decide)).trans h9)))))))))) ((st_ne (by decide)).trans ((st_ne (by decide)).trans ((sA_ne (by decide)).trans ((st_ne (by decide)).trans ((st_ne (by decide)).trans ((st_ne (by decide)).trans ((st_ne (by decide)).trans ((st_ne (by decide)).trans ((st_ne (by decide)).trans ((st_ne (by decide)).trans h10)))))))))) ((st_ne (by decide)).trans ((st_ne (by decide)).trans ((sA_ne (by decide)).trans ((st_ne (by decide)).trans ((st_ne (by decide)).trans ((st_ne (by decide)).trans ((st_ne (by decide)).trans ((st_ne (by decide)).trans ((st_ne (by decide)).trans ((st_ne (by decide)).trans h11)))))))))) ((st_ne (by decide)).trans ((st_ne (by decide)).trans ((sA_ne (by decide)).trans ((st_ne (by decide)).trans ((st_ne (by decide)).trans ((st_ne (by decide)).trans ((st_ne (by decide)).trans ((st_ne (by decide)).trans ((st_ne (by decide)).trans ((st_ne (by decide)).trans h12)))))))))) ((st_ne (by decide)).trans ((st_ne (by decide)).trans ((sA_ne (by decide)).trans ((st_ne (by decide)).trans ((st_ne (by decide)).trans ((st_ne (by decide)).trans ((st_ne (by decide)).trans ((st_ne (by decide)).trans ((st_ne (by decide)).trans ((st_ne (by decide)).trans h13)))))))))) ((st_ne (by decide)).trans ((st_ne (by decide)).trans ((sA_ne (by decide)).trans ((st_ne (by decide)).trans ((st_ne (by decide)).trans ((st_ne (by decide)).trans ((st_ne (by decide)).trans ((st_ne (by decide)).trans ((st_ne (by decide)).trans ((st_ne (by decide)).trans h14)))))))))) ((st_ne (by decide)).trans ((st_ne (by decide)).trans ((sA_ne (by decide)).trans ((st_ne (by decide)).trans ((st_ne (by decide)).trans ((st_ne (by decide)).trans ((st_ne (by decide)).trans ((st_ne (by decide)).trans ((st_ne (by decide)).trans ((st_ne (by decide)).trans h15)))))))))) ((st_ne (by decide)).trans ((st_ne (by decide)).trans ((sA_ne (by decide)).trans ((st_ne (by decide)).trans ((st_ne (by decide)).trans ((st_ne (by decide)).trans ((st_ne (by decide)).trans ((st_ne (by decide)).trans ((st_ne (by decide)).trans ((st_ne (by decide)).trans h16)))))))))) ((st_ne (by decide)).trans ((st_ne (by decide)).trans ((sA_ne (by decide)).trans ((st_ne (by decide)).trans ((st_ne (by decide)).trans ((st_ne (by decide)).trans ((st_ne (by decide)).trans ((st_ne (by decide)).trans ((st_ne (by decide)).trans ((st_ne (by decide)).trans h17)))))))))) ((st_ne (by decide)).trans st_at) ((st_ne (by decide)).trans ((st_ne (by decide)).trans ((sA_ne (by decide)).trans ((st_ne (by decide)).trans ((st_ne (by decide)).trans ((st_ne (by decide)).trans ((st_ne (by decide)).trans ((st_ne (by decide)).trans ((st_ne (by decide)).trans ((st_ne (by decide)).trans h0)))))))))) (fun a ha => (st_hi (by omega)).trans ((st_hi (by omega)).trans ((sA_hi (by omega)).trans ((st_hi (by omega)).trans ((st_hi (by omega)).trans ((st_hi (by omega)).trans ((st_hi (by omega)).trans ((st_hi (by omega)).trans ((st_hi (by omega)).trans ((st_hi (by omega)).trans rfl))))))))))
set_option maxRecDepth 4000 in
theorem c_X11_sources_462 {l : Launch} {D : va_G} {B : Nat} {cy : Nat → ClassId} {M : Mem} (h0 : M.1 22 2 = 0) (h1 : M.1 22 7 = 0) (h2 : M.1 135 0 = 0) (h3 : M.1 44 0 = 0) (h4 : M.1 136 6 = 0) (h5 : M.1 137 6 = 0) (h6 : M.1 138 0 = 0) (h7 : M.1 138 1 = 0) (h8 : M.1 138 2 = 0) (h9 : M.1 138 3 = 0) (h10 : M.1 44 1 = 0) (h11 : M.1 44 2 = 0) (h12 : M.1 44 3 = 0) (h13 : M.1 140 0 = 0) (h14 : M.1 140 1 = 0) (h15 : M.1 140 2 = 0) (h16 : M.1 140 3 = 0) (h17 : M.1 140 4 = 0) (h18 : M.1 140 5 = 0) : Ci l D B cy yX11_sources cX11_sources 2 (some .int) 3 78 [.ref (B + 0), .int 6] M (fun r Mx => r = 729 ∧ ∀ a, 146 ≤ a → Mx.1 a = M.1 a) := by
  refine s_any (by decide) (Nat.le_of_ble_eq_true rfl) ?_
  intro p e s m below meth c ls F hr hlocks w hl
  have F : CallFix p m c cX11_sources 2 s _ TB RX11 := F
  have hx := F.1
  have hb := F.2.1
  have hl : lv_has ls 2 [(0, .ref (B + 0)), (1, .int 6)] := hl
  refine lv_iload_n hx hb dX11_sources_0 rfl (lv_at hl 1 rfl) ?_
  refine lv_if_lt (tgt := 10) hx hb dX11_sources_1 (by decide) (fun c1 => absurd c1 (by decide)) (fun _ => ?_)
  refine lv_iload_n hx hb dX11_sources_4 rfl (lv_at hl 1 rfl) ?_
  refine lv_bipush (v := 6) hx hb dX11_sources_5 (by decide) ?_
  refine lv_icmp_le (tgt := 12) hx hb dX11_sources_7 (by decide) (fun _ => ?_) (fun c1 => absurd c1 (by decide))
  refine lv_aload_n hx hb dX11_sources_12 rfl (lv_at hl 0 rfl) ?_
  refine f_11_7 F w (a := 0) rfl tb_113 dX11_sources_13 ?_
  refine lv_aload_n hx hb dX11_sources_16 rfl (lv_at hl 0 rfl) ?_
  refine f_11_3 F w (a := 0) rfl tb_73 dX11_sources_17 ?_
  refine lv_aload_n hx hb dX11_sources_20 rfl (lv_at hl 0 rfl) ?_
  refine f_11_3 F w (a := 0) rfl tb_73 dX11_sources_21 ?_
  refine lv_aload_n hx hb dX11_sources_24 rfl (lv_at hl 0 rfl) ?_
  refine f_11_3 F w (a := 0) rfl tb_73 dX11_sources_25 ?_
  refine f_0_2 F w (a := 22) rfl tb_216 dX11_sources_28 ?_
  refine r_val (v := 0) (h0) ?_
  refine x_Vr F w (As := [.int 0]) (rest := [.ref (B + 22), .ref (B + 135)]) (a := 22) (by decide) (sh_0 rfl _ _) rfl (c_X0_stageOf_207 (h0) (h1)) gv_X11_196 hv_X0_stageOf ⟨Nat.le_of_ble_eq_true rfl, Nat.le_of_ble_eq_true rfl⟩ hl.1 rfl (Nat.le_of_ble_eq_true rfl) ⟨Nat.zero_le _, Nat.zero_le _⟩ dX11_sources_31 (fun H locs w => ?_)
  refine lv_iload_n hx hb dX11_sources_34 rfl (lv_at hl 1 rfl) ?_
  refine k_Vv F w (As := [.ref (B + 22), .ref (B + 44), .int 6]) (rest := []) (a := 135) (by decide) (sh_6 rfl _ _) rfl (c_X6_bring_461 (h2) (h3) (h4) (h5) (h6) (h7) (h8) (h9) (h10) (h11) (h12) (h13) (h14) (h15) (h16) (h17) (h18) (h0)) gv_X11_285 hv_X6_bring ⟨Nat.le_of_ble_eq_true rfl, Nat.le_of_ble_eq_true rfl⟩ hl.1 rfl (Nat.le_of_ble_eq_true rfl) ⟨Nat.zero_le _, Nat.zero_le _⟩ dX11_sources_35 (fun M1 H locs hp w => ?_)
  obtain ⟨e0, e1, e9⟩ := hp
  refine lv_aload_n hx hb dX11_sources_38 rfl (lv_at hl 0 rfl) ?_
  refine f_11_7 F w (a := 0) rfl tb_113 dX11_sources_39 ?_
  refine f_6_1 F w (a := 135) rfl tb_566 dX11_sources_42 ?_
  refine lv_iload_n hx hb dX11_sources_45 rfl (lv_at hl 1 rfl) ?_
  refine g_iald F w (a := 136) rfl (j := 6) ⟨by decide, by decide⟩ (by decide) dX11_sources_46 ?_
  refine r_val (v := 729) (e0) ?_
  exact e_i F w hr hlocks ⟨rfl, fun a ha => ((e9 a ha).trans (rfl))⟩ dX11_sources_47
set_option maxRecDepth 4000 in
theorem c_X12_in_463 {l : Launch} {D : va_G} {B : Nat} {cy : Nat → ClassId} {M : Mem} : Ci l D B cy yX12_in cX12_in 3 (some .boolean) 0 0 [.int 6, .int 0, .int 6] M (fun r M1 => r = 1 ∧ M1 = M) := by
  refine s_any (by decide) (Nat.le_of_ble_eq_true rfl) ?_
  intro p e s m below meth c ls F hr hlocks w hl
  have F : CallFix p m c cX12_in 3 s _ TB RX12 := F
  have hx := F.1
  have hb := F.2.1
  have hl : lv_has ls 3 [(0, .int 6), (1, .int 0), (2, .int 6)] := hl
  refine lv_iload_n hx hb dX12_in_0 rfl (lv_at hl 0 rfl) ?_
  refine lv_iload_n hx hb dX12_in_1 rfl (lv_at hl 1 rfl) ?_
  refine lv_icmp_lt (tgt := 14) hx hb dX12_in_2 (by decide) (fun c1 => absurd c1 (by decide)) (fun _ => ?_)
  refine lv_iload_n hx hb dX12_in_5 rfl (lv_at hl 0 rfl) ?_
  refine lv_iload_n hx hb dX12_in_6 rfl (lv_at hl 2 rfl) ?_
  refine lv_icmp_gt (tgt := 14) hx hb dX12_in_7 (by decide) (fun c1 => absurd c1 (by decide)) (fun _ => ?_)
  refine lv_iconst (v := 1) hx hb dX12_in_10 (by decide) ?_
  refine lv_goto (tgt := 15) hx hb dX12_in_11 (by decide) ?_
  exact e_z F w hr hlocks (by decide) ⟨rfl, rfl⟩ dX12_in_15
set_option maxRecDepth 4000 in
theorem c_X12_insert_464 {l : Launch} {D : va_G} {B : Nat} {cy : Nat → ClassId} {M : Mem} (h0 : M.1 148 0 = 5) (h1 : M.1 148 6 = 0) (h2 : M.1 148 18 = 0) : Cv l D B cy yX12_insert cX12_insert 4 0 0 [.ref (B + 148), .int 5, .int 0] M (fun M1 => M1 = (st M 148 0 6)) := by
  refine s_any (by decide) (Nat.le_of_ble_eq_true rfl) ?_
  intro p e s m below meth c ls F hr hlocks w hl
  have F : CallFix p m c cX12_insert 4 s _ TB RX12 := F
  have hx := F.1
  have hb := F.2.1
  have hl : lv_has ls 4 [(0, .ref (B + 148)), (1, .int 5), (2, .int 0)] := hl
  refine lv_aload_n hx hb dX12_insert_0 rfl (lv_at hl 0 rfl) ?_
  refine lv_iconst (v := 0) hx hb dX12_insert_1 (by decide) ?_
  refine g_iald F w (a := 148) rfl (j := 0) ⟨by decide, by decide⟩ (by decide) dX12_insert_2 ?_
  refine r_val (v := 5) (h0) ?_
  refine lv_istore_n (lv' := [(3, .int 5), (0, .ref (B + 148)), (1, .int 5), (2, .int 0)]) hx hb dX12_insert_3 rfl hl (by decide) rfl (fun ls hl => ?_)
  refine lv_iload_n hx hb dX12_insert_4 rfl (lv_at hl 0 rfl) ?_
  refine lv_iload_n hx hb dX12_insert_5 rfl (lv_at hl 2 rfl) ?_
  refine lv_icmp_le (tgt := 41) hx hb dX12_insert_6 (by decide) (fun _ => ?_) (fun c1 => absurd c1 (by decide))
  refine lv_aload_n hx hb dX12_insert_41 rfl (lv_at hl 1 rfl) ?_
  refine lv_iconst (v := 1) hx hb dX12_insert_42 (by decide) ?_
  refine lv_iload_n hx hb dX12_insert_43 rfl (lv_at hl 2 rfl) ?_
  refine lv_iadd hx hb dX12_insert_44 ?_
  refine r_val (v := 6) (by decide) ?_
  refine lv_iload_n hx hb dX12_insert_45 rfl (lv_at hl 3 rfl) ?_
  refine g_iast F w (a := 148) rfl (j := 6) ⟨by decide, by decide⟩ (by decide) dX12_insert_46 (fun H locs w => ?_)
  rw [st_same (h1)] at w
  refine lv_aload_n hx hb dX12_insert_47 rfl (lv_at hl 1 rfl) ?_
  refine lv_bipush (v := 13) hx hb dX12_insert_48 (by decide) ?_
  refine lv_iload_n hx hb dX12_insert_50 rfl (lv_at hl 2 rfl) ?_
  refine lv_iadd hx hb dX12_insert_51 ?_
  refine r_val (v := 18) (by decide) ?_
  refine lv_iconst (v := 0) hx hb dX12_insert_52 (by decide) ?_
  refine g_iast F w (a := 148) rfl (j := 18) ⟨by decide, by decide⟩ (by decide) dX12_insert_53 (fun H locs w => ?_)
  rw [st_same (h2)] at w
  refine lv_aload_n hx hb dX12_insert_54 rfl (lv_at hl 1 rfl) ?_
  refine lv_iconst (v := 0) hx hb dX12_insert_55 (by decide) ?_
  refine lv_dup2_11 hx hb dX12_insert_56 rfl rfl ?_
  refine g_iald F w (a := 148) rfl (j := 0) ⟨by decide, by decide⟩ (by decide) dX12_insert_57 ?_
  refine r_val (v := 5) (h0) ?_
  refine lv_iconst (v := 1) hx hb dX12_insert_58 (by decide) ?_
  refine lv_iadd hx hb dX12_insert_59 ?_
  refine r_val (v := 6) (by decide) ?_
  refine g_iast F w (a := 148) rfl (j := 0) ⟨by decide, by decide⟩ (by decide) dX12_insert_60 (fun H locs w => ?_)
  exact e_v F w hr hlocks rfl dX12_insert_61
set_option maxRecDepth 4000 in
theorem c_X12_insert_465 {l : Launch} {D : va_G} {B : Nat} {cy : Nat → ClassId} {M : Mem} {p2 : Int32} (h0 : M.1 148 0 = 4) (h1 : M.1 148 17 = 0) : Cv l D B cy yX12_insert cX12_insert 4 0 0 [.ref (B + 148), .int 4, .int p2] M (fun M1 => M1 = (st (st M 148 5 p2) 148 0 5)) := by
  refine s_any (by decide) (Nat.le_of_ble_eq_true rfl) ?_
  intro p e s m below meth c ls F hr hlocks w hl
  have F : CallFix p m c cX12_insert 4 s _ TB RX12 := F
  have hx := F.1
  have hb := F.2.1
  have hl : lv_has ls 4 [(0, .ref (B + 148)), (1, .int 4), (2, .int p2)] := hl
  refine lv_aload_n hx hb dX12_insert_0 rfl (lv_at hl 0 rfl) ?_
  refine lv_iconst (v := 0) hx hb dX12_insert_1 (by decide) ?_
  refine g_iald F w (a := 148) rfl (j := 0) ⟨by decide, by decide⟩ (by decide) dX12_insert_2 ?_
  refine r_val (v := 4) (h0) ?_
  refine lv_istore_n (lv' := [(3, .int 4), (0, .ref (B + 148)), (1, .int 4), (2, .int p2)]) hx hb dX12_insert_3 rfl hl (by decide) rfl (fun ls hl => ?_)
  refine lv_iload_n hx hb dX12_insert_4 rfl (lv_at hl 0 rfl) ?_
  refine lv_iload_n hx hb dX12_insert_5 rfl (lv_at hl 2 rfl) ?_
  refine lv_icmp_le (tgt := 41) hx hb dX12_insert_6 (by decide) (fun _ => ?_) (fun c1 => absurd c1 (by decide))
  refine lv_aload_n hx hb dX12_insert_41 rfl (lv_at hl 1 rfl) ?_
  refine lv_iconst (v := 1) hx hb dX12_insert_42 (by decide) ?_
  refine lv_iload_n hx hb dX12_insert_43 rfl (lv_at hl 2 rfl) ?_
  refine lv_iadd hx hb dX12_insert_44 ?_
  refine r_val (v := 5) (by decide) ?_
  refine lv_iload_n hx hb dX12_insert_45 rfl (lv_at hl 3 rfl) ?_
  refine g_iast F w (a := 148) rfl (j := 5) ⟨by decide, by decide⟩ (by decide) dX12_insert_46 (fun H locs w => ?_)
  refine lv_aload_n hx hb dX12_insert_47 rfl (lv_at hl 1 rfl) ?_
  refine lv_bipush (v := 13) hx hb dX12_insert_48 (by decide) ?_
  refine lv_iload_n hx hb dX12_insert_50 rfl (lv_at hl 2 rfl) ?_
  refine lv_iadd hx hb dX12_insert_51 ?_
  refine r_val (v := 17) (by decide) ?_
  refine lv_iconst (v := 0) hx hb dX12_insert_52 (by decide) ?_
  refine g_iast F w (a := 148) rfl (j := 17) ⟨by decide, by decide⟩ (by decide) dX12_insert_53 (fun H locs w => ?_)
  rw [st_same ((st_ne (by decide)).trans h1)] at w
  refine lv_aload_n hx hb dX12_insert_54 rfl (lv_at hl 1 rfl) ?_
  refine lv_iconst (v := 0) hx hb dX12_insert_55 (by decide) ?_
  refine lv_dup2_11 hx hb dX12_insert_56 rfl rfl ?_
  refine g_iald F w (a := 148) rfl (j := 0) ⟨by decide, by decide⟩ (by decide) dX12_insert_57 ?_
  refine r_val (v := 4) ((st_ne (by decide)).trans h0) ?_
  refine lv_iconst (v := 1) hx hb dX12_insert_58 (by decide) ?_
  refine lv_iadd hx hb dX12_insert_59 ?_
  refine r_val (v := 5) (by decide) ?_
  refine g_iast F w (a := 148) rfl (j := 0) ⟨by decide, by decide⟩ (by decide) dX12_insert_60 (fun H locs w => ?_)
  exact e_v F w hr hlocks rfl dX12_insert_61
set_option maxRecDepth 4000 in
theorem c_X12_insert_466 {l : Launch} {D : va_G} {B : Nat} {cy : Nat → ClassId} {M : Mem} {p2 : Int32} (h0 : M.1 148 0 = 5) (h1 : M.1 148 18 = 0) : Cv l D B cy yX12_insert cX12_insert 4 0 0 [.ref (B + 148), .int 5, .int p2] M (fun M1 => M1 = (st (st M 148 6 p2) 148 0 6)) := by
  refine s_any (by decide) (Nat.le_of_ble_eq_true rfl) ?_
  intro p e s m below meth c ls F hr hlocks w hl
  have F : CallFix p m c cX12_insert 4 s _ TB RX12 := F
  have hx := F.1
  have hb := F.2.1
  have hl : lv_has ls 4 [(0, .ref (B + 148)), (1, .int 5), (2, .int p2)] := hl
  refine lv_aload_n hx hb dX12_insert_0 rfl (lv_at hl 0 rfl) ?_
  refine lv_iconst (v := 0) hx hb dX12_insert_1 (by decide) ?_
  refine g_iald F w (a := 148) rfl (j := 0) ⟨by decide, by decide⟩ (by decide) dX12_insert_2 ?_
  refine r_val (v := 5) (h0) ?_
  refine lv_istore_n (lv' := [(3, .int 5), (0, .ref (B + 148)), (1, .int 5), (2, .int p2)]) hx hb dX12_insert_3 rfl hl (by decide) rfl (fun ls hl => ?_)
  refine lv_iload_n hx hb dX12_insert_4 rfl (lv_at hl 0 rfl) ?_
  refine lv_iload_n hx hb dX12_insert_5 rfl (lv_at hl 2 rfl) ?_
  refine lv_icmp_le (tgt := 41) hx hb dX12_insert_6 (by decide) (fun _ => ?_) (fun c1 => absurd c1 (by decide))
  refine lv_aload_n hx hb dX12_insert_41 rfl (lv_at hl 1 rfl) ?_
  refine lv_iconst (v := 1) hx hb dX12_insert_42 (by decide) ?_
  refine lv_iload_n hx hb dX12_insert_43 rfl (lv_at hl 2 rfl) ?_
  refine lv_iadd hx hb dX12_insert_44 ?_
  refine r_val (v := 6) (by decide) ?_
  refine lv_iload_n hx hb dX12_insert_45 rfl (lv_at hl 3 rfl) ?_
  refine g_iast F w (a := 148) rfl (j := 6) ⟨by decide, by decide⟩ (by decide) dX12_insert_46 (fun H locs w => ?_)
  refine lv_aload_n hx hb dX12_insert_47 rfl (lv_at hl 1 rfl) ?_
  refine lv_bipush (v := 13) hx hb dX12_insert_48 (by decide) ?_
  refine lv_iload_n hx hb dX12_insert_50 rfl (lv_at hl 2 rfl) ?_
  refine lv_iadd hx hb dX12_insert_51 ?_
  refine r_val (v := 18) (by decide) ?_
  refine lv_iconst (v := 0) hx hb dX12_insert_52 (by decide) ?_
  refine g_iast F w (a := 148) rfl (j := 18) ⟨by decide, by decide⟩ (by decide) dX12_insert_53 (fun H locs w => ?_)
  rw [st_same ((st_ne (by decide)).trans h1)] at w
  refine lv_aload_n hx hb dX12_insert_54 rfl (lv_at hl 1 rfl) ?_
  refine lv_iconst (v := 0) hx hb dX12_insert_55 (by decide) ?_
  refine lv_dup2_11 hx hb dX12_insert_56 rfl rfl ?_
  refine g_iald F w (a := 148) rfl (j := 0) ⟨by decide, by decide⟩ (by decide) dX12_insert_57 ?_
  refine r_val (v := 5) ((st_ne (by decide)).trans h0) ?_
  refine lv_iconst (v := 1) hx hb dX12_insert_58 (by decide) ?_
  refine lv_iadd hx hb dX12_insert_59 ?_
  refine r_val (v := 6) (by decide) ?_
  refine g_iast F w (a := 148) rfl (j := 0) ⟨by decide, by decide⟩ (by decide) dX12_insert_60 (fun H locs w => ?_)
  exact e_v F w hr hlocks rfl dX12_insert_61
set_option maxRecDepth 8000 in
theorem bd_X12_sourcesBy_467 {p : Program} {l : Launch} {e : Env} {s : State} {m : MethodId} {args : Array Value} {below : List Frame} {meth : Method} {c : Code} {D : va_G} {B : Nat} {cy : Nat → ClassId} {H H0 : Heap} {locs : List Loc} {Q : State → Prop} {ls : Array Slot} {M : Mem} {k : Nat} (F : CallFix p m c cX12_sourcesBy 7 s args TB RX12) (w : Wd D B cy s H0 M H locs) (hl : lv_has ls 7 [(4, .int (nI k)), (3, .int (nI k)), (2, .int 729), (0, .ref (B + 146)), (1, .int 6)]) (h0 : ¬ 729 ≤ (nI k)) (h1 : M.1 147 0 = 0) (h2 : M.1 147 1 = 0) (h3 : M.1 147 2 = 0) (h4 : M.1 147 3 = 0) (h5 : M.1 147 4 = 0) (h6 : M.1 147 5 = 0) (h7 : M.1 147 6 = 0) (h8 : M.1 147 7 = 0) (h9 : M.1 147 8 = 0) (h10 : M.1 147 9 = 0) (h11 : M.1 147 10 = 0) (h12 : M.1 147 11 = 0) (h13 : M.1 147 12 = 0) (h14 : M.1 147 13 = 0) (h15 : M.1 147 14 = 0) (h16 : M.1 147 15 = 0) (h17 : M.1 147 16 = 0) (h18 : M.1 147 17 = 0) (h19 : M.1 147 18 = 0) (h20 : M.1 147 19 = 0) (h21 : M.1 147 20 = 0) (h22 : M.1 147 21 = 0) (h23 : M.1 147 22 = 0) (h24 : M.1 147 23 = 0) (h25 : M.1 147 24 = 0) (h26 : M.1 147 25 = 0) (h27 : M.1 147 26 = 0) (h28 : M.1 147 27 = 0) (h29 : M.1 146 5 = 0) (h30 : ¬ (nI k) = 0) (kk : ∀ (H1 : Heap) (locs1 : List Loc) (ls1 : Array Slot), Wd D B cy s H0 (st (st (st (st (st (st (st (st (st (st (st (st (st (st (st (st (st (st (st (st (st (st (st (st (st (st (st (st (st (st (st (st (st (st (st (st (st (st (st (st M 148 0 0) 148 1 0) 148 2 0) 148 3 0) 148 4 0) 148 5 0) 148 6 0) 148 7 0) 148 8 0) 148 9 0) 148 10 0) 148 11 0) 148 12 0) 148 13 0) 148 14 0) 148 15 0) 148 16 0) 148 17 0) 148 18 0) 148 19 0) 148 20 0) 148 21 0) 148 22 0) 148 23 0) 148 24 0) 148 25 0) 148 26 0) 148 27 0) 148 1 ((((nI k) / 243) - ((nI k) / 243) / 3 * 3))) 148 0 1) 148 2 ((((nI k) / 81) - ((nI k) / 81) / 3 * 3))) 148 0 2) 148 3 ((((nI k) / 27) - ((nI k) / 27) / 3 * 3))) 148 0 3) 148 4 ((((nI k) / 9) - ((nI k) / 9) / 3 * 3))) 148 0 4) 148 5 ((((nI k) / 3) - ((nI k) / 3) / 3 * 3))) 148 0 5) 148 6 ((((nI k) / 1) - ((nI k) / 1) / 3 * 3))) 148 0 6) H1 locs1 → lv_has ls1 7 [(4, .int ((nI k) + 1)), (3, .int ((nI k) + 1)), (2, .int 729), (0, .ref (B + 146)), (1, .int 6)] → W p l e (rmm 3 66) s m args below meth c H1 locs1 0 0 Q (F0 m 34 ls1 [])) : W p l e (rmm 3 66) s m args below meth c H locs 0 0 Q (F0 m 34 ls []) := by
  have hx := F.1
  have hb := F.2.1
  refine lv_iload hx hb dX12_sourcesBy_34 (lv_at hl 0 rfl) ?_
  refine lv_iload_n hx hb dX12_sourcesBy_36 rfl (lv_at hl 2 rfl) ?_
  refine lv_icmp_ge (tgt := 152) hx hb dX12_sourcesBy_37 (by decide) (fun c1 => absurd c1 h0) (fun _ => ?_)
  refine lv_aload_n hx hb dX12_sourcesBy_40 rfl (lv_at hl 3 rfl) ?_
  refine f_12_2 F w (a := 146) rfl tb_127 dX12_sourcesBy_41 ?_
  refine lv_aload_n hx hb dX12_sourcesBy_44 rfl (lv_at hl 3 rfl) ?_
  refine f_12_1 F w (a := 146) rfl tb_126 dX12_sourcesBy_45 ?_
  refine x_Sv F w (As := [.ref (B + 148), .ref (B + 147)]) (rest := []) (c_X12_copy_390 (h1) (h2) (h3) (h4) (h5) (h6) (h7) (h8) (h9) (h10) (h11) (h12) (h13) (h14) (h15) (h16) (h17) (h18) (h19) (h20) (h21) (h22) (h23) (h24) (h25) (h26) (h27) (h28)) gs_X12_162 hs_X12_copy ⟨Nat.le_of_ble_eq_true rfl, Nat.le_of_ble_eq_true rfl⟩ hl.1 rfl (Nat.le_of_ble_eq_true rfl) ⟨Nat.zero_le _, Nat.zero_le _⟩ dX12_sourcesBy_48 (fun H locs w => ?_)
  refine lv_aload_n hx hb dX12_sourcesBy_51 rfl (lv_at hl 3 rfl) ?_
  refine f_12_2 F w (a := 146) rfl tb_127 dX12_sourcesBy_52 ?_
  refine lv_iconst (v := 0) hx hb dX12_sourcesBy_55 (by decide) ?_
  refine lv_iconst (v := 0) hx hb dX12_sourcesBy_56 (by decide) ?_
  refine g_iast F w (a := 148) rfl (j := 0) ⟨by decide, by decide⟩ (by decide) dX12_sourcesBy_57 (fun H locs w => ?_)
  rw [st_same ((st_ne (by decide)).trans ((st_ne (by decide)).trans ((st_ne (by decide)).trans ((st_ne (by decide)).trans ((st_ne (by decide)).trans ((st_ne (by decide)).trans ((st_ne (by decide)).trans ((st_ne (by decide)).trans ((st_ne (by decide)).trans ((st_ne (by decide)).trans ((st_ne (by decide)).trans ((st_ne (by decide)).trans ((st_ne (by decide)).trans ((st_ne (by decide)).trans ((st_ne (by decide)).trans ((st_ne (by decide)).trans ((st_ne (by decide)).trans ((st_ne (by decide)).trans ((st_ne (by decide)).trans ((st_ne (by decide)).trans ((st_ne (by decide)).trans ((st_ne (by decide)).trans ((st_ne (by decide)).trans ((st_ne (by decide)).trans ((st_ne (by decide)).trans ((st_ne (by decide)).trans ((st_ne (by decide)).trans st_at)))))))))))))))))))))))))))] at w
  refine lv_iload_n hx hb dX12_sourcesBy_58 rfl (lv_at hl 2 rfl) ?_
  refine lv_istore (lv' := [(5, .int 729), (4, .int (nI k)), (3, .int (nI k)), (2, .int 729), (0, .ref (B + 146)), (1, .int 6)]) hx hb dX12_sourcesBy_59 hl (by decide) rfl (fun ls hl => ?_)
  refine lv_iconst (v := 0) hx hb dX12_sourcesBy_61 (by decide) ?_
  refine lv_istore (lv' := [(6, .int 0), (5, .int 729), (4, .int (nI k)), (3, .int (nI k)), (2, .int 729), (0, .ref (B + 146)), (1, .int 6)]) hx hb dX12_sourcesBy_62 hl (by decide) rfl (fun ls hl => ?_)
  refine lv_iload hx hb dX12_sourcesBy_64 (lv_at hl 0 rfl) ?_
  refine lv_iload_n hx hb dX12_sourcesBy_66 rfl (lv_at hl 6 rfl) ?_
  refine lv_icmp_ge (tgt := 98) hx hb dX12_sourcesBy_67 (by decide) (fun c1 => absurd c1 (by decide)) (fun _ => ?_)
  refine lv_iload hx hb dX12_sourcesBy_70 (lv_at hl 1 rfl) ?_
  refine lv_iconst (v := 3) hx hb dX12_sourcesBy_72 (by decide) ?_
  refine lv_idiv hx hb dX12_sourcesBy_73 (by decide) ?_
  refine r_val (v := 243) (by decide) ?_
  refine lv_istore (lv' := [(5, .int 243), (6, .int 0), (4, .int (nI k)), (3, .int (nI k)), (2, .int 729), (0, .ref (B + 146)), (1, .int 6)]) hx hb dX12_sourcesBy_74 hl (by decide) rfl (fun ls hl => ?_)
  refine lv_aload_n hx hb dX12_sourcesBy_76 rfl (lv_at hl 5 rfl) ?_
  refine f_12_2 F w (a := 146) rfl tb_127 dX12_sourcesBy_77 ?_
  refine lv_iload hx hb dX12_sourcesBy_80 (lv_at hl 1 rfl) ?_
  refine lv_iload hx hb dX12_sourcesBy_82 (lv_at hl 2 rfl) ?_
  refine lv_iload hx hb dX12_sourcesBy_84 (lv_at hl 0 rfl) ?_
  refine lv_idiv hx hb dX12_sourcesBy_86 (by decide) ?_
  refine lv_iconst (v := 3) hx hb dX12_sourcesBy_87 (by decide) ?_
  refine lv_irem hx hb dX12_sourcesBy_88 (by decide) ?_
  refine x_Sv F w (As := [.ref (B + 148), .int 0, .int (((nI k) / 243) - ((nI k) / 243) / 3 * 3)]) (rest := []) (c_X12_insert_405 ((st_ne (by decide)).trans ((st_ne (by decide)).trans ((st_ne (by decide)).trans ((st_ne (by decide)).trans ((st_ne (by decide)).trans ((st_ne (by decide)).trans ((st_ne (by decide)).trans ((st_ne (by decide)).trans ((st_ne (by decide)).trans ((st_ne (by decide)).trans ((st_ne (by decide)).trans ((st_ne (by decide)).trans ((st_ne (by decide)).trans ((st_ne (by decide)).trans ((st_ne (by decide)).trans ((st_ne (by decide)).trans ((st_ne (by decide)).trans ((st_ne (by decide)).trans ((st_ne (by decide)).trans ((st_ne (by decide)).trans ((st_ne (by decide)).trans ((st_ne (by decide)).trans ((st_ne (by decide)).trans ((st_ne (by decide)).trans ((st_ne (by decide)).trans ((st_ne (by decide)).trans ((st_ne (by decide)).trans st_at))))))))))))))))))))))))))) ((st_ne (by decide)).trans ((st_ne (by decide)).trans ((st_ne (by decide)).trans ((st_ne (by decide)).trans ((st_ne (by decide)).trans ((st_ne (by decide)).trans ((st_ne (by decide)).trans ((st_ne (by decide)).trans ((st_ne (by decide)).trans ((st_ne (by decide)).trans ((st_ne (by decide)).trans ((st_ne (by decide)).trans ((st_ne (by decide)).trans ((st_ne (by decide)).trans st_at))))))))))))))) gs_X12_112 hs_X12_insert ⟨Nat.le_of_ble_eq_true rfl, Nat.le_of_ble_eq_true rfl⟩ hl.1 rfl (Nat.le_of_ble_eq_true rfl) ⟨Nat.zero_le _, Nat.zero_le _⟩ dX12_sourcesBy_89 (fun H locs w => ?_)
  refine lv_iinc (v := 1) (lv' := [(6, .int 1), (5, .int 243), (4, .int (nI k)), (3, .int (nI k)), (2, .int 729), (0, .ref (B + 146)), (1, .int 6)]) hx hb dX12_sourcesBy_92 hl (k := 1) rfl (by decide) (by decide) rfl (fun ls hl => ?_)
  refine lv_goto (tgt := 64) hx hb dX12_sourcesBy_95 (by decide) ?_
  refine lv_iload hx hb dX12_sourcesBy_64 (lv_at hl 0 rfl) ?_
  refine lv_iload_n hx hb dX12_sourcesBy_66 rfl (lv_at hl 6 rfl) ?_
  refine lv_icmp_ge (tgt := 98) hx hb dX12_sourcesBy_67 (by decide) (fun c1 => absurd c1 (by decide)) (fun _ => ?_)
  refine lv_iload hx hb dX12_sourcesBy_70 (lv_at hl 1 rfl) ?_
  refine lv_iconst (v := 3) hx hb dX12_sourcesBy_72 (by decide) ?_
  refine lv_idiv hx hb dX12_sourcesBy_73 (by decide) ?_
  refine r_val (v := 81) (by decide) ?_
  refine lv_istore (lv' := [(5, .int 81), (6, .int 1), (4, .int (nI k)), (3, .int (nI k)), (2, .int 729), (0, .ref (B + 146)), (1, .int 6)]) hx hb dX12_sourcesBy_74 hl (by decide) rfl (fun ls hl => ?_)
  refine lv_aload_n hx hb dX12_sourcesBy_76 rfl (lv_at hl 5 rfl) ?_
  refine f_12_2 F w (a := 146) rfl tb_127 dX12_sourcesBy_77 ?_
  refine lv_iload hx hb dX12_sourcesBy_80 (lv_at hl 1 rfl) ?_
  refine lv_iload hx hb dX12_sourcesBy_82 (lv_at hl 2 rfl) ?_
  refine lv_iload hx hb dX12_sourcesBy_84 (lv_at hl 0 rfl) ?_
  refine lv_idiv hx hb dX12_sourcesBy_86 (by decide) ?_
  refine lv_iconst (v := 3) hx hb dX12_sourcesBy_87 (by decide) ?_
  refine lv_irem hx hb dX12_sourcesBy_88 (by decide) ?_
  refine x_Sv F w (As := [.ref (B + 148), .int 1, .int (((nI k) / 81) - ((nI k) / 81) / 3 * 3)]) (rest := []) (c_X12_insert_420 (st_at) ((st_ne (by decide)).trans ((st_ne (by decide)).trans ((st_ne (by decide)).trans ((st_ne (by decide)).trans ((st_ne (by decide)).trans ((st_ne (by decide)).trans ((st_ne (by decide)).trans ((st_ne (by decide)).trans ((st_ne (by decide)).trans ((st_ne (by decide)).trans ((st_ne (by decide)).trans ((st_ne (by decide)).trans ((st_ne (by decide)).trans ((st_ne (by decide)).trans ((st_ne (by decide)).trans st_at)))))))))))))))) gs_X12_112 hs_X12_insert ⟨Nat.le_of_ble_eq_true rfl, Nat.le_of_ble_eq_true rfl⟩ hl.1 rfl (Nat.le_of_ble_eq_true rfl) ⟨Nat.zero_le _, Nat.zero_le _⟩ dX12_sourcesBy_89 (fun H locs w => ?_)
  refine lv_iinc (v := 2) (lv' := [(6, .int 2), (5, .int 81), (4, .int (nI k)), (3, .int (nI k)), (2, .int 729), (0, .ref (B + 146)), (1, .int 6)]) hx hb dX12_sourcesBy_92 hl (k := 1) rfl (by decide) (by decide) rfl (fun ls hl => ?_)
  refine lv_goto (tgt := 64) hx hb dX12_sourcesBy_95 (by decide) ?_
  refine lv_iload hx hb dX12_sourcesBy_64 (lv_at hl 0 rfl) ?_
  refine lv_iload_n hx hb dX12_sourcesBy_66 rfl (lv_at hl 6 rfl) ?_
  refine lv_icmp_ge (tgt := 98) hx hb dX12_sourcesBy_67 (by decide) (fun c1 => absurd c1 (by decide)) (fun _ => ?_)
  refine lv_iload hx hb dX12_sourcesBy_70 (lv_at hl 1 rfl) ?_
  refine lv_iconst (v := 3) hx hb dX12_sourcesBy_72 (by decide) ?_
  refine lv_idiv hx hb dX12_sourcesBy_73 (by decide) ?_
  refine r_val (v := 27) (by decide) ?_
  refine lv_istore (lv' := [(5, .int 27), (6, .int 2), (4, .int (nI k)), (3, .int (nI k)), (2, .int 729), (0, .ref (B + 146)), (1, .int 6)]) hx hb dX12_sourcesBy_74 hl (by decide) rfl (fun ls hl => ?_)
  refine lv_aload_n hx hb dX12_sourcesBy_76 rfl (lv_at hl 5 rfl) ?_
  refine f_12_2 F w (a := 146) rfl tb_127 dX12_sourcesBy_77 ?_
  refine lv_iload hx hb dX12_sourcesBy_80 (lv_at hl 1 rfl) ?_
  refine lv_iload hx hb dX12_sourcesBy_82 (lv_at hl 2 rfl) ?_
  refine lv_iload hx hb dX12_sourcesBy_84 (lv_at hl 0 rfl) ?_
  refine lv_idiv hx hb dX12_sourcesBy_86 (by decide) ?_
  refine lv_iconst (v := 3) hx hb dX12_sourcesBy_87 (by decide) ?_
  refine lv_irem hx hb dX12_sourcesBy_88 (by decide) ?_
  refine x_Sv F w (As := [.ref (B + 148), .int 2, .int (((nI k) / 27) - ((nI k) / 27) / 3 * 3)]) (rest := []) (c_X12_insert_435 (st_at) ((st_ne (by decide)).trans ((st_ne (by decide)).trans ((st_ne (by decide)).trans ((st_ne (by decide)).trans ((st_ne (by decide)).trans ((st_ne (by decide)).trans ((st_ne (by decide)).trans ((st_ne (by decide)).trans ((st_ne (by decide)).trans ((st_ne (by decide)).trans ((st_ne (by decide)).trans ((st_ne (by decide)).trans ((st_ne (by decide)).trans ((st_ne (by decide)).trans ((st_ne (by decide)).trans ((st_ne (by decide)).trans st_at))))))))))))))))) gs_X12_112 hs_X12_insert ⟨Nat.le_of_ble_eq_true rfl, Nat.le_of_ble_eq_true rfl⟩ hl.1 rfl (Nat.le_of_ble_eq_true rfl) ⟨Nat.zero_le _, Nat.zero_le _⟩ dX12_sourcesBy_89 (fun H locs w => ?_)
  refine lv_iinc (v := 3) (lv' := [(6, .int 3), (5, .int 27), (4, .int (nI k)), (3, .int (nI k)), (2, .int 729), (0, .ref (B + 146)), (1, .int 6)]) hx hb dX12_sourcesBy_92 hl (k := 1) rfl (by decide) (by decide) rfl (fun ls hl => ?_)
  refine lv_goto (tgt := 64) hx hb dX12_sourcesBy_95 (by decide) ?_
  refine lv_iload hx hb dX12_sourcesBy_64 (lv_at hl 0 rfl) ?_
  refine lv_iload_n hx hb dX12_sourcesBy_66 rfl (lv_at hl 6 rfl) ?_
  refine lv_icmp_ge (tgt := 98) hx hb dX12_sourcesBy_67 (by decide) (fun c1 => absurd c1 (by decide)) (fun _ => ?_)
  refine lv_iload hx hb dX12_sourcesBy_70 (lv_at hl 1 rfl) ?_
  refine lv_iconst (v := 3) hx hb dX12_sourcesBy_72 (by decide) ?_
  refine lv_idiv hx hb dX12_sourcesBy_73 (by decide) ?_
  refine r_val (v := 9) (by decide) ?_
  refine lv_istore (lv' := [(5, .int 9), (6, .int 3), (4, .int (nI k)), (3, .int (nI k)), (2, .int 729), (0, .ref (B + 146)), (1, .int 6)]) hx hb dX12_sourcesBy_74 hl (by decide) rfl (fun ls hl => ?_)
  refine lv_aload_n hx hb dX12_sourcesBy_76 rfl (lv_at hl 5 rfl) ?_
  refine f_12_2 F w (a := 146) rfl tb_127 dX12_sourcesBy_77 ?_
  refine lv_iload hx hb dX12_sourcesBy_80 (lv_at hl 1 rfl) ?_
  refine lv_iload hx hb dX12_sourcesBy_82 (lv_at hl 2 rfl) ?_
  refine lv_iload hx hb dX12_sourcesBy_84 (lv_at hl 0 rfl) ?_
  refine lv_idiv hx hb dX12_sourcesBy_86 (by decide) ?_
  refine lv_iconst (v := 3) hx hb dX12_sourcesBy_87 (by decide) ?_
  refine lv_irem hx hb dX12_sourcesBy_88 (by decide) ?_
  refine x_Sv F w (As := [.ref (B + 148), .int 3, .int (((nI k) / 9) - ((nI k) / 9) / 3 * 3)]) (rest := []) (c_X12_insert_450 (st_at) ((st_ne (by decide)).trans ((st_ne (by decide)).trans ((st_ne (by decide)).trans ((st_ne (by decide)).trans ((st_ne (by decide)).trans ((st_ne (by decide)).trans ((st_ne (by decide)).trans ((st_ne (by decide)).trans ((st_ne (by decide)).trans ((st_ne (by decide)).trans ((st_ne (by decide)).trans ((st_ne (by decide)).trans ((st_ne (by decide)).trans ((st_ne (by decide)).trans ((st_ne (by decide)).trans ((st_ne (by decide)).trans ((st_ne (by decide)).trans st_at)))))))))))))))))) gs_X12_112 hs_X12_insert ⟨Nat.le_of_ble_eq_true rfl, Nat.le_of_ble_eq_true rfl⟩ hl.1 rfl (Nat.le_of_ble_eq_true rfl) ⟨Nat.zero_le _, Nat.zero_le _⟩ dX12_sourcesBy_89 (fun H locs w => ?_)
  refine lv_iinc (v := 4) (lv' := [(6, .int 4), (5, .int 9), (4, .int (nI k)), (3, .int (nI k)), (2, .int 729), (0, .ref (B + 146)), (1, .int 6)]) hx hb dX12_sourcesBy_92 hl (k := 1) rfl (by decide) (by decide) rfl (fun ls hl => ?_)
  refine lv_goto (tgt := 64) hx hb dX12_sourcesBy_95 (by decide) ?_
  refine lv_iload hx hb dX12_sourcesBy_64 (lv_at hl 0 rfl) ?_
  refine lv_iload_n hx hb dX12_sourcesBy_66 rfl (lv_at hl 6 rfl) ?_
  refine lv_icmp_ge (tgt := 98) hx hb dX12_sourcesBy_67 (by decide) (fun c1 => absurd c1 (by decide)) (fun _ => ?_)
  refine lv_iload hx hb dX12_sourcesBy_70 (lv_at hl 1 rfl) ?_
  refine lv_iconst (v := 3) hx hb dX12_sourcesBy_72 (by decide) ?_
  refine lv_idiv hx hb dX12_sourcesBy_73 (by decide) ?_
  refine r_val (v := 3) (by decide) ?_
  refine lv_istore (lv' := [(5, .int 3), (6, .int 4), (4, .int (nI k)), (3, .int (nI k)), (2, .int 729), (0, .ref (B + 146)), (1, .int 6)]) hx hb dX12_sourcesBy_74 hl (by decide) rfl (fun ls hl => ?_)
  refine lv_aload_n hx hb dX12_sourcesBy_76 rfl (lv_at hl 5 rfl) ?_
  refine f_12_2 F w (a := 146) rfl tb_127 dX12_sourcesBy_77 ?_
  refine lv_iload hx hb dX12_sourcesBy_80 (lv_at hl 1 rfl) ?_
  refine lv_iload hx hb dX12_sourcesBy_82 (lv_at hl 2 rfl) ?_
  refine lv_iload hx hb dX12_sourcesBy_84 (lv_at hl 0 rfl) ?_
  refine lv_idiv hx hb dX12_sourcesBy_86 (by decide) ?_
  refine lv_iconst (v := 3) hx hb dX12_sourcesBy_87 (by decide) ?_
  refine lv_irem hx hb dX12_sourcesBy_88 (by decide) ?_
  refine x_Sv F w (As := [.ref (B + 148), .int 4, .int (((nI k) / 3) - ((nI k) / 3) / 3 * 3)]) (rest := []) (c_X12_insert_465 (st_at) ((st_ne (by decide)).trans ((st_ne (by decide)).trans ((st_ne (by decide)).trans ((st_ne (by decide)).trans ((st_ne (by decide)).trans ((st_ne (by decide)).trans ((st_ne (by decide)).trans ((st_ne (by decide)).trans ((st_ne (by decide)).trans ((st_ne (by decide)).trans ((st_ne (by decide)).trans ((st_ne (by decide)).trans ((st_ne (by decide)).trans ((st_ne (by decide)).trans ((st_ne (by decide)).trans ((st_ne (by decide)).trans ((st_ne (by decide)).trans ((st_ne (by decide)).trans st_at))))))))))))))))))) gs_X12_112 hs_X12_insert ⟨Nat.le_of_ble_eq_true rfl, Nat.le_of_ble_eq_true rfl⟩ hl.1 rfl (Nat.le_of_ble_eq_true rfl) ⟨Nat.zero_le _, Nat.zero_le _⟩ dX12_sourcesBy_89 (fun H locs w => ?_)
  refine lv_iinc (v := 5) (lv' := [(6, .int 5), (5, .int 3), (4, .int (nI k)), (3, .int (nI k)), (2, .int 729), (0, .ref (B + 146)), (1, .int 6)]) hx hb dX12_sourcesBy_92 hl (k := 1) rfl (by decide) (by decide) rfl (fun ls hl => ?_)
  refine lv_goto (tgt := 64) hx hb dX12_sourcesBy_95 (by decide) ?_
  refine lv_iload hx hb dX12_sourcesBy_64 (lv_at hl 0 rfl) ?_
  refine lv_iload_n hx hb dX12_sourcesBy_66 rfl (lv_at hl 6 rfl) ?_
  refine lv_icmp_ge (tgt := 98) hx hb dX12_sourcesBy_67 (by decide) (fun c1 => absurd c1 (by decide)) (fun _ => ?_)
  refine lv_iload hx hb dX12_sourcesBy_70 (lv_at hl 1 rfl) ?_
  refine lv_iconst (v := 3) hx hb dX12_sourcesBy_72 (by decide) ?_
  refine lv_idiv hx hb dX12_sourcesBy_73 (by decide) ?_
  refine r_val (v := 1) (by decide) ?_
  refine lv_istore (lv' := [(5, .int 1), (6, .int 5), (4, .int (nI k)), (3, .int (nI k)), (2, .int 729), (0, .ref (B + 146)), (1, .int 6)]) hx hb dX12_sourcesBy_74 hl (by decide) rfl (fun ls hl => ?_)
  refine lv_aload_n hx hb dX12_sourcesBy_76 rfl (lv_at hl 5 rfl) ?_
  refine f_12_2 F w (a := 146) rfl tb_127 dX12_sourcesBy_77 ?_
  refine lv_iload hx hb dX12_sourcesBy_80 (lv_at hl 1 rfl) ?_
  refine lv_iload hx hb dX12_sourcesBy_82 (lv_at hl 2 rfl) ?_
  refine lv_iload hx hb dX12_sourcesBy_84 (lv_at hl 0 rfl) ?_
  refine lv_idiv hx hb dX12_sourcesBy_86 (by decide) ?_
  refine lv_iconst (v := 3) hx hb dX12_sourcesBy_87 (by decide) ?_
  refine lv_irem hx hb dX12_sourcesBy_88 (by decide) ?_
  refine x_Sv F w (As := [.ref (B + 148), .int 5, .int (((nI k) / 1) - ((nI k) / 1) / 3 * 3)]) (rest := []) (c_X12_insert_466 (st_at) ((st_ne (by decide)).trans ((st_ne (by decide)).trans ((st_ne (by decide)).trans ((st_ne (by decide)).trans ((st_ne (by decide)).trans ((st_ne (by decide)).trans ((st_ne (by decide)).trans ((st_ne (by decide)).trans ((st_ne (by decide)).trans ((st_ne (by decide)).trans ((st_ne (by decide)).trans ((st_ne (by decide)).trans ((st_ne (by decide)).trans ((st_ne (by decide)).trans ((st_ne (by decide)).trans ((st_ne (by decide)).trans ((st_ne (by decide)).trans ((st_ne (by decide)).trans ((st_ne (by decide)).trans st_at)))))))))))))))))))) gs_X12_112 hs_X12_insert ⟨Nat.le_of_ble_eq_true rfl, Nat.le_of_ble_eq_true rfl⟩ hl.1 rfl (Nat.le_of_ble_eq_true rfl) ⟨Nat.zero_le _, Nat.zero_le _⟩ dX12_sourcesBy_89 (fun H locs w => ?_)
  refine lv_iinc (v := 6) (lv' := [(6, .int 6), (5, .int 1), (4, .int (nI k)), (3, .int (nI k)), (2, .int 729), (0, .ref (B + 146)), (1, .int 6)]) hx hb dX12_sourcesBy_92 hl (k := 1) rfl (by decide) (by decide) rfl (fun ls hl => ?_)
  refine lv_goto (tgt := 64) hx hb dX12_sourcesBy_95 (by decide) ?_
  refine lv_iload hx hb dX12_sourcesBy_64 (lv_at hl 0 rfl) ?_
  refine lv_iload_n hx hb dX12_sourcesBy_66 rfl (lv_at hl 6 rfl) ?_
  refine lv_icmp_ge (tgt := 98) hx hb dX12_sourcesBy_67 (by decide) (fun _ => ?_) (fun c1 => absurd c1 (by decide))
  refine lv_iconst (v := 0) hx hb dX12_sourcesBy_98 (by decide) ?_
  refine lv_istore (lv' := [(6, .int 0), (5, .int 1), (4, .int (nI k)), (3, .int (nI k)), (2, .int 729), (0, .ref (B + 146)), (1, .int 6)]) hx hb dX12_sourcesBy_99 hl (by decide) rfl (fun ls hl => ?_)
  refine lv_iload hx hb dX12_sourcesBy_101 (lv_at hl 0 rfl) ?_
  refine lv_aload_n hx hb dX12_sourcesBy_103 rfl (lv_at hl 5 rfl) ?_
  refine f_12_5 F w (a := 146) rfl tb_227 dX12_sourcesBy_104 ?_
  refine r_val (v := 0) ((st_ne (by decide)).trans ((st_ne (by decide)).trans ((st_ne (by decide)).trans ((st_ne (by decide)).trans ((st_ne (by decide)).trans ((st_ne (by decide)).trans ((st_ne (by decide)).trans ((st_ne (by decide)).trans ((st_ne (by decide)).trans ((st_ne (by decide)).trans ((st_ne (by decide)).trans ((st_ne (by decide)).trans ((st_ne (by decide)).trans ((st_ne (by decide)).trans ((st_ne (by decide)).trans ((st_ne (by decide)).trans ((st_ne (by decide)).trans ((st_ne (by decide)).trans ((st_ne (by decide)).trans ((st_ne (by decide)).trans ((st_ne (by decide)).trans ((st_ne (by decide)).trans ((st_ne (by decide)).trans ((st_ne (by decide)).trans ((st_ne (by decide)).trans ((st_ne (by decide)).trans ((st_ne (by decide)).trans ((st_ne (by decide)).trans ((st_ne (by decide)).trans ((st_ne (by decide)).trans ((st_ne (by decide)).trans ((st_ne (by decide)).trans ((st_ne (by decide)).trans ((st_ne (by decide)).trans ((st_ne (by decide)).trans ((st_ne (by decide)).trans ((st_ne (by decide)).trans ((st_ne (by decide)).trans ((st_ne (by decide)).trans ((st_ne (by decide)).trans h29)))))))))))))))))))))))))))))))))))))))) ?_
  refine lv_icmp_ge (tgt := 123) hx hb dX12_sourcesBy_107 (by decide) (fun _ => ?_) (fun c1 => absurd c1 (by decide))
  refine lv_aload_n hx hb dX12_sourcesBy_123 rfl (lv_at hl 5 rfl) ?_
  refine x_Vi F w (As := []) (rest := []) (a := 146) (by decide) (sh_12 rfl _ _) rfl (c_X12_isDue_357 ((st_ne (by decide)).trans ((st_ne (by decide)).trans ((st_ne (by decide)).trans ((st_ne (by decide)).trans ((st_ne (by decide)).trans ((st_ne (by decide)).trans ((st_ne (by decide)).trans ((st_ne (by decide)).trans ((st_ne (by decide)).trans ((st_ne (by decide)).trans ((st_ne (by decide)).trans ((st_ne (by decide)).trans ((st_ne (by decide)).trans ((st_ne (by decide)).trans st_at))))))))))))))) gv_X12_306 hv_X12_isDue ⟨Nat.le_of_ble_eq_true rfl, Nat.le_of_ble_eq_true rfl⟩ hl.1 rfl (Nat.le_of_ble_eq_true rfl) ⟨Nat.zero_le _, Nat.zero_le _⟩ dX12_sourcesBy_124 (fun H locs w => ?_)
  refine lv_if_ne (tgt := 133) hx hb dX12_sourcesBy_127 (by decide) (fun _ => ?_) (fun c1 => absurd c1 (by decide))
  refine lv_iload_n hx hb dX12_sourcesBy_133 rfl (lv_at hl 3 rfl) ?_
  refine lv_if_ne (tgt := 143) hx hb dX12_sourcesBy_134 (by decide) (fun _ => ?_) (fun c1 => absurd c1 h30)
  refine lv_iinc (v := ((nI k) + 1)) (lv' := [(3, .int ((nI k) + 1)), (6, .int 0), (5, .int 1), (4, .int (nI k)), (2, .int 729), (0, .ref (B + 146)), (1, .int 6)]) hx hb dX12_sourcesBy_143 hl (k := 3) rfl rfl (by decide) rfl (fun ls hl => ?_)
  refine lv_iinc (v := ((nI k) + 1)) (lv' := [(4, .int ((nI k) + 1)), (3, .int ((nI k) + 1)), (6, .int 0), (5, .int 1), (2, .int 729), (0, .ref (B + 146)), (1, .int 6)]) hx hb dX12_sourcesBy_146 hl (k := 3) rfl rfl (by decide) rfl (fun ls hl => ?_)
  refine lv_goto (tgt := 34) hx hb dX12_sourcesBy_149 (by decide) ?_
  exact kk _ _ _ w (lv_sub hl [0, 1, 4, 5, 6] rfl)
set_option maxRecDepth 8000 in
theorem ex_X12_sourcesBy_467 {p : Program} {l : Launch} {e : Env} {s : State} {m : MethodId} {args : Array Value} {below : List Frame} {meth : Method} {c : Code} {D : va_G} {B : Nat} {cy : Nat → ClassId} {H : Heap} {locs : List Loc} {ls : Array Slot} {M : Mem} {post : Int32 → Mem → Prop} (F : CallFix p m c cX12_sourcesBy 7 s args TB RX12) (hr : meth.sig.returnType = (some .int)) (hlocks : meth.locks = false) (w : Wd D B cy s s.heap M H locs) (hl : lv_has ls 7 [(4, .int 729), (3, .int 729), (2, .int 729), (0, .ref (B + 146)), (1, .int 6)]) (hp : post 729 M) : W p l e (rmm 3 66) s m args below meth c H locs 0 0 (MQ below (va_Qi post (fun M1 t => Wp D B cy M1 t) (fun q => B ≤ q)) args s 0 0 (fun q => B ≤ q)) (F0 m 34 ls []) := by
  have hx := F.1
  have hb := F.2.1
  refine lv_iload hx hb dX12_sourcesBy_34 (lv_at hl 0 rfl) ?_
  refine lv_iload_n hx hb dX12_sourcesBy_36 rfl (lv_at hl 2 rfl) ?_
  refine lv_icmp_ge (tgt := 152) hx hb dX12_sourcesBy_37 (by decide) (fun _ => ?_) (fun c1 => absurd c1 (by decide))
  refine lv_iload_n hx hb dX12_sourcesBy_152 rfl (lv_at hl 1 rfl) ?_
  exact e_i F w hr hlocks hp dX12_sourcesBy_153
set_option maxRecDepth 8000 in
theorem lp_X12_sourcesBy_467 {p : Program} {l : Launch} {e : Env} {s : State} {m : MethodId} {args : Array Value} {below : List Frame} {meth : Method} {c : Code} {D : va_G} {B : Nat} {cy : Nat → ClassId} (F : CallFix p m c cX12_sourcesBy 7 s args TB RX12) (hr : meth.sig.returnType = (some .int)) (hlocks : meth.locks = false) : ∀ (n k : Nat), n + k = 729 → 1 ≤ k → ∀ (M : Mem) (H : Heap) (locs : List Loc) (ls : Array Slot), Wd D B cy s s.heap M H locs → lv_has ls 7 [(4, .int (nI k)), (3, .int (nI k)), (2, .int 729), (0, .ref (B + 146)), (1, .int 6)] → (M.1 147 0 = 0) → (M.1 147 1 = 0) → (M.1 147 2 = 0) → (M.1 147 3 = 0) → (M.1 147 4 = 0) → (M.1 147 5 = 0) → (M.1 147 6 = 0) → (M.1 147 7 = 0) → (M.1 147 8 = 0) → (M.1 147 9 = 0) → (M.1 147 10 = 0) → (M.1 147 11 = 0) → (M.1 147 12 = 0) → (M.1 147 13 = 0) → (M.1 147 14 = 0) → (M.1 147 15 = 0) → (M.1 147 16 = 0) → (M.1 147 17 = 0) → (M.1 147 18 = 0) → (M.1 147 19 = 0) → (M.1 147 20 = 0) → (M.1 147 21 = 0) → (M.1 147 22 = 0) → (M.1 147 23 = 0) → (M.1 147 24 = 0) → (M.1 147 25 = 0) → (M.1 147 26 = 0) → (M.1 147 27 = 0) → (M.1 146 5 = 0) → (M.1 146 26 = 0) → W p l e (rmm 3 66) s m args below meth c H locs 0 0 (MQ below (va_Qi (fun r M1 => r = 729 ∧ M1.1 146 26 = 0) (fun M1 t => Wp D B cy M1 t) (fun q => B ≤ q)) args s 0 0 (fun q => B ≤ q)) (F0 m 34 ls []) := by
  intro n
  induction n with
  | zero =>
    intro k hk h1 M H locs ls w hl h0 h1 h2 h3 h4 h5 h6 h7 h8 h9 h10 h11 h12 h13 h14 h15 h16 h17 h18 h19 h20 h21 h22 h23 h24 h25 h26 h27 h28 h29
    have hk : k = 729 := by omega
    subst hk
    exact ex_X12_sourcesBy_467 (post := fun r M1 => r = 729 ∧ M1.1 146 26 = 0) F hr hlocks w hl  ⟨rfl, h29⟩
  | succ n ih =>
    intro k hk h1 M H locs ls w hl h0 h1 h2 h3 h4 h5 h6 h7 h8 h9 h10 h11 h12 h13 h14 h15 h16 h17 h18 h19 h20 h21 h22 h23 h24 h25 h26 h27 h28 h29
    exact bd_X12_sourcesBy_467 F w hl (show ¬ nI 729 ≤ nI k from nI_ge (by omega) (by decide)) h0 h1 h2 h3 h4 h5 h6 h7 h8 h9 h10 h11 h12 h13 h14 h15 h16 h17 h18 h19 h20 h21 h22 h23 h24 h25 h26 h27 h28 (nI_ne0 (by omega) (by omega)) (fun H1 locs1 ls1 w1 hl1 => ih (k + 1) (by omega) (by omega) _ H1 locs1 ls1 w1 (by rw [nI_1] at hl1; exact hl1) ((st_ne (by decide)).trans ((st_ne (by decide)).trans ((st_ne (by decide)).trans ((st_ne (by decide)).trans ((st_ne (by decide)).trans ((st_ne (by decide)).trans ((st_ne (by decide)).trans ((st_ne (by decide)).trans ((st_ne (by decide)).trans ((st_ne (by decide)).trans ((st_ne (by decide)).trans ((st_ne (by decide)).trans ((st_ne (by decide)).trans ((st_ne (by decide)).trans ((st_ne (by decide)).trans ((st_ne (by decide)).trans ((st_ne (by decide)).trans ((st_ne (by decide)).trans ((st_ne (by decide)).trans ((st_ne (by decide)).trans ((st_ne (by decide)).trans ((st_ne (by decide)).trans ((st_ne (by decide)).trans ((st_ne (by decide)).trans ((st_ne (by decide)).trans ((st_ne (by decide)).trans ((st_ne (by decide)).trans ((st_ne (by decide)).trans ((st_ne (by decide)).trans ((st_ne (by decide)).trans ((st_ne (by decide)).trans ((st_ne (by decide)).trans ((st_ne (by decide)).trans ((st_ne (by decide)).trans ((st_ne (by decide)).trans ((st_ne (by decide)).trans ((st_ne (by decide)).trans ((st_ne (by decide)).trans ((st_ne (by decide)).trans ((st_ne (by decide)).trans h0)))))))))))))))))))))))))))))))))))))))) ((st_ne (by decide)).trans ((st_ne (by decide)).trans ((st_ne (by decide)).trans ((st_ne (by decide)).trans ((st_ne (by decide)).trans ((st_ne (by decide)).trans ((st_ne (by decide)).trans ((st_ne (by decide)).trans ((st_ne (by decide)).trans ((st_ne (by decide)).trans ((st_ne (by decide)).trans ((st_ne (by decide)).trans ((st_ne (by decide)).trans ((st_ne (by decide)).trans ((st_ne (by decide)).trans ((st_ne (by decide)).trans ((st_ne (by decide)).trans ((st_ne (by decide)).trans ((st_ne (by decide)).trans ((st_ne (by decide)).trans ((st_ne (by decide)).trans ((st_ne (by decide)).trans ((st_ne (by decide)).trans ((st_ne (by decide)).trans ((st_ne (by decide)).trans ((st_ne (by decide)).trans ((st_ne (by decide)).trans ((st_ne (by decide)).trans ((st_ne (by decide)).trans ((st_ne (by decide)).trans ((st_ne (by decide)).trans ((st_ne (by decide)).trans ((st_ne (by decide)).trans ((st_ne (by decide)).trans ((st_ne (by decide)).trans ((st_ne (by decide)).trans ((st_ne (by decide)).trans ((st_ne (by decide)).trans ((st_ne (by decide)).trans ((st_ne (by decide)).trans h1)))))))))))))))))))))))))))))))))))))))) ((st_ne (by decide)).trans ((st_ne (by decide)).trans ((st_ne (by decide)).trans ((st_ne (by decide)).trans ((st_ne (by decide)).trans ((st_ne (by decide)).trans ((st_ne (by decide)).trans ((st_ne (by decide)).trans ((st_ne (by decide)).trans ((st_ne (by decide)).trans ((st_ne (by decide)).trans ((st_ne (by decide)).trans ((st_ne (by decide)).trans ((st_ne (by decide)).trans ((st_ne (by decide)).trans ((st_ne (by decide)).trans ((st_ne (by decide)).trans ((st_ne (by decide)).trans ((st_ne (by decide)).trans ((st_ne (by decide)).trans ((st_ne (by decide)).trans ((st_ne (by decide)).trans ((st_ne (by decide)).trans ((st_ne (by decide)).trans ((st_ne (by decide)).trans ((st_ne (by decide)).trans ((st_ne (by decide)).trans ((st_ne (by decide)).trans ((st_ne (by decide)).trans ((st_ne (by decide)).trans ((st_ne (by decide)).trans ((st_ne (by decide)).trans ((st_ne (by decide)).trans ((st_ne (by decide)).trans ((st_ne (by decide)).trans ((st_ne (by decide)).trans ((st_ne (by decide)).trans ((st_ne (by decide)).trans ((st_ne (by decide)).trans ((st_ne (by decide)).trans h2)))))))))))))))))))))))))))))))))))))))) ((st_ne (by decide)).trans ((st_ne (by decide)).trans ((st_ne (by decide)).trans ((st_ne (by decide)).trans ((st_ne (by decide)).trans ((st_ne (by decide)).trans ((st_ne (by decide)).trans ((st_ne (by decide)).trans ((st_ne (by decide)).trans ((st_ne (by decide)).trans ((st_ne (by decide)).trans ((st_ne (by decide)).trans ((st_ne (by decide)).trans ((st_ne (by decide)).trans ((st_ne (by decide)).trans ((st_ne (by decide)).trans ((st_ne (by decide)).trans ((st_ne (by decide)).trans ((st_ne (by decide)).trans ((st_ne (by decide)).trans ((st_ne (by decide)).trans ((st_ne (by decide)).trans ((st_ne (by decide)).trans ((st_ne (by decide)).trans ((st_ne (by decide)).trans ((st_ne (by decide)).trans ((st_ne (by decide)).trans ((st_ne (by decide)).trans ((st_ne (by decide)).trans ((st_ne (by decide)).trans ((st_ne (by decide)).trans ((st_ne (by decide)).trans ((st_ne (by decide)).trans ((st_ne (by decide)).trans ((st_ne (by decide)).trans ((st_ne (by decide)).trans ((st_ne (by decide)).trans ((st_ne (by decide)).trans ((st_ne (by decide)).trans ((st_ne (by decide)).trans h3)))))))))))))))))))))))))))))))))))))))) ((st_ne (by decide)).trans ((st_ne (by decide)).trans ((st_ne (by decide)).trans ((st_ne (by decide)).trans ((st_ne (by decide)).trans ((st_ne (by decide)).trans ((st_ne (by decide)).trans ((st_ne (by decide)).trans ((st_ne (by decide)).trans ((st_ne (by decide)).trans ((st_ne (by decide)).trans ((st_ne (by decide)).trans ((st_ne (by decide)).trans ((st_ne (by decide)).trans ((st_ne (by decide)).trans ((st_ne (by decide)).trans ((st_ne (by decide)).trans ((st_ne (by decide)).trans ((st_ne (by decide)).trans ((st_ne (by decide)).trans ((st_ne (by decide)).trans ((st_ne (by decide)).trans ((st_ne (by decide)).trans ((st_ne (by decide)).trans ((st_ne (by decide)).trans ((st_ne (by decide)).trans ((st_ne (by decide)).trans ((st_ne (by decide)).trans ((st_ne (by decide)).trans ((st_ne (by decide)).trans ((st_ne (by decide)).trans ((st_ne (by decide)).trans ((st_ne (by decide)).trans ((st_ne (by decide)).trans ((st_ne (by decide)).trans ((st_ne (by decide)).trans ((st_ne (by decide)).trans ((st_ne (by decide)).trans ((st_ne (by decide)).trans ((st_ne (by decide)).trans h4)))))))))))))))))))))))))))))))))))))))) ((st_ne (by decide)).trans ((st_ne (by decide)).trans ((st_ne (by decide)).trans ((st_ne (by decide)).trans ((st_ne (by decide)).trans ((st_ne (by decide)).trans ((st_ne (by decide)).trans ((st_ne (by decide)).trans ((st_ne (by decide)).trans ((st_ne (by decide)).trans ((st_ne (by decide)).trans ((st_ne (by decide)).trans ((st_ne (by decide)).trans ((st_ne (by decide)).trans ((st_ne (by decide)).trans ((st_ne (by decide)).trans ((st_ne (by decide)).trans ((st_ne (by decide)).trans ((st_ne (by decide)).trans ((st_ne (by decide)).trans ((st_ne (by decide)).trans ((st_ne (by decide)).trans ((st_ne (by decide)).trans ((st_ne (by decide)).trans ((st_ne (by decide)).trans ((st_ne (by decide)).trans ((st_ne (by decide)).trans ((st_ne (by decide)).trans ((st_ne (by decide)).trans ((st_ne (by decide)).trans ((st_ne (by decide)).trans ((st_ne (by decide)).trans ((st_ne (by decide)).trans ((st_ne (by decide)).trans ((st_ne (by decide)).trans ((st_ne (by decide)).trans ((st_ne (by decide)).trans ((st_ne (by decide)).trans ((st_ne (by decide)).trans ((st_ne (by decide)).trans h5)))))))))))))))))))))))))))))))))))))))) ((st_ne (by decide)).trans ((st_ne (by decide)).trans ((st_ne (by decide)).trans ((st_ne (by decide)).trans ((st_ne (by decide)).trans ((st_ne (by decide)).trans ((st_ne (by decide)).trans ((st_ne (by decide)).trans ((st_ne (by decide)).trans ((st_ne (by decide)).trans ((st_ne (by decide)).trans ((st_ne (by decide)).trans ((st_ne (by decide)).trans ((st_ne (by decide)).trans ((st_ne (by decide)).trans ((st_ne (by decide)).trans ((st_ne (by decide)).trans ((st_ne (by decide)).trans ((st_ne (by decide)).trans ((st_ne (by decide)).trans ((st_ne (by decide)).trans ((st_ne (by decide)).trans ((st_ne (by decide)).trans ((st_ne (by decide)).trans ((st_ne (by decide)).trans ((st_ne (by decide)).trans ((st_ne (by decide)).trans ((st_ne (by decide)).trans ((st_ne (by decide)).trans ((st_ne (by decide)).trans ((st_ne (by decide)).trans ((st_ne (by decide)).trans ((st_ne (by decide)).trans ((st_ne (by decide)).trans ((st_ne (by decide)).trans ((st_ne (by decide)).trans ((st_ne (by decide)).trans ((st_ne (by decide)).trans ((st_ne (by decide)).trans ((st_ne (by decide)).trans h6)))))))))))))))))))))))))))))))))))))))) ((st_ne (by decide)).trans ((st_ne (by decide)).trans ((st_ne (by decide)).trans ((st_ne (by decide)).trans ((st_ne (by decide)).trans ((st_ne (by decide)).trans ((st_ne (by decide)).trans ((st_ne (by decide)).trans ((st_ne (by decide)).trans ((st_ne (by decide)).trans ((st_ne (by decide)).trans ((st_ne (by decide)).trans ((st_ne (by decide)).trans ((st_ne (by decide)).trans ((st_ne (by decide)).trans ((st_ne (by decide)).trans ((st_ne (by decide)).trans ((st_ne (by decide)).trans ((st_ne (by decide)).trans ((st_ne (by decide)).trans ((st_ne (by decide)).trans ((st_ne (by decide)).trans ((st_ne (by decide)).trans ((st_ne (by decide)).trans ((st_ne (by decide)).trans ((st_ne (by decide)).trans ((st_ne (by decide)).trans ((st_ne (by decide)).trans ((st_ne (by decide)).trans ((st_ne (by decide)).trans ((st_ne (by decide)).trans ((st_ne (by decide)).trans ((st_ne (by decide)).trans ((st_ne (by decide)).trans ((st_ne (by decide)).trans ((st_ne (by decide)).trans ((st_ne (by decide)).trans ((st_ne (by decide)).trans ((st_ne (by decide)).trans ((st_ne (by decide)).trans h7)))))))))))))))))))))))))))))))))))))))) ((st_ne (by decide)).trans ((st_ne (by decide)).trans ((st_ne (by decide)).trans ((st_ne (by decide)).trans ((st_ne (by decide)).trans ((st_ne (by decide)).trans ((st_ne (by decide)).trans ((st_ne (by decide)).trans ((st_ne (by decide)).trans ((st_ne (by decide)).trans ((st_ne (by decide)).trans ((st_ne (by decide)).trans ((st_ne (by decide)).trans ((st_ne (by decide)).trans ((st_ne (by decide)).trans ((st_ne (by decide)).trans ((st_ne (by decide)).trans ((st_ne (by decide)).trans ((st_ne (by decide)).trans ((st_ne (by decide)).trans ((st_ne (by decide)).trans ((st_ne (by decide)).trans ((st_ne (by decide)).trans ((st_ne (by decide)).trans ((st_ne (by decide)).trans ((st_ne (by decide)).trans ((st_ne (by decide)).trans ((st_ne (by decide)).trans ((st_ne (by decide)).trans ((st_ne (by decide)).trans ((st_ne (by decide)).trans ((st_ne (by decide)).trans ((st_ne (by decide)).trans ((st_ne (by decide)).trans ((st_ne (by decide)).trans ((st_ne (by decide)).trans ((st_ne (by decide)).trans ((st_ne (by decide)).trans ((st_ne (by decide)).trans ((st_ne (by decide)).trans h8)))))))))))))))))))))))))))))))))))))))) ((st_ne (by decide)).trans ((st_ne (by decide)).trans ((st_ne (by decide)).trans ((st_ne (by decide)).trans ((st_ne (by decide)).trans ((st_ne (by decide)).trans ((st_ne (by decide)).trans ((st_ne (by decide)).trans ((st_ne (by decide)).trans ((st_ne (by decide)).trans ((st_ne (by decide)).trans ((st_ne (by decide)).trans ((st_ne (by decide)).trans ((st_ne (by decide)).trans ((st_ne (by decide)).trans ((st_ne (by decide)).trans ((st_ne (by decide)).trans ((st_ne (by decide)).trans ((st_ne (by decide)).trans ((st_ne (by decide)).trans ((st_ne (by decide)).trans ((st_ne (by decide)).trans ((st_ne (by decide)).trans ((st_ne (by decide)).trans ((st_ne (by decide)).trans ((st_ne (by decide)).trans ((st_ne (by decide)).trans ((st_ne (by decide)).trans ((st_ne (by decide)).trans ((st_ne (by decide)).trans ((st_ne (by decide)).trans ((st_ne (by decide)).trans ((st_ne (by decide)).trans ((st_ne (by decide)).trans ((st_ne (by decide)).trans ((st_ne (by decide)).trans ((st_ne (by decide)).trans ((st_ne (by decide)).trans ((st_ne (by decide)).trans ((st_ne (by decide)).trans h9)))))))))))))))))))))))))))))))))))))))) ((st_ne (by decide)).trans ((st_ne (by decide)).trans ((st_ne (by decide)).trans ((st_ne (by decide)).trans ((st_ne (by decide)).trans ((st_ne (by decide)).trans ((st_ne (by decide)).trans ((st_ne (by decide)).trans ((st_ne (by decide)).trans ((st_ne (by decide)).trans ((st_ne (by decide)).trans ((st_ne (by decide)).trans ((st_ne (by decide)).trans ((st_ne (by decide)).trans ((st_ne (by decide)).trans ((st_ne (by decide)).trans ((st_ne (by decide)).trans ((st_ne (by decide)).trans ((st_ne (by decide)).trans ((st_ne (by decide)).trans ((st_ne (by decide)).trans ((st_ne (by decide)).trans ((st_ne (by decide)).trans ((st_ne (by decide)).trans ((st_ne (by decide)).trans ((st_ne (by decide)).trans ((st_ne (by decide)).trans ((st_ne (by decide)).trans ((st_ne (by decide)).trans ((st_ne (by decide)).trans ((st_ne (by decide)).trans ((st_ne (by decide)).trans ((st_ne (by decide)).trans ((st_ne (by decide)).trans ((st_ne (by decide)).trans ((st_ne (by decide)).trans ((st_ne (by decide)).trans ((st_ne (by decide)).trans ((st_ne (by decide)).trans ((st_ne (by decide)).trans h10)))))))))))))))))))))))))))))))))))))))) ((st_ne (by decide)).trans ((st_ne (by decide)).trans ((st_ne (by decide)).trans ((st_ne (by decide)).trans ((st_ne (by decide)).trans ((st_ne (by decide)).trans ((st_ne (by decide)).trans ((st_ne (by decide)).trans ((st_ne (by decide)).trans ((st_ne (by decide)).trans ((st_ne (by decide)).trans ((st_ne (by decide)).trans ((st_ne (by decide)).trans ((st_ne (by decide)).trans ((st_ne (by decide)).trans ((st_ne (by decide)).trans ((st_ne (by decide)).trans ((st_ne (by decide)).trans ((st_ne (by decide)).trans ((st_ne (by decide)).trans ((st_ne (by decide)).trans ((st_ne (by decide)).trans ((st_ne (by decide)).trans ((st_ne (by decide)).trans ((st_ne (by decide)).trans ((st_ne (by decide)).trans ((st_ne (by decide)).trans ((st_ne (by decide)).trans ((st_ne (by decide)).trans ((st_ne (by decide)).trans ((st_ne (by decide)).trans ((st_ne (by decide)).trans ((st_ne (by decide)).trans ((st_ne (by decide)).trans ((st_ne (by decide)).trans ((st_ne (by decide)).trans ((st_ne (by decide)).trans ((st_ne (by decide)).trans ((st_ne (by decide)).trans ((st_ne (by decide)).trans h11)))))))))))))))))))))))))))))))))))))))) ((st_ne (by decide)).trans ((st_ne (by decide)).trans ((st_ne (by decide)).trans ((st_ne (by decide)).trans ((st_ne (by decide)).trans ((st_ne (by decide)).trans ((st_ne (by decide)).trans ((st_ne (by decide)).trans ((st_ne (by decide)).trans ((st_ne (by decide)).trans ((st_ne (by decide)).trans ((st_ne (by decide)).trans ((st_ne (by decide)).trans ((st_ne (by decide)).trans ((st_ne (by decide)).trans ((st_ne (by decide)).trans ((st_ne (by decide)).trans ((st_ne (by decide)).trans ((st_ne (by decide)).trans ((st_ne (by decide)).trans ((st_ne (by decide)).trans ((st_ne (by decide)).trans ((st_ne (by decide)).trans ((st_ne (by decide)).trans ((st_ne (by decide)).trans ((st_ne (by decide)).trans ((st_ne (by decide)).trans ((st_ne (by decide)).trans ((st_ne (by decide)).trans ((st_ne (by decide)).trans ((st_ne (by decide)).trans ((st_ne (by decide)).trans ((st_ne (by decide)).trans ((st_ne (by decide)).trans ((st_ne (by decide)).trans ((st_ne (by decide)).trans ((st_ne (by decide)).trans ((st_ne (by decide)).trans ((st_ne (by decide)).trans ((st_ne (by decide)).trans h12)))))))))))))))))))))))))))))))))))))))) ((st_ne (by decide)).trans ((st_ne (by decide)).trans ((st_ne (by decide)).trans ((st_ne (by decide)).trans ((st_ne (by decide)).trans ((st_ne (by decide)).trans ((st_ne (by decide)).trans ((st_ne (by decide)).trans ((st_ne (by decide)).trans ((st_ne (by decide)).trans ((st_ne (by decide)).trans ((st_ne (by decide)).trans ((st_ne (by decide)).trans ((st_ne (by decide)).trans ((st_ne (by decide)).trans ((st_ne (by decide)).trans ((st_ne (by decide)).trans ((st_ne (by decide)).trans ((st_ne (by decide)).trans ((st_ne (by decide)).trans ((st_ne (by decide)).trans ((st_ne (by decide)).trans ((st_ne (by decide)).trans ((st_ne (by decide)).trans ((st_ne (by decide)).trans ((st_ne (by decide)).trans ((st_ne (by decide)).trans ((st_ne (by decide)).trans ((st_ne (by decide)).trans ((st_ne (by decide)).trans ((st_ne (by decide)).trans ((st_ne (by decide)).trans ((st_ne (by decide)).trans ((st_ne (by decide)).trans ((st_ne (by decide)).trans ((st_ne (by decide)).trans ((st_ne (by decide)).trans ((st_ne (by decide)).trans ((st_ne (by decide)).trans ((st_ne (by decide)).trans h13)))))))))))))))))))))))))))))))))))))))) ((st_ne (by decide)).trans ((st_ne (by decide)).trans ((st_ne (by decide)).trans ((st_ne (by decide)).trans ((st_ne (by decide)).trans ((st_ne (by decide)).trans ((st_ne (by decide)).trans ((st_ne (by decide)).trans ((st_ne (by decide)).trans ((st_ne (by decide)).trans ((st_ne (by decide)).trans ((st_ne (by decide)).trans ((st_ne (by decide)).trans ((st_ne (by decide)).trans ((st_ne (by decide)).trans ((st_ne (by decide)).trans ((st_ne (by decide)).trans ((st_ne (by decide)).trans ((st_ne (by decide)).trans ((st_ne (by decide)).trans ((st_ne (by decide)).trans ((st_ne (by decide)).trans ((st_ne (by decide)).trans ((st_ne (by decide)).trans ((st_ne (by decide)).trans ((st_ne (by decide)).trans ((st_ne (by decide)).trans ((st_ne (by decide)).trans ((st_ne (by decide)).trans ((st_ne (by decide)).trans ((st_ne (by decide)).trans ((st_ne (by decide)).trans ((st_ne (by decide)).trans ((st_ne (by decide)).trans ((st_ne (by decide)).trans ((st_ne (by decide)).trans ((st_ne (by decide)).trans ((st_ne (by decide)).trans ((st_ne (by decide)).trans ((st_ne (by decide)).trans h14)))))))))))))))))))))))))))))))))))))))) ((st_ne (by decide)).trans ((st_ne (by decide)).trans ((st_ne (by decide)).trans ((st_ne (by decide)).trans ((st_ne (by decide)).trans ((st_ne (by decide)).trans ((st_ne (by decide)).trans ((st_ne (by decide)).trans ((st_ne (by decide)).trans ((st_ne (by decide)).trans ((st_ne (by decide)).trans ((st_ne (by decide)).trans ((st_ne (by decide)).trans ((st_ne (by decide)).trans ((st_ne (by decide)).trans ((st_ne (by decide)).trans ((st_ne (by decide)).trans ((st_ne (by decide)).trans ((st_ne (by decide)).trans ((st_ne (by decide)).trans ((st_ne (by decide)).trans ((st_ne (by decide)).trans ((st_ne (by decide)).trans ((st_ne (by decide)).trans ((st_ne (by decide)).trans ((st_ne (by decide)).trans ((st_ne (by decide)).trans ((st_ne (by decide)).trans ((st_ne (by decide)).trans ((st_ne (by decide)).trans ((st_ne (by decide)).trans ((st_ne (by decide)).trans ((st_ne (by decide)).trans ((st_ne (by decide)).trans ((st_ne (by decide)).trans ((st_ne (by decide)).trans ((st_ne (by decide)).trans ((st_ne (by decide)).trans ((st_ne (by decide)).trans ((st_ne (by decide)).trans h15)))))))))))))))))))))))))))))))))))))))) ((st_ne (by decide)).trans ((st_ne (by decide)).trans ((st_ne (by decide)).trans ((st_ne (by decide)).trans ((st_ne (by decide)).trans ((st_ne (by decide)).trans ((st_ne (by decide)).trans ((st_ne (by decide)).trans ((st_ne (by decide)).trans ((st_ne (by decide)).trans ((st_ne (by decide)).trans ((st_ne (by decide)).trans ((st_ne (by decide)).trans ((st_ne (by decide)).trans ((st_ne (by decide)).trans ((st_ne (by decide)).trans ((st_ne (by decide)).trans ((st_ne (by decide)).trans ((st_ne (by decide)).trans ((st_ne (by decide)).trans ((st_ne (by decide)).trans ((st_ne (by decide)).trans ((st_ne (by decide)).trans ((st_ne (by decide)).trans ((st_ne (by decide)).trans ((st_ne (by decide)).trans ((st_ne (by decide)).trans ((st_ne (by decide)).trans ((st_ne (by decide)).trans ((st_ne (by decide)).trans ((st_ne (by decide)).trans ((st_ne (by decide)).trans ((st_ne (by decide)).trans ((st_ne (by decide)).trans ((st_ne (by decide)).trans ((st_ne (by decide)).trans ((st_ne (by decide)).trans ((st_ne (by decide)).trans ((st_ne (by decide)).trans ((st_ne (by decide)).trans h16)))))))))))))))))))))))))))))))))))))))) ((st_ne (by decide)).trans ((st_ne (by decide)).trans ((st_ne (by decide)).trans ((st_ne (by decide)).trans ((st_ne (by decide)).trans ((st_ne (by decide)).trans ((st_ne (by decide)).trans ((st_ne (by decide)).trans ((st_ne (by decide)).trans ((st_ne (by decide)).trans ((st_ne (by decide)).trans ((st_ne (by decide)).trans ((st_ne (by decide)).trans ((st_ne (by decide)).trans ((st_ne (by decide)).trans ((st_ne (by decide)).trans ((st_ne (by decide)).trans ((st_ne (by decide)).trans ((st_ne (by decide)).trans ((st_ne (by decide)).trans ((st_ne (by decide)).trans ((st_ne (by decide)).trans ((st_ne (by decide)).trans ((st_ne (by decide)).trans ((st_ne (by decide)).trans ((st_ne (by decide)).trans ((st_ne (by decide)).trans ((st_ne (by decide)).trans ((st_ne (by decide)).trans ((st_ne (by decide)).trans ((st_ne (by decide)).trans ((st_ne (by decide)).trans ((st_ne (by decide)).trans ((st_ne (by decide)).trans ((st_ne (by decide)).trans ((st_ne (by decide)).trans ((st_ne (by decide)).trans ((st_ne (by decide)).trans ((st_ne (by decide)).trans ((st_ne (by decide)).trans h17)))))))))))))))))))))))))))))))))))))))) ((st_ne (by decide)).trans ((st_ne (by decide)).trans ((st_ne (by decide)).trans ((st_ne (by decide)).trans ((st_ne (by decide)).trans ((st_ne (by decide)).trans ((st_ne (by decide)).trans ((st_ne (by decide)).trans ((st_ne (by decide)).trans ((st_ne (by decide)).trans ((st_ne (by decide)).trans ((st_ne (by decide)).trans ((st_ne (by decide)).trans ((st_ne (by decide)).trans ((st_ne (by decide)).trans ((st_ne (by decide)).trans ((st_ne (by decide)).trans ((st_ne (by decide)).trans ((st_ne (by decide)).trans ((st_ne (by decide)).trans ((st_ne (by decide)).trans ((st_ne (by decide)).trans ((st_ne (by decide)).trans ((st_ne (by decide)).trans ((st_ne (by decide)).trans ((st_ne (by decide)).trans ((st_ne (by decide)).trans ((st_ne (by decide)).trans ((st_ne (by decide)).trans ((st_ne (by decide)).trans ((st_ne (by decide)).trans ((st_ne (by decide)).trans ((st_ne (by decide)).trans ((st_ne (by decide)).trans ((st_ne (by decide)).trans ((st_ne (by decide)).trans ((st_ne (by decide)).trans ((st_ne (by decide)).trans ((st_ne (by decide)).trans ((st_ne (by decide)).trans h18)))))))))))))))))))))))))))))))))))))))) ((st_ne (by decide)).trans ((st_ne (by decide)).trans ((st_ne (by decide)).trans ((st_ne (by decide)).trans ((st_ne (by decide)).trans ((st_ne (by decide)).trans ((st_ne (by decide)).trans ((st_ne (by decide)).trans ((st_ne (by decide)).trans ((st_ne (by decide)).trans ((st_ne (by decide)).trans ((st_ne (by decide)).trans ((st_ne (by decide)).trans ((st_ne (by decide)).trans ((st_ne (by decide)).trans ((st_ne (by decide)).trans ((st_ne (by decide)).trans ((st_ne (by decide)).trans ((st_ne (by decide)).trans ((st_ne (by decide)).trans ((st_ne (by decide)).trans ((st_ne (by decide)).trans ((st_ne (by decide)).trans ((st_ne (by decide)).trans ((st_ne (by decide)).trans ((st_ne (by decide)).trans ((st_ne (by decide)).trans ((st_ne (by decide)).trans ((st_ne (by decide)).trans ((st_ne (by decide)).trans ((st_ne (by decide)).trans ((st_ne (by decide)).trans ((st_ne (by decide)).trans ((st_ne (by decide)).trans ((st_ne (by decide)).trans ((st_ne (by decide)).trans ((st_ne (by decide)).trans ((st_ne (by decide)).trans ((st_ne (by decide)).trans ((st_ne (by decide)).trans h19)))))))))))))))))))))))))))))))))))))))) ((st_ne (by decide)).trans ((st_ne (by decide)).trans ((st_ne (by decide)).trans ((st_ne (by decide)).trans ((st_ne (by decide)).trans ((st_ne (by decide)).trans ((st_ne (by decide)).trans ((st_ne (by decide)).trans ((st_ne (by decide)).trans ((st_ne (by decide)).trans ((st_ne (by decide)).trans ((st_ne (by decide)).trans ((st_ne (by decide)).trans ((st_ne (by decide)).trans ((st_ne (by decide)).trans ((st_ne (by decide)).trans ((st_ne (by decide)).trans ((st_ne (by decide)).trans ((st_ne (by decide)).trans ((st_ne (by decide)).trans ((st_ne (by decide)).trans ((st_ne (by decide)).trans ((st_ne (by decide)).trans ((st_ne (by decide)).trans ((st_ne (by decide)).trans ((st_ne (by decide)).trans ((st_ne (by decide)).trans ((st_ne (by decide)).trans ((st_ne (by decide)).trans ((st_ne (by decide)).trans ((st_ne (by decide)).trans ((st_ne (by decide)).trans ((st_ne (by decide)).trans ((st_ne (by decide)).trans ((st_ne (by decide)).trans ((st_ne (by decide)).trans ((st_ne (by decide)).trans ((st_ne (by decide)).trans ((st_ne (by decide)).trans ((st_ne (by decide)).trans h20)))))))))))))))))))))))))))))))))))))))) ((st_ne (by decide)).trans ((st_ne (by decide)).trans ((st_ne (by decide)).trans ((st_ne (by decide)).trans ((st_ne (by decide)).trans ((st_ne (by decide)).trans ((st_ne (by decide)).trans ((st_ne (by decide)).trans ((st_ne (by decide)).trans ((st_ne (by decide)).trans ((st_ne (by decide)).trans ((st_ne (by decide)).trans ((st_ne (by decide)).trans ((st_ne (by decide)).trans ((st_ne (by decide)).trans ((st_ne (by decide)).trans ((st_ne (by decide)).trans ((st_ne (by decide)).trans ((st_ne (by decide)).trans ((st_ne (by decide)).trans ((st_ne (by decide)).trans ((st_ne (by decide)).trans ((st_ne (by decide)).trans ((st_ne (by decide)).trans ((st_ne (by decide)).trans ((st_ne (by decide)).trans ((st_ne (by decide)).trans ((st_ne (by decide)).trans ((st_ne (by decide)).trans ((st_ne (by decide)).trans ((st_ne (by decide)).trans ((st_ne (by decide)).trans ((st_ne (by decide)).trans ((st_ne (by decide)).trans ((st_ne (by decide)).trans ((st_ne (by decide)).trans ((st_ne (by decide)).trans ((st_ne (by decide)).trans ((st_ne (by decide)).trans ((st_ne (by decide)).trans h21)))))))))))))))))))))))))))))))))))))))) ((st_ne (by decide)).trans ((st_ne (by decide)).trans ((st_ne (by decide)).trans ((st_ne (by decide)).trans ((st_ne (by decide)).trans ((st_ne (by decide)).trans ((st_ne (by decide)).trans ((st_ne (by decide)).trans ((st_ne (by decide)).trans ((st_ne (by decide)).trans ((st_ne (by decide)).trans ((st_ne (by decide)).trans ((st_ne (by decide)).trans ((st_ne (by decide)).trans ((st_ne (by decide)).trans ((st_ne (by decide)).trans ((st_ne (by decide)).trans ((st_ne (by decide)).trans ((st_ne (by decide)).trans ((st_ne (by decide)).trans ((st_ne (by decide)).trans ((st_ne (by decide)).trans ((st_ne (by decide)).trans ((st_ne (by decide)).trans ((st_ne (by decide)).trans ((st_ne (by decide)).trans ((st_ne (by decide)).trans ((st_ne (by decide)).trans ((st_ne (by decide)).trans ((st_ne (by decide)).trans ((st_ne (by decide)).trans ((st_ne (by decide)).trans ((st_ne (by decide)).trans ((st_ne (by decide)).trans ((st_ne (by decide)).trans ((st_ne (by decide)).trans ((st_ne (by decide)).trans ((st_ne (by decide)).trans ((st_ne (by decide)).trans ((st_ne (by decide)).trans h22)))))))))))))))))))))))))))))))))))))))) ((st_ne (by decide)).trans ((st_ne (by decide)).trans ((st_ne (by decide)).trans ((st_ne (by decide)).trans ((st_ne (by decide)).trans ((st_ne (by decide)).trans ((st_ne (by decide)).trans ((st_ne (by decide)).trans ((st_ne (by decide)).trans ((st_ne (by decide)).trans ((st_ne (by decide)).trans ((st_ne (by decide)).trans ((st_ne (by decide)).trans ((st_ne (by decide)).trans ((st_ne (by decide)).trans ((st_ne (by decide)).trans ((st_ne (by decide)).trans ((st_ne (by decide)).trans ((st_ne (by decide)).trans ((st_ne (by decide)).trans ((st_ne (by decide)).trans ((st_ne (by decide)).trans ((st_ne (by decide)).trans ((st_ne (by decide)).trans ((st_ne (by decide)).trans ((st_ne (by decide)).trans ((st_ne (by decide)).trans ((st_ne (by decide)).trans ((st_ne (by decide)).trans ((st_ne (by decide)).trans ((st_ne (by decide)).trans ((st_ne (by decide)).trans ((st_ne (by decide)).trans ((st_ne (by decide)).trans ((st_ne (by decide)).trans ((st_ne (by decide)).trans ((st_ne (by decide)).trans ((st_ne (by decide)).trans ((st_ne (by decide)).trans ((st_ne (by decide)).trans h23)))))))))))))))))))))))))))))))))))))))) ((st_ne (by decide)).trans ((st_ne (by decide)).trans ((st_ne (by decide)).trans ((st_ne (by decide)).trans ((st_ne (by decide)).trans ((st_ne (by decide)).trans ((st_ne (by decide)).trans ((st_ne (by decide)).trans ((st_ne (by decide)).trans ((st_ne (by decide)).trans ((st_ne (by decide)).trans ((st_ne (by decide)).trans ((st_ne (by decide)).trans ((st_ne (by decide)).trans ((st_ne (by decide)).trans ((st_ne (by decide)).trans ((st_ne (by decide)).trans ((st_ne (by decide)).trans ((st_ne (by decide)).trans ((st_ne (by decide)).trans ((st_ne (by decide)).trans ((st_ne (by decide)).trans ((st_ne (by decide)).trans ((st_ne (by decide)).trans ((st_ne (by decide)).trans ((st_ne (by decide)).trans ((st_ne (by decide)).trans ((st_ne (by decide)).trans ((st_ne (by decide)).trans ((st_ne (by decide)).trans ((st_ne (by decide)).trans ((st_ne (by decide)).trans ((st_ne (by decide)).trans ((st_ne (by decide)).trans ((st_ne (by decide)).trans ((st_ne (by decide)).trans ((st_ne (by decide)).trans ((st_ne (by decide)).trans ((st_ne (by decide)).trans ((st_ne (by decide)).trans h24)))))))))))))))))))))))))))))))))))))))) ((st_ne (by decide)).trans ((st_ne (by decide)).trans ((st_ne (by decide)).trans ((st_ne (by decide)).trans ((st_ne (by decide)).trans ((st_ne (by decide)).trans ((st_ne (by decide)).trans ((st_ne (by decide)).trans ((st_ne (by decide)).trans ((st_ne (by decide)).trans ((st_ne (by decide)).trans ((st_ne (by decide)).trans ((st_ne (by decide)).trans ((st_ne (by decide)).trans ((st_ne (by decide)).trans ((st_ne (by decide)).trans ((st_ne (by decide)).trans ((st_ne (by decide)).trans ((st_ne (by decide)).trans ((st_ne (by decide)).trans ((st_ne (by decide)).trans ((st_ne (by decide)).trans ((st_ne (by decide)).trans ((st_ne (by decide)).trans ((st_ne (by decide)).trans ((st_ne (by decide)).trans ((st_ne (by decide)).trans ((st_ne (by decide)).trans ((st_ne (by decide)).trans ((st_ne (by decide)).trans ((st_ne (by decide)).trans ((st_ne (by decide)).trans ((st_ne (by decide)).trans ((st_ne (by decide)).trans ((st_ne (by decide)).trans ((st_ne (by decide)).trans ((st_ne (by decide)).trans ((st_ne (by decide)).trans ((st_ne (by decide)).trans ((st_ne (by decide)).trans h25)))))))))))))))))))))))))))))))))))))))) ((st_ne (by decide)).trans ((st_ne (by decide)).trans ((st_ne (by decide)).trans ((st_ne (by decide)).trans ((st_ne (by decide)).trans ((st_ne (by decide)).trans ((st_ne (by decide)).trans ((st_ne (by decide)).trans ((st_ne (by decide)).trans ((st_ne (by decide)).trans ((st_ne (by decide)).trans ((st_ne (by decide)).trans ((st_ne (by decide)).trans ((st_ne (by decide)).trans ((st_ne (by decide)).trans ((st_ne (by decide)).trans ((st_ne (by decide)).trans ((st_ne (by decide)).trans ((st_ne (by decide)).trans ((st_ne (by decide)).trans ((st_ne (by decide)).trans ((st_ne (by decide)).trans ((st_ne (by decide)).trans ((st_ne (by decide)).trans ((st_ne (by decide)).trans ((st_ne (by decide)).trans ((st_ne (by decide)).trans ((st_ne (by decide)).trans ((st_ne (by decide)).trans ((st_ne (by decide)).trans ((st_ne (by decide)).trans ((st_ne (by decide)).trans ((st_ne (by decide)).trans ((st_ne (by decide)).trans ((st_ne (by decide)).trans ((st_ne (by decide)).trans ((st_ne (by decide)).trans ((st_ne (by decide)).trans ((st_ne (by decide)).trans ((st_ne (by decide)).trans h26)))))))))))))))))))))))))))))))))))))))) ((st_ne (by decide)).trans ((st_ne (by decide)).trans ((st_ne (by decide)).trans ((st_ne (by decide)).trans ((st_ne (by decide)).trans ((st_ne (by decide)).trans ((st_ne (by decide)).trans ((st_ne (by decide)).trans ((st_ne (by decide)).trans ((st_ne (by decide)).trans ((st_ne (by decide)).trans ((st_ne (by decide)).trans ((st_ne (by decide)).trans ((st_ne (by decide)).trans ((st_ne (by decide)).trans ((st_ne (by decide)).trans ((st_ne (by decide)).trans ((st_ne (by decide)).trans ((st_ne (by decide)).trans ((st_ne (by decide)).trans ((st_ne (by decide)).trans ((st_ne (by decide)).trans ((st_ne (by decide)).trans ((st_ne (by decide)).trans ((st_ne (by decide)).trans ((st_ne (by decide)).trans ((st_ne (by decide)).trans ((st_ne (by decide)).trans ((st_ne (by decide)).trans ((st_ne (by decide)).trans ((st_ne (by decide)).trans ((st_ne (by decide)).trans ((st_ne (by decide)).trans ((st_ne (by decide)).trans ((st_ne (by decide)).trans ((st_ne (by decide)).trans ((st_ne (by decide)).trans ((st_ne (by decide)).trans ((st_ne (by decide)).trans ((st_ne (by decide)).trans h27)))))))))))))))))))))))))))))))))))))))) ((st_ne (by decide)).trans ((st_ne (by decide)).trans ((st_ne (by decide)).trans ((st_ne (by decide)).trans ((st_ne (by decide)).trans ((st_ne (by decide)).trans ((st_ne (by decide)).trans ((st_ne (by decide)).trans ((st_ne (by decide)).trans ((st_ne (by decide)).trans ((st_ne (by decide)).trans ((st_ne (by decide)).trans ((st_ne (by decide)).trans ((st_ne (by decide)).trans ((st_ne (by decide)).trans ((st_ne (by decide)).trans ((st_ne (by decide)).trans ((st_ne (by decide)).trans ((st_ne (by decide)).trans ((st_ne (by decide)).trans ((st_ne (by decide)).trans ((st_ne (by decide)).trans ((st_ne (by decide)).trans ((st_ne (by decide)).trans ((st_ne (by decide)).trans ((st_ne (by decide)).trans ((st_ne (by decide)).trans ((st_ne (by decide)).trans ((st_ne (by decide)).trans ((st_ne (by decide)).trans ((st_ne (by decide)).trans ((st_ne (by decide)).trans ((st_ne (by decide)).trans ((st_ne (by decide)).trans ((st_ne (by decide)).trans ((st_ne (by decide)).trans ((st_ne (by decide)).trans ((st_ne (by decide)).trans ((st_ne (by decide)).trans ((st_ne (by decide)).trans h28)))))))))))))))))))))))))))))))))))))))) ((st_ne (by decide)).trans ((st_ne (by decide)).trans ((st_ne (by decide)).trans ((st_ne (by decide)).trans ((st_ne (by decide)).trans ((st_ne (by decide)).trans ((st_ne (by decide)).trans ((st_ne (by decide)).trans ((st_ne (by decide)).trans ((st_ne (by decide)).trans ((st_ne (by decide)).trans ((st_ne (by decide)).trans ((st_ne (by decide)).trans ((st_ne (by decide)).trans ((st_ne (by decide)).trans ((st_ne (by decide)).trans ((st_ne (by decide)).trans ((st_ne (by decide)).trans ((st_ne (by decide)).trans ((st_ne (by decide)).trans ((st_ne (by decide)).trans ((st_ne (by decide)).trans ((st_ne (by decide)).trans ((st_ne (by decide)).trans ((st_ne (by decide)).trans ((st_ne (by decide)).trans ((st_ne (by decide)).trans ((st_ne (by decide)).trans ((st_ne (by decide)).trans ((st_ne (by decide)).trans ((st_ne (by decide)).trans ((st_ne (by decide)).trans ((st_ne (by decide)).trans ((st_ne (by decide)).trans ((st_ne (by decide)).trans ((st_ne (by decide)).trans ((st_ne (by decide)).trans ((st_ne (by decide)).trans ((st_ne (by decide)).trans ((st_ne (by decide)).trans h29)))))))))))))))))))))))))))))))))))))))))
set_option maxRecDepth 8000 in
theorem c_X12_sourcesBy_467 {l : Launch} {D : va_G} {B : Nat} {cy : Nat → ClassId} {M : Mem} (h0 : M.1 146 5 = 0) (h1 : M.1 147 0 = 0) (h2 : M.1 148 0 = 0) (h3 : M.1 147 1 = 0) (h4 : M.1 148 1 = 0) (h5 : M.1 147 2 = 0) (h6 : M.1 148 2 = 0) (h7 : M.1 147 3 = 0) (h8 : M.1 148 3 = 0) (h9 : M.1 147 4 = 0) (h10 : M.1 148 4 = 0) (h11 : M.1 147 5 = 0) (h12 : M.1 148 5 = 0) (h13 : M.1 147 6 = 0) (h14 : M.1 148 6 = 0) (h15 : M.1 147 7 = 0) (h16 : M.1 148 7 = 0) (h17 : M.1 147 8 = 0) (h18 : M.1 148 8 = 0) (h19 : M.1 147 9 = 0) (h20 : M.1 148 9 = 0) (h21 : M.1 147 10 = 0) (h22 : M.1 148 10 = 0) (h23 : M.1 147 11 = 0) (h24 : M.1 148 11 = 0) (h25 : M.1 147 12 = 0) (h26 : M.1 148 12 = 0) (h27 : M.1 147 13 = 0) (h28 : M.1 148 13 = 0) (h29 : M.1 147 14 = 0) (h30 : M.1 148 14 = 0) (h31 : M.1 147 15 = 0) (h32 : M.1 148 15 = 0) (h33 : M.1 147 16 = 0) (h34 : M.1 148 16 = 0) (h35 : M.1 147 17 = 0) (h36 : M.1 148 17 = 0) (h37 : M.1 147 18 = 0) (h38 : M.1 148 18 = 0) (h39 : M.1 147 19 = 0) (h40 : M.1 148 19 = 0) (h41 : M.1 147 20 = 0) (h42 : M.1 148 20 = 0) (h43 : M.1 147 21 = 0) (h44 : M.1 148 21 = 0) (h45 : M.1 147 22 = 0) (h46 : M.1 148 22 = 0) (h47 : M.1 147 23 = 0) (h48 : M.1 148 23 = 0) (h49 : M.1 147 24 = 0) (h50 : M.1 148 24 = 0) (h51 : M.1 147 25 = 0) (h52 : M.1 148 25 = 0) (h53 : M.1 147 26 = 0) (h54 : M.1 148 26 = 0) (h55 : M.1 147 27 = 0) (h56 : M.1 148 27 = 0) (h57 : M.1 157 0 = 0) (h58 : M.1 157 1 = 0) (h59 : M.1 157 2 = 0) (h60 : M.1 157 3 = 0) (h61 : M.1 157 4 = 0) (h62 : M.1 157 5 = 0) (h63 : M.1 157 6 = 0) (h64 : M.1 157 7 = 0) (h65 : M.1 157 8 = 0) (h66 : M.1 157 9 = 0) (h67 : M.1 157 10 = 0) (h68 : M.1 157 11 = 0) (h69 : M.1 146 26 = 0) : Ci l D B cy yX12_sourcesBy cX12_sourcesBy 7 (some .int) 3 66 [.ref (B + 146), .int 6] M (fun r M1 => r = 729 ∧ M1.1 146 26 = 0) := by
  refine s_any (by decide) (Nat.le_of_ble_eq_true rfl) ?_
  intro p e s m below meth c ls F hr hlocks w hl
  have F : CallFix p m c cX12_sourcesBy 7 s _ TB RX12 := F
  have hx := F.1
  have hb := F.2.1
  have hl : lv_has ls 7 [(0, .ref (B + 146)), (1, .int 6)] := hl
  refine lv_aload_n hx hb dX12_sourcesBy_0 rfl (lv_at hl 0 rfl) ?_
  refine x_Vv F w (As := []) (rest := []) (a := 146) (by decide) (sh_12 rfl _ _) rfl (c_X12_laysDue_340 (h0) (h1) (h2) (h3) (h4) (h5) (h6) (h7) (h8) (h9) (h10) (h11) (h12) (h13) (h14) (h15) (h16) (h17) (h18) (h19) (h20) (h21) (h22) (h23) (h24) (h25) (h26) (h27) (h28) (h29) (h30) (h31) (h32) (h33) (h34) (h35) (h36) (h37) (h38) (h39) (h40) (h41) (h42) (h43) (h44) (h45) (h46) (h47) (h48) (h49) (h50) (h51) (h52) (h53) (h54) (h55) (h56) (h57) (h58) (h59) (h60) (h61) (h62) (h63) (h64) (h65) (h66) (h67) (h68)) gv_X12_303 hv_X12_laysDue ⟨Nat.le_of_ble_eq_true rfl, Nat.le_of_ble_eq_true rfl⟩ hl.1 rfl (Nat.le_of_ble_eq_true rfl) ⟨Nat.zero_le _, Nat.zero_le _⟩ dX12_sourcesBy_1 (fun H locs w => ?_)
  refine lv_aload_n hx hb dX12_sourcesBy_4 rfl (lv_at hl 0 rfl) ?_
  refine lv_bipush (v := (-2)) hx hb dX12_sourcesBy_5 (by decide) ?_
  refine u_12_26 F w (a := 146) rfl tb_567 dX12_sourcesBy_7 (fun H locs w => ?_)
  refine lv_iconst (v := 1) hx hb dX12_sourcesBy_10 (by decide) ?_
  refine lv_istore_n (lv' := [(2, .int 1), (0, .ref (B + 146)), (1, .int 6)]) hx hb dX12_sourcesBy_11 rfl hl (by decide) rfl (fun ls hl => ?_)
  refine lv_iconst (v := 0) hx hb dX12_sourcesBy_12 (by decide) ?_
  refine lv_istore_n (lv' := [(3, .int 0), (2, .int 1), (0, .ref (B + 146)), (1, .int 6)]) hx hb dX12_sourcesBy_13 rfl hl (by decide) rfl (fun ls hl => ?_)
  refine lv_iload_n hx hb dX12_sourcesBy_14 rfl (lv_at hl 0 rfl) ?_
  refine lv_iload_n hx hb dX12_sourcesBy_15 rfl (lv_at hl 3 rfl) ?_
  refine lv_icmp_ge (tgt := 29) hx hb dX12_sourcesBy_16 (by decide) (fun c1 => absurd c1 (by decide)) (fun _ => ?_)
  refine lv_iload_n hx hb dX12_sourcesBy_19 rfl (lv_at hl 1 rfl) ?_
  refine lv_iconst (v := 3) hx hb dX12_sourcesBy_20 (by decide) ?_
  refine lv_imul hx hb dX12_sourcesBy_21 ?_
  refine r_val (v := 3) (by decide) ?_
  refine lv_istore_n (lv' := [(2, .int 3), (3, .int 0), (0, .ref (B + 146)), (1, .int 6)]) hx hb dX12_sourcesBy_22 rfl hl (by decide) rfl (fun ls hl => ?_)
  refine lv_iinc (v := 1) (lv' := [(3, .int 1), (2, .int 3), (0, .ref (B + 146)), (1, .int 6)]) hx hb dX12_sourcesBy_23 hl (k := 1) rfl (by decide) (by decide) rfl (fun ls hl => ?_)
  refine lv_goto (tgt := 14) hx hb dX12_sourcesBy_26 (by decide) ?_
  refine lv_iload_n hx hb dX12_sourcesBy_14 rfl (lv_at hl 0 rfl) ?_
  refine lv_iload_n hx hb dX12_sourcesBy_15 rfl (lv_at hl 3 rfl) ?_
  refine lv_icmp_ge (tgt := 29) hx hb dX12_sourcesBy_16 (by decide) (fun c1 => absurd c1 (by decide)) (fun _ => ?_)
  refine lv_iload_n hx hb dX12_sourcesBy_19 rfl (lv_at hl 1 rfl) ?_
  refine lv_iconst (v := 3) hx hb dX12_sourcesBy_20 (by decide) ?_
  refine lv_imul hx hb dX12_sourcesBy_21 ?_
  refine r_val (v := 9) (by decide) ?_
  refine lv_istore_n (lv' := [(2, .int 9), (3, .int 1), (0, .ref (B + 146)), (1, .int 6)]) hx hb dX12_sourcesBy_22 rfl hl (by decide) rfl (fun ls hl => ?_)
  refine lv_iinc (v := 2) (lv' := [(3, .int 2), (2, .int 9), (0, .ref (B + 146)), (1, .int 6)]) hx hb dX12_sourcesBy_23 hl (k := 1) rfl (by decide) (by decide) rfl (fun ls hl => ?_)
  refine lv_goto (tgt := 14) hx hb dX12_sourcesBy_26 (by decide) ?_
  refine lv_iload_n hx hb dX12_sourcesBy_14 rfl (lv_at hl 0 rfl) ?_
  refine lv_iload_n hx hb dX12_sourcesBy_15 rfl (lv_at hl 3 rfl) ?_
  refine lv_icmp_ge (tgt := 29) hx hb dX12_sourcesBy_16 (by decide) (fun c1 => absurd c1 (by decide)) (fun _ => ?_)
  refine lv_iload_n hx hb dX12_sourcesBy_19 rfl (lv_at hl 1 rfl) ?_
  refine lv_iconst (v := 3) hx hb dX12_sourcesBy_20 (by decide) ?_
  refine lv_imul hx hb dX12_sourcesBy_21 ?_
  refine r_val (v := 27) (by decide) ?_
  refine lv_istore_n (lv' := [(2, .int 27), (3, .int 2), (0, .ref (B + 146)), (1, .int 6)]) hx hb dX12_sourcesBy_22 rfl hl (by decide) rfl (fun ls hl => ?_)
  refine lv_iinc (v := 3) (lv' := [(3, .int 3), (2, .int 27), (0, .ref (B + 146)), (1, .int 6)]) hx hb dX12_sourcesBy_23 hl (k := 1) rfl (by decide) (by decide) rfl (fun ls hl => ?_)
  refine lv_goto (tgt := 14) hx hb dX12_sourcesBy_26 (by decide) ?_
  refine lv_iload_n hx hb dX12_sourcesBy_14 rfl (lv_at hl 0 rfl) ?_
  refine lv_iload_n hx hb dX12_sourcesBy_15 rfl (lv_at hl 3 rfl) ?_
  refine lv_icmp_ge (tgt := 29) hx hb dX12_sourcesBy_16 (by decide) (fun c1 => absurd c1 (by decide)) (fun _ => ?_)
  refine lv_iload_n hx hb dX12_sourcesBy_19 rfl (lv_at hl 1 rfl) ?_
  refine lv_iconst (v := 3) hx hb dX12_sourcesBy_20 (by decide) ?_
  refine lv_imul hx hb dX12_sourcesBy_21 ?_
  refine r_val (v := 81) (by decide) ?_
  refine lv_istore_n (lv' := [(2, .int 81), (3, .int 3), (0, .ref (B + 146)), (1, .int 6)]) hx hb dX12_sourcesBy_22 rfl hl (by decide) rfl (fun ls hl => ?_)
  refine lv_iinc (v := 4) (lv' := [(3, .int 4), (2, .int 81), (0, .ref (B + 146)), (1, .int 6)]) hx hb dX12_sourcesBy_23 hl (k := 1) rfl (by decide) (by decide) rfl (fun ls hl => ?_)
  refine lv_goto (tgt := 14) hx hb dX12_sourcesBy_26 (by decide) ?_
  refine lv_iload_n hx hb dX12_sourcesBy_14 rfl (lv_at hl 0 rfl) ?_
  refine lv_iload_n hx hb dX12_sourcesBy_15 rfl (lv_at hl 3 rfl) ?_
  refine lv_icmp_ge (tgt := 29) hx hb dX12_sourcesBy_16 (by decide) (fun c1 => absurd c1 (by decide)) (fun _ => ?_)
  refine lv_iload_n hx hb dX12_sourcesBy_19 rfl (lv_at hl 1 rfl) ?_
  refine lv_iconst (v := 3) hx hb dX12_sourcesBy_20 (by decide) ?_
  refine lv_imul hx hb dX12_sourcesBy_21 ?_
  refine r_val (v := 243) (by decide) ?_
  refine lv_istore_n (lv' := [(2, .int 243), (3, .int 4), (0, .ref (B + 146)), (1, .int 6)]) hx hb dX12_sourcesBy_22 rfl hl (by decide) rfl (fun ls hl => ?_)
  refine lv_iinc (v := 5) (lv' := [(3, .int 5), (2, .int 243), (0, .ref (B + 146)), (1, .int 6)]) hx hb dX12_sourcesBy_23 hl (k := 1) rfl (by decide) (by decide) rfl (fun ls hl => ?_)
  refine lv_goto (tgt := 14) hx hb dX12_sourcesBy_26 (by decide) ?_
  refine lv_iload_n hx hb dX12_sourcesBy_14 rfl (lv_at hl 0 rfl) ?_
  refine lv_iload_n hx hb dX12_sourcesBy_15 rfl (lv_at hl 3 rfl) ?_
  refine lv_icmp_ge (tgt := 29) hx hb dX12_sourcesBy_16 (by decide) (fun c1 => absurd c1 (by decide)) (fun _ => ?_)
  refine lv_iload_n hx hb dX12_sourcesBy_19 rfl (lv_at hl 1 rfl) ?_
  refine lv_iconst (v := 3) hx hb dX12_sourcesBy_20 (by decide) ?_
  refine lv_imul hx hb dX12_sourcesBy_21 ?_
  refine r_val (v := 729) (by decide) ?_
  refine lv_istore_n (lv' := [(2, .int 729), (3, .int 5), (0, .ref (B + 146)), (1, .int 6)]) hx hb dX12_sourcesBy_22 rfl hl (by decide) rfl (fun ls hl => ?_)
  refine lv_iinc (v := 6) (lv' := [(3, .int 6), (2, .int 729), (0, .ref (B + 146)), (1, .int 6)]) hx hb dX12_sourcesBy_23 hl (k := 1) rfl (by decide) (by decide) rfl (fun ls hl => ?_)
  refine lv_goto (tgt := 14) hx hb dX12_sourcesBy_26 (by decide) ?_
  refine lv_iload_n hx hb dX12_sourcesBy_14 rfl (lv_at hl 0 rfl) ?_
  refine lv_iload_n hx hb dX12_sourcesBy_15 rfl (lv_at hl 3 rfl) ?_
  refine lv_icmp_ge (tgt := 29) hx hb dX12_sourcesBy_16 (by decide) (fun _ => ?_) (fun c1 => absurd c1 (by decide))
  refine lv_iconst (v := 0) hx hb dX12_sourcesBy_29 (by decide) ?_
  refine lv_istore_n (lv' := [(3, .int 0), (2, .int 729), (0, .ref (B + 146)), (1, .int 6)]) hx hb dX12_sourcesBy_30 rfl hl (by decide) rfl (fun ls hl => ?_)
  refine lv_iconst (v := 0) hx hb dX12_sourcesBy_31 (by decide) ?_
  refine lv_istore (lv' := [(4, .int 0), (3, .int 0), (2, .int 729), (0, .ref (B + 146)), (1, .int 6)]) hx hb dX12_sourcesBy_32 hl (by decide) rfl (fun ls hl => ?_)
  refine lv_iload hx hb dX12_sourcesBy_34 (lv_at hl 0 rfl) ?_
  refine lv_iload_n hx hb dX12_sourcesBy_36 rfl (lv_at hl 2 rfl) ?_
  refine lv_icmp_ge (tgt := 152) hx hb dX12_sourcesBy_37 (by decide) (fun c1 => absurd c1 (by decide)) (fun _ => ?_)
  refine lv_aload_n hx hb dX12_sourcesBy_40 rfl (lv_at hl 3 rfl) ?_
  refine f_12_2 F w (a := 146) rfl tb_127 dX12_sourcesBy_41 ?_
  refine lv_aload_n hx hb dX12_sourcesBy_44 rfl (lv_at hl 3 rfl) ?_
  refine f_12_1 F w (a := 146) rfl tb_126 dX12_sourcesBy_45 ?_
  refine x_Sv F w (As := [.ref (B + 148), .ref (B + 147)]) (rest := []) (c_X12_copy_211 ((st_ne (by decide)).trans h1) ((st_ne (by decide)).trans h2) ((st_ne (by decide)).trans h3) ((st_ne (by decide)).trans h4) ((st_ne (by decide)).trans h5) ((st_ne (by decide)).trans h6) ((st_ne (by decide)).trans h7) ((st_ne (by decide)).trans h8) ((st_ne (by decide)).trans h9) ((st_ne (by decide)).trans h10) ((st_ne (by decide)).trans h11) ((st_ne (by decide)).trans h12) ((st_ne (by decide)).trans h13) ((st_ne (by decide)).trans h14) ((st_ne (by decide)).trans h15) ((st_ne (by decide)).trans h16) ((st_ne (by decide)).trans h17) ((st_ne (by decide)).trans h18) ((st_ne (by decide)).trans h19) ((st_ne (by decide)).trans h20) ((st_ne (by decide)).trans h21) ((st_ne (by decide)).trans h22) ((st_ne (by decide)).trans h23) ((st_ne (by decide)).trans h24) ((st_ne (by decide)).trans h25) ((st_ne (by decide)).trans h26) ((st_ne (by decide)).trans h27) ((st_ne (by decide)).trans h28) ((st_ne (by decide)).trans h29) ((st_ne (by decide)).trans h30) ((st_ne (by decide)).trans h31) ((st_ne (by decide)).trans h32) ((st_ne (by decide)).trans h33) ((st_ne (by decide)).trans h34) ((st_ne (by decide)).trans h35) ((st_ne (by decide)).trans h36) ((st_ne (by decide)).trans h37) ((st_ne (by decide)).trans h38) ((st_ne (by decide)).trans h39) ((st_ne (by decide)).trans h40) ((st_ne (by decide)).trans h41) ((st_ne (by decide)).trans h42) ((st_ne (by decide)).trans h43) ((st_ne (by decide)).trans h44) ((st_ne (by decide)).trans h45) ((st_ne (by decide)).trans h46) ((st_ne (by decide)).trans h47) ((st_ne (by decide)).trans h48) ((st_ne (by decide)).trans h49) ((st_ne (by decide)).trans h50) ((st_ne (by decide)).trans h51) ((st_ne (by decide)).trans h52) ((st_ne (by decide)).trans h53) ((st_ne (by decide)).trans h54) ((st_ne (by decide)).trans h55) ((st_ne (by decide)).trans h56)) gs_X12_162 hs_X12_copy ⟨Nat.le_of_ble_eq_true rfl, Nat.le_of_ble_eq_true rfl⟩ hl.1 rfl (Nat.le_of_ble_eq_true rfl) ⟨Nat.zero_le _, Nat.zero_le _⟩ dX12_sourcesBy_48 (fun H locs w => ?_)
  refine lv_aload_n hx hb dX12_sourcesBy_51 rfl (lv_at hl 3 rfl) ?_
  refine f_12_2 F w (a := 146) rfl tb_127 dX12_sourcesBy_52 ?_
  refine lv_iconst (v := 0) hx hb dX12_sourcesBy_55 (by decide) ?_
  refine lv_iconst (v := 0) hx hb dX12_sourcesBy_56 (by decide) ?_
  refine g_iast F w (a := 148) rfl (j := 0) ⟨by decide, by decide⟩ (by decide) dX12_sourcesBy_57 (fun H locs w => ?_)
  rw [st_same ((st_ne (by decide)).trans h2)] at w
  refine lv_iload_n hx hb dX12_sourcesBy_58 rfl (lv_at hl 2 rfl) ?_
  refine lv_istore (lv' := [(5, .int 729), (4, .int 0), (3, .int 0), (2, .int 729), (0, .ref (B + 146)), (1, .int 6)]) hx hb dX12_sourcesBy_59 hl (by decide) rfl (fun ls hl => ?_)
  refine lv_iconst (v := 0) hx hb dX12_sourcesBy_61 (by decide) ?_
  refine lv_istore (lv' := [(6, .int 0), (5, .int 729), (4, .int 0), (3, .int 0), (2, .int 729), (0, .ref (B + 146)), (1, .int 6)]) hx hb dX12_sourcesBy_62 hl (by decide) rfl (fun ls hl => ?_)
  refine lv_iload hx hb dX12_sourcesBy_64 (lv_at hl 0 rfl) ?_
  refine lv_iload_n hx hb dX12_sourcesBy_66 rfl (lv_at hl 6 rfl) ?_
  refine lv_icmp_ge (tgt := 98) hx hb dX12_sourcesBy_67 (by decide) (fun c1 => absurd c1 (by decide)) (fun _ => ?_)
  refine lv_iload hx hb dX12_sourcesBy_70 (lv_at hl 1 rfl) ?_
  refine lv_iconst (v := 3) hx hb dX12_sourcesBy_72 (by decide) ?_
  refine lv_idiv hx hb dX12_sourcesBy_73 (by decide) ?_
  refine r_val (v := 243) (by decide) ?_
  refine lv_istore (lv' := [(5, .int 243), (6, .int 0), (4, .int 0), (3, .int 0), (2, .int 729), (0, .ref (B + 146)), (1, .int 6)]) hx hb dX12_sourcesBy_74 hl (by decide) rfl (fun ls hl => ?_)
  refine lv_aload_n hx hb dX12_sourcesBy_76 rfl (lv_at hl 5 rfl) ?_
  refine f_12_2 F w (a := 146) rfl tb_127 dX12_sourcesBy_77 ?_
  refine lv_iload hx hb dX12_sourcesBy_80 (lv_at hl 1 rfl) ?_
  refine lv_iload hx hb dX12_sourcesBy_82 (lv_at hl 2 rfl) ?_
  refine lv_iload hx hb dX12_sourcesBy_84 (lv_at hl 0 rfl) ?_
  refine lv_idiv hx hb dX12_sourcesBy_86 (by decide) ?_
  refine r_val (v := 0) (by decide) ?_
  refine lv_iconst (v := 3) hx hb dX12_sourcesBy_87 (by decide) ?_
  refine lv_irem hx hb dX12_sourcesBy_88 (by decide) ?_
  refine r_val (v := 0) (by decide) ?_
  refine x_Sv F w (As := [.ref (B + 148), .int 0, .int 0]) (rest := []) (c_X12_insert_389 ((st_ne (by decide)).trans h2) ((st_ne (by decide)).trans h4) ((st_ne (by decide)).trans h28)) gs_X12_112 hs_X12_insert ⟨Nat.le_of_ble_eq_true rfl, Nat.le_of_ble_eq_true rfl⟩ hl.1 rfl (Nat.le_of_ble_eq_true rfl) ⟨Nat.zero_le _, Nat.zero_le _⟩ dX12_sourcesBy_89 (fun H locs w => ?_)
  refine lv_iinc (v := 1) (lv' := [(6, .int 1), (5, .int 243), (4, .int 0), (3, .int 0), (2, .int 729), (0, .ref (B + 146)), (1, .int 6)]) hx hb dX12_sourcesBy_92 hl (k := 1) rfl (by decide) (by decide) rfl (fun ls hl => ?_)
  refine lv_goto (tgt := 64) hx hb dX12_sourcesBy_95 (by decide) ?_
  refine lv_iload hx hb dX12_sourcesBy_64 (lv_at hl 0 rfl) ?_
  refine lv_iload_n hx hb dX12_sourcesBy_66 rfl (lv_at hl 6 rfl) ?_
  refine lv_icmp_ge (tgt := 98) hx hb dX12_sourcesBy_67 (by decide) (fun c1 => absurd c1 (by decide)) (fun _ => ?_)
  refine lv_iload hx hb dX12_sourcesBy_70 (lv_at hl 1 rfl) ?_
  refine lv_iconst (v := 3) hx hb dX12_sourcesBy_72 (by decide) ?_
  refine lv_idiv hx hb dX12_sourcesBy_73 (by decide) ?_
  refine r_val (v := 81) (by decide) ?_
  refine lv_istore (lv' := [(5, .int 81), (6, .int 1), (4, .int 0), (3, .int 0), (2, .int 729), (0, .ref (B + 146)), (1, .int 6)]) hx hb dX12_sourcesBy_74 hl (by decide) rfl (fun ls hl => ?_)
  refine lv_aload_n hx hb dX12_sourcesBy_76 rfl (lv_at hl 5 rfl) ?_
  refine f_12_2 F w (a := 146) rfl tb_127 dX12_sourcesBy_77 ?_
  refine lv_iload hx hb dX12_sourcesBy_80 (lv_at hl 1 rfl) ?_
  refine lv_iload hx hb dX12_sourcesBy_82 (lv_at hl 2 rfl) ?_
  refine lv_iload hx hb dX12_sourcesBy_84 (lv_at hl 0 rfl) ?_
  refine lv_idiv hx hb dX12_sourcesBy_86 (by decide) ?_
  refine r_val (v := 0) (by decide) ?_
  refine lv_iconst (v := 3) hx hb dX12_sourcesBy_87 (by decide) ?_
  refine lv_irem hx hb dX12_sourcesBy_88 (by decide) ?_
  refine r_val (v := 0) (by decide) ?_
  refine x_Sv F w (As := [.ref (B + 148), .int 1, .int 0]) (rest := []) (c_X12_insert_404 (st_at) ((st_ne (by decide)).trans ((st_ne (by decide)).trans h6)) ((st_ne (by decide)).trans ((st_ne (by decide)).trans h30))) gs_X12_112 hs_X12_insert ⟨Nat.le_of_ble_eq_true rfl, Nat.le_of_ble_eq_true rfl⟩ hl.1 rfl (Nat.le_of_ble_eq_true rfl) ⟨Nat.zero_le _, Nat.zero_le _⟩ dX12_sourcesBy_89 (fun H locs w => ?_)
  refine lv_iinc (v := 2) (lv' := [(6, .int 2), (5, .int 81), (4, .int 0), (3, .int 0), (2, .int 729), (0, .ref (B + 146)), (1, .int 6)]) hx hb dX12_sourcesBy_92 hl (k := 1) rfl (by decide) (by decide) rfl (fun ls hl => ?_)
  refine lv_goto (tgt := 64) hx hb dX12_sourcesBy_95 (by decide) ?_
  refine lv_iload hx hb dX12_sourcesBy_64 (lv_at hl 0 rfl) ?_
  refine lv_iload_n hx hb dX12_sourcesBy_66 rfl (lv_at hl 6 rfl) ?_
  refine lv_icmp_ge (tgt := 98) hx hb dX12_sourcesBy_67 (by decide) (fun c1 => absurd c1 (by decide)) (fun _ => ?_)
  refine lv_iload hx hb dX12_sourcesBy_70 (lv_at hl 1 rfl) ?_
  refine lv_iconst (v := 3) hx hb dX12_sourcesBy_72 (by decide) ?_
  refine lv_idiv hx hb dX12_sourcesBy_73 (by decide) ?_
  refine r_val (v := 27) (by decide) ?_
  refine lv_istore (lv' := [(5, .int 27), (6, .int 2), (4, .int 0), (3, .int 0), (2, .int 729), (0, .ref (B + 146)), (1, .int 6)]) hx hb dX12_sourcesBy_74 hl (by decide) rfl (fun ls hl => ?_)
  refine lv_aload_n hx hb dX12_sourcesBy_76 rfl (lv_at hl 5 rfl) ?_
  refine f_12_2 F w (a := 146) rfl tb_127 dX12_sourcesBy_77 ?_
  refine lv_iload hx hb dX12_sourcesBy_80 (lv_at hl 1 rfl) ?_
  refine lv_iload hx hb dX12_sourcesBy_82 (lv_at hl 2 rfl) ?_
  refine lv_iload hx hb dX12_sourcesBy_84 (lv_at hl 0 rfl) ?_
  refine lv_idiv hx hb dX12_sourcesBy_86 (by decide) ?_
  refine r_val (v := 0) (by decide) ?_
  refine lv_iconst (v := 3) hx hb dX12_sourcesBy_87 (by decide) ?_
  refine lv_irem hx hb dX12_sourcesBy_88 (by decide) ?_
  refine r_val (v := 0) (by decide) ?_
  refine x_Sv F w (As := [.ref (B + 148), .int 2, .int 0]) (rest := []) (c_X12_insert_419 (st_at) ((st_ne (by decide)).trans ((st_ne (by decide)).trans ((st_ne (by decide)).trans h8))) ((st_ne (by decide)).trans ((st_ne (by decide)).trans ((st_ne (by decide)).trans h32)))) gs_X12_112 hs_X12_insert ⟨Nat.le_of_ble_eq_true rfl, Nat.le_of_ble_eq_true rfl⟩ hl.1 rfl (Nat.le_of_ble_eq_true rfl) ⟨Nat.zero_le _, Nat.zero_le _⟩ dX12_sourcesBy_89 (fun H locs w => ?_)
  refine lv_iinc (v := 3) (lv' := [(6, .int 3), (5, .int 27), (4, .int 0), (3, .int 0), (2, .int 729), (0, .ref (B + 146)), (1, .int 6)]) hx hb dX12_sourcesBy_92 hl (k := 1) rfl (by decide) (by decide) rfl (fun ls hl => ?_)
  refine lv_goto (tgt := 64) hx hb dX12_sourcesBy_95 (by decide) ?_
  refine lv_iload hx hb dX12_sourcesBy_64 (lv_at hl 0 rfl) ?_
  refine lv_iload_n hx hb dX12_sourcesBy_66 rfl (lv_at hl 6 rfl) ?_
  refine lv_icmp_ge (tgt := 98) hx hb dX12_sourcesBy_67 (by decide) (fun c1 => absurd c1 (by decide)) (fun _ => ?_)
  refine lv_iload hx hb dX12_sourcesBy_70 (lv_at hl 1 rfl) ?_
  refine lv_iconst (v := 3) hx hb dX12_sourcesBy_72 (by decide) ?_
  refine lv_idiv hx hb dX12_sourcesBy_73 (by decide) ?_
  refine r_val (v := 9) (by decide) ?_
  refine lv_istore (lv' := [(5, .int 9), (6, .int 3), (4, .int 0), (3, .int 0), (2, .int 729), (0, .ref (B + 146)), (1, .int 6)]) hx hb dX12_sourcesBy_74 hl (by decide) rfl (fun ls hl => ?_)
  refine lv_aload_n hx hb dX12_sourcesBy_76 rfl (lv_at hl 5 rfl) ?_
  refine f_12_2 F w (a := 146) rfl tb_127 dX12_sourcesBy_77 ?_
  refine lv_iload hx hb dX12_sourcesBy_80 (lv_at hl 1 rfl) ?_
  refine lv_iload hx hb dX12_sourcesBy_82 (lv_at hl 2 rfl) ?_
  refine lv_iload hx hb dX12_sourcesBy_84 (lv_at hl 0 rfl) ?_
  refine lv_idiv hx hb dX12_sourcesBy_86 (by decide) ?_
  refine r_val (v := 0) (by decide) ?_
  refine lv_iconst (v := 3) hx hb dX12_sourcesBy_87 (by decide) ?_
  refine lv_irem hx hb dX12_sourcesBy_88 (by decide) ?_
  refine r_val (v := 0) (by decide) ?_
  refine x_Sv F w (As := [.ref (B + 148), .int 3, .int 0]) (rest := []) (c_X12_insert_434 (st_at) ((st_ne (by decide)).trans ((st_ne (by decide)).trans ((st_ne (by decide)).trans ((st_ne (by decide)).trans h10)))) ((st_ne (by decide)).trans ((st_ne (by decide)).trans ((st_ne (by decide)).trans ((st_ne (by decide)).trans h34))))) gs_X12_112 hs_X12_insert ⟨Nat.le_of_ble_eq_true rfl, Nat.le_of_ble_eq_true rfl⟩ hl.1 rfl (Nat.le_of_ble_eq_true rfl) ⟨Nat.zero_le _, Nat.zero_le _⟩ dX12_sourcesBy_89 (fun H locs w => ?_)
  refine lv_iinc (v := 4) (lv' := [(6, .int 4), (5, .int 9), (4, .int 0), (3, .int 0), (2, .int 729), (0, .ref (B + 146)), (1, .int 6)]) hx hb dX12_sourcesBy_92 hl (k := 1) rfl (by decide) (by decide) rfl (fun ls hl => ?_)
  refine lv_goto (tgt := 64) hx hb dX12_sourcesBy_95 (by decide) ?_
  refine lv_iload hx hb dX12_sourcesBy_64 (lv_at hl 0 rfl) ?_
  refine lv_iload_n hx hb dX12_sourcesBy_66 rfl (lv_at hl 6 rfl) ?_
  refine lv_icmp_ge (tgt := 98) hx hb dX12_sourcesBy_67 (by decide) (fun c1 => absurd c1 (by decide)) (fun _ => ?_)
  refine lv_iload hx hb dX12_sourcesBy_70 (lv_at hl 1 rfl) ?_
  refine lv_iconst (v := 3) hx hb dX12_sourcesBy_72 (by decide) ?_
  refine lv_idiv hx hb dX12_sourcesBy_73 (by decide) ?_
  refine r_val (v := 3) (by decide) ?_
  refine lv_istore (lv' := [(5, .int 3), (6, .int 4), (4, .int 0), (3, .int 0), (2, .int 729), (0, .ref (B + 146)), (1, .int 6)]) hx hb dX12_sourcesBy_74 hl (by decide) rfl (fun ls hl => ?_)
  refine lv_aload_n hx hb dX12_sourcesBy_76 rfl (lv_at hl 5 rfl) ?_
  refine f_12_2 F w (a := 146) rfl tb_127 dX12_sourcesBy_77 ?_
  refine lv_iload hx hb dX12_sourcesBy_80 (lv_at hl 1 rfl) ?_
  refine lv_iload hx hb dX12_sourcesBy_82 (lv_at hl 2 rfl) ?_
  refine lv_iload hx hb dX12_sourcesBy_84 (lv_at hl 0 rfl) ?_
  refine lv_idiv hx hb dX12_sourcesBy_86 (by decide) ?_
  refine r_val (v := 0) (by decide) ?_
  refine lv_iconst (v := 3) hx hb dX12_sourcesBy_87 (by decide) ?_
  refine lv_irem hx hb dX12_sourcesBy_88 (by decide) ?_
  refine r_val (v := 0) (by decide) ?_
  refine x_Sv F w (As := [.ref (B + 148), .int 4, .int 0]) (rest := []) (c_X12_insert_449 (st_at) ((st_ne (by decide)).trans ((st_ne (by decide)).trans ((st_ne (by decide)).trans ((st_ne (by decide)).trans ((st_ne (by decide)).trans h12))))) ((st_ne (by decide)).trans ((st_ne (by decide)).trans ((st_ne (by decide)).trans ((st_ne (by decide)).trans ((st_ne (by decide)).trans h36)))))) gs_X12_112 hs_X12_insert ⟨Nat.le_of_ble_eq_true rfl, Nat.le_of_ble_eq_true rfl⟩ hl.1 rfl (Nat.le_of_ble_eq_true rfl) ⟨Nat.zero_le _, Nat.zero_le _⟩ dX12_sourcesBy_89 (fun H locs w => ?_)
  refine lv_iinc (v := 5) (lv' := [(6, .int 5), (5, .int 3), (4, .int 0), (3, .int 0), (2, .int 729), (0, .ref (B + 146)), (1, .int 6)]) hx hb dX12_sourcesBy_92 hl (k := 1) rfl (by decide) (by decide) rfl (fun ls hl => ?_)
  refine lv_goto (tgt := 64) hx hb dX12_sourcesBy_95 (by decide) ?_
  refine lv_iload hx hb dX12_sourcesBy_64 (lv_at hl 0 rfl) ?_
  refine lv_iload_n hx hb dX12_sourcesBy_66 rfl (lv_at hl 6 rfl) ?_
  refine lv_icmp_ge (tgt := 98) hx hb dX12_sourcesBy_67 (by decide) (fun c1 => absurd c1 (by decide)) (fun _ => ?_)
  refine lv_iload hx hb dX12_sourcesBy_70 (lv_at hl 1 rfl) ?_
  refine lv_iconst (v := 3) hx hb dX12_sourcesBy_72 (by decide) ?_
  refine lv_idiv hx hb dX12_sourcesBy_73 (by decide) ?_
  refine r_val (v := 1) (by decide) ?_
  refine lv_istore (lv' := [(5, .int 1), (6, .int 5), (4, .int 0), (3, .int 0), (2, .int 729), (0, .ref (B + 146)), (1, .int 6)]) hx hb dX12_sourcesBy_74 hl (by decide) rfl (fun ls hl => ?_)
  refine lv_aload_n hx hb dX12_sourcesBy_76 rfl (lv_at hl 5 rfl) ?_
  refine f_12_2 F w (a := 146) rfl tb_127 dX12_sourcesBy_77 ?_
  refine lv_iload hx hb dX12_sourcesBy_80 (lv_at hl 1 rfl) ?_
  refine lv_iload hx hb dX12_sourcesBy_82 (lv_at hl 2 rfl) ?_
  refine lv_iload hx hb dX12_sourcesBy_84 (lv_at hl 0 rfl) ?_
  refine lv_idiv hx hb dX12_sourcesBy_86 (by decide) ?_
  refine r_val (v := 0) (by decide) ?_
  refine lv_iconst (v := 3) hx hb dX12_sourcesBy_87 (by decide) ?_
  refine lv_irem hx hb dX12_sourcesBy_88 (by decide) ?_
  refine r_val (v := 0) (by decide) ?_
  refine x_Sv F w (As := [.ref (B + 148), .int 5, .int 0]) (rest := []) (c_X12_insert_464 (st_at) ((st_ne (by decide)).trans ((st_ne (by decide)).trans ((st_ne (by decide)).trans ((st_ne (by decide)).trans ((st_ne (by decide)).trans ((st_ne (by decide)).trans h14)))))) ((st_ne (by decide)).trans ((st_ne (by decide)).trans ((st_ne (by decide)).trans ((st_ne (by decide)).trans ((st_ne (by decide)).trans ((st_ne (by decide)).trans h38))))))) gs_X12_112 hs_X12_insert ⟨Nat.le_of_ble_eq_true rfl, Nat.le_of_ble_eq_true rfl⟩ hl.1 rfl (Nat.le_of_ble_eq_true rfl) ⟨Nat.zero_le _, Nat.zero_le _⟩ dX12_sourcesBy_89 (fun H locs w => ?_)
  refine lv_iinc (v := 6) (lv' := [(6, .int 6), (5, .int 1), (4, .int 0), (3, .int 0), (2, .int 729), (0, .ref (B + 146)), (1, .int 6)]) hx hb dX12_sourcesBy_92 hl (k := 1) rfl (by decide) (by decide) rfl (fun ls hl => ?_)
  refine lv_goto (tgt := 64) hx hb dX12_sourcesBy_95 (by decide) ?_
  refine lv_iload hx hb dX12_sourcesBy_64 (lv_at hl 0 rfl) ?_
  refine lv_iload_n hx hb dX12_sourcesBy_66 rfl (lv_at hl 6 rfl) ?_
  refine lv_icmp_ge (tgt := 98) hx hb dX12_sourcesBy_67 (by decide) (fun _ => ?_) (fun c1 => absurd c1 (by decide))
  refine lv_iconst (v := 0) hx hb dX12_sourcesBy_98 (by decide) ?_
  refine lv_istore (lv' := [(6, .int 0), (5, .int 1), (4, .int 0), (3, .int 0), (2, .int 729), (0, .ref (B + 146)), (1, .int 6)]) hx hb dX12_sourcesBy_99 hl (by decide) rfl (fun ls hl => ?_)
  refine lv_iload hx hb dX12_sourcesBy_101 (lv_at hl 0 rfl) ?_
  refine lv_aload_n hx hb dX12_sourcesBy_103 rfl (lv_at hl 5 rfl) ?_
  refine f_12_5 F w (a := 146) rfl tb_227 dX12_sourcesBy_104 ?_
  refine r_val (v := 0) ((st_ne (by decide)).trans ((st_ne (by decide)).trans ((st_ne (by decide)).trans ((st_ne (by decide)).trans ((st_ne (by decide)).trans ((st_ne (by decide)).trans ((st_ne (by decide)).trans h0))))))) ?_
  refine lv_icmp_ge (tgt := 123) hx hb dX12_sourcesBy_107 (by decide) (fun _ => ?_) (fun c1 => absurd c1 (by decide))
  refine lv_aload_n hx hb dX12_sourcesBy_123 rfl (lv_at hl 5 rfl) ?_
  refine x_Vi F w (As := []) (rest := []) (a := 146) (by decide) (sh_12 rfl _ _) rfl (c_X12_isDue_357 ((st_ne (by decide)).trans ((st_ne (by decide)).trans ((st_ne (by decide)).trans ((st_ne (by decide)).trans ((st_ne (by decide)).trans ((st_ne (by decide)).trans ((st_ne (by decide)).trans h52)))))))) gv_X12_306 hv_X12_isDue ⟨Nat.le_of_ble_eq_true rfl, Nat.le_of_ble_eq_true rfl⟩ hl.1 rfl (Nat.le_of_ble_eq_true rfl) ⟨Nat.zero_le _, Nat.zero_le _⟩ dX12_sourcesBy_124 (fun H locs w => ?_)
  refine lv_if_ne (tgt := 133) hx hb dX12_sourcesBy_127 (by decide) (fun _ => ?_) (fun c1 => absurd c1 (by decide))
  refine lv_iload_n hx hb dX12_sourcesBy_133 rfl (lv_at hl 3 rfl) ?_
  refine lv_if_ne (tgt := 143) hx hb dX12_sourcesBy_134 (by decide) (fun c1 => absurd c1 (by decide)) (fun _ => ?_)
  refine lv_aload_n hx hb dX12_sourcesBy_137 rfl (lv_at hl 5 rfl) ?_
  refine lv_iload hx hb dX12_sourcesBy_138 (lv_at hl 2 rfl) ?_
  refine u_12_26 F w (a := 146) rfl tb_567 dX12_sourcesBy_140 (fun H locs w => ?_)
  refine lv_iinc (v := 1) (lv' := [(3, .int 1), (6, .int 0), (5, .int 1), (4, .int 0), (2, .int 729), (0, .ref (B + 146)), (1, .int 6)]) hx hb dX12_sourcesBy_143 hl (k := 3) rfl (by decide) (by decide) rfl (fun ls hl => ?_)
  refine lv_iinc (v := 1) (lv' := [(4, .int 1), (3, .int 1), (6, .int 0), (5, .int 1), (2, .int 729), (0, .ref (B + 146)), (1, .int 6)]) hx hb dX12_sourcesBy_146 hl (k := 3) rfl (by decide) (by decide) rfl (fun ls hl => ?_)
  refine lv_goto (tgt := 34) hx hb dX12_sourcesBy_149 (by decide) ?_
  exact lp_X12_sourcesBy_467 F hr hlocks 728 1 (by decide) (by decide) _ H locs ls w (show lv_has ls 7 [(4, .int 1), (3, .int 1), (2, .int 729), (0, .ref (B + 146)), (1, .int 6)] from lv_sub hl [0, 1, 4, 5, 6] rfl) ((st_ne (by decide)).trans ((st_ne (by decide)).trans ((st_ne (by decide)).trans ((st_ne (by decide)).trans ((st_ne (by decide)).trans ((st_ne (by decide)).trans ((st_ne (by decide)).trans ((st_ne (by decide)).trans h1)))))))) ((st_ne (by decide)).trans ((st_ne (by decide)).trans ((st_ne (by decide)).trans ((st_ne (by decide)).trans ((st_ne (by decide)).trans ((st_ne (by decide)).trans ((st_ne (by decide)).trans ((st_ne (by decide)).trans h3)))))))) ((st_ne (by decide)).trans ((st_ne (by decide)).trans ((st_ne (by decide)).trans ((st_ne (by decide)).trans ((st_ne (by decide)).trans ((st_ne (by decide)).trans ((st_ne (by decide)).trans ((st_ne (by decide)).trans h5)))))))) ((st_ne (by decide)).trans ((st_ne (by decide)).trans ((st_ne (by decide)).trans ((st_ne (by decide)).trans ((st_ne (by decide)).trans ((st_ne (by decide)).trans ((st_ne (by decide)).trans ((st_ne (by decide)).trans h7)))))))) ((st_ne (by decide)).trans ((st_ne (by decide)).trans ((st_ne (by decide)).trans ((st_ne (by decide)).trans ((st_ne (by decide)).trans ((st_ne (by decide)).trans ((st_ne (by decide)).trans ((st_ne (by decide)).trans h9)))))))) ((st_ne (by decide)).trans ((st_ne (by decide)).trans ((st_ne (by decide)).trans ((st_ne (by decide)).trans ((st_ne (by decide)).trans ((st_ne (by decide)).trans ((st_ne (by decide)).trans ((st_ne (by decide)).trans h11)))))))) ((st_ne (by decide)).trans ((st_ne (by decide)).trans ((st_ne (by decide)).trans ((st_ne (by decide)).trans ((st_ne (by decide)).trans ((st_ne (by decide)).trans ((st_ne (by decide)).trans ((st_ne (by decide)).trans h13)))))))) ((st_ne (by decide)).trans ((st_ne (by decide)).trans ((st_ne (by decide)).trans ((st_ne (by decide)).trans ((st_ne (by decide)).trans ((st_ne (by decide)).trans ((st_ne (by decide)).trans ((st_ne (by decide)).trans h15)))))))) ((st_ne (by decide)).trans ((st_ne (by decide)).trans ((st_ne (by decide)).trans ((st_ne (by decide)).trans ((st_ne (by decide)).trans ((st_ne (by decide)).trans ((st_ne (by decide)).trans ((st_ne (by decide)).trans h17)))))))) ((st_ne (by decide)).trans ((st_ne (by decide)).trans ((st_ne (by decide)).trans ((st_ne (by decide)).trans ((st_ne (by decide)).trans ((st_ne (by decide)).trans ((st_ne (by decide)).trans ((st_ne (by decide)).trans h19)))))))) ((st_ne (by decide)).trans ((st_ne (by decide)).trans ((st_ne (by decide)).trans ((st_ne (by decide)).trans ((st_ne (by decide)).trans ((st_ne (by decide)).trans ((st_ne (by decide)).trans ((st_ne (by decide)).trans h21)))))))) ((st_ne (by decide)).trans ((st_ne (by decide)).trans ((st_ne (by decide)).trans ((st_ne (by decide)).trans ((st_ne (by decide)).trans ((st_ne (by decide)).trans ((st_ne (by decide)).trans ((st_ne (by decide)).trans h23)))))))) ((st_ne (by decide)).trans ((st_ne (by decide)).trans ((st_ne (by decide)).trans ((st_ne (by decide)).trans ((st_ne (by decide)).trans ((st_ne (by decide)).trans ((st_ne (by decide)).trans ((st_ne (by decide)).trans h25)))))))) ((st_ne (by decide)).trans ((st_ne (by decide)).trans ((st_ne (by decide)).trans ((st_ne (by decide)).trans ((st_ne (by decide)).trans ((st_ne (by decide)).trans ((st_ne (by decide)).trans ((st_ne (by decide)).trans h27)))))))) ((st_ne (by decide)).trans ((st_ne (by decide)).trans ((st_ne (by decide)).trans ((st_ne (by decide)).trans ((st_ne (by decide)).trans ((st_ne (by decide)).trans ((st_ne (by decide)).trans ((st_ne (by decide)).trans h29)))))))) ((st_ne (by decide)).trans ((st_ne (by decide)).trans ((st_ne (by decide)).trans ((st_ne (by decide)).trans ((st_ne (by decide)).trans ((st_ne (by decide)).trans ((st_ne (by decide)).trans ((st_ne (by decide)).trans h31)))))))) ((st_ne (by decide)).trans ((st_ne (by decide)).trans ((st_ne (by decide)).trans ((st_ne (by decide)).trans ((st_ne (by decide)).trans ((st_ne (by decide)).trans ((st_ne (by decide)).trans ((st_ne (by decide)).trans h33)))))))) ((st_ne (by decide)).trans ((st_ne (by decide)).trans ((st_ne (by decide)).trans ((st_ne (by decide)).trans ((st_ne (by decide)).trans ((st_ne (by decide)).trans ((st_ne (by decide)).trans ((st_ne (by decide)).trans h35)))))))) ((st_ne (by decide)).trans ((st_ne (by decide)).trans ((st_ne (by decide)).trans ((st_ne (by decide)).trans ((st_ne (by decide)).trans ((st_ne (by decide)).trans ((st_ne (by decide)).trans ((st_ne (by decide)).trans h37)))))))) ((st_ne (by decide)).trans ((st_ne (by decide)).trans ((st_ne (by decide)).trans ((st_ne (by decide)).trans ((st_ne (by decide)).trans ((st_ne (by decide)).trans ((st_ne (by decide)).trans ((st_ne (by decide)).trans h39)))))))) ((st_ne (by decide)).trans ((st_ne (by decide)).trans ((st_ne (by decide)).trans ((st_ne (by decide)).trans ((st_ne (by decide)).trans ((st_ne (by decide)).trans ((st_ne (by decide)).trans ((st_ne (by decide)).trans h41)))))))) ((st_ne (by decide)).trans ((st_ne (by decide)).trans ((st_ne (by decide)).trans ((st_ne (by decide)).trans ((st_ne (by decide)).trans ((st_ne (by decide)).trans ((st_ne (by decide)).trans ((st_ne (by decide)).trans h43)))))))) ((st_ne (by decide)).trans ((st_ne (by decide)).trans ((st_ne (by decide)).trans ((st_ne (by decide)).trans ((st_ne (by decide)).trans ((st_ne (by decide)).trans ((st_ne (by decide)).trans ((st_ne (by decide)).trans h45)))))))) ((st_ne (by decide)).trans ((st_ne (by decide)).trans ((st_ne (by decide)).trans ((st_ne (by decide)).trans ((st_ne (by decide)).trans ((st_ne (by decide)).trans ((st_ne (by decide)).trans ((st_ne (by decide)).trans h47)))))))) ((st_ne (by decide)).trans ((st_ne (by decide)).trans ((st_ne (by decide)).trans ((st_ne (by decide)).trans ((st_ne (by decide)).trans ((st_ne (by decide)).trans ((st_ne (by decide)).trans ((st_ne (by decide)).trans h49)))))))) ((st_ne (by decide)).trans ((st_ne (by decide)).trans ((st_ne (by decide)).trans ((st_ne (by decide)).trans ((st_ne (by decide)).trans ((st_ne (by decide)).trans ((st_ne (by decide)).trans ((st_ne (by decide)).trans h51)))))))) ((st_ne (by decide)).trans ((st_ne (by decide)).trans ((st_ne (by decide)).trans ((st_ne (by decide)).trans ((st_ne (by decide)).trans ((st_ne (by decide)).trans ((st_ne (by decide)).trans ((st_ne (by decide)).trans h53)))))))) ((st_ne (by decide)).trans ((st_ne (by decide)).trans ((st_ne (by decide)).trans ((st_ne (by decide)).trans ((st_ne (by decide)).trans ((st_ne (by decide)).trans ((st_ne (by decide)).trans ((st_ne (by decide)).trans h55)))))))) ((st_ne (by decide)).trans ((st_ne (by decide)).trans ((st_ne (by decide)).trans ((st_ne (by decide)).trans ((st_ne (by decide)).trans ((st_ne (by decide)).trans ((st_ne (by decide)).trans ((st_ne (by decide)).trans h0)))))))) (st_at)
set_option maxRecDepth 4000 in
theorem c_X12_sources_468 {l : Launch} {D : va_G} {B : Nat} {cy : Nat → ClassId} {M : Mem} (h0 : M.1 146 5 = 0) (h1 : M.1 147 0 = 0) (h2 : M.1 148 0 = 0) (h3 : M.1 147 1 = 0) (h4 : M.1 148 1 = 0) (h5 : M.1 147 2 = 0) (h6 : M.1 148 2 = 0) (h7 : M.1 147 3 = 0) (h8 : M.1 148 3 = 0) (h9 : M.1 147 4 = 0) (h10 : M.1 148 4 = 0) (h11 : M.1 147 5 = 0) (h12 : M.1 148 5 = 0) (h13 : M.1 147 6 = 0) (h14 : M.1 148 6 = 0) (h15 : M.1 147 7 = 0) (h16 : M.1 148 7 = 0) (h17 : M.1 147 8 = 0) (h18 : M.1 148 8 = 0) (h19 : M.1 147 9 = 0) (h20 : M.1 148 9 = 0) (h21 : M.1 147 10 = 0) (h22 : M.1 148 10 = 0) (h23 : M.1 147 11 = 0) (h24 : M.1 148 11 = 0) (h25 : M.1 147 12 = 0) (h26 : M.1 148 12 = 0) (h27 : M.1 147 13 = 0) (h28 : M.1 148 13 = 0) (h29 : M.1 147 14 = 0) (h30 : M.1 148 14 = 0) (h31 : M.1 147 15 = 0) (h32 : M.1 148 15 = 0) (h33 : M.1 147 16 = 0) (h34 : M.1 148 16 = 0) (h35 : M.1 147 17 = 0) (h36 : M.1 148 17 = 0) (h37 : M.1 147 18 = 0) (h38 : M.1 148 18 = 0) (h39 : M.1 147 19 = 0) (h40 : M.1 148 19 = 0) (h41 : M.1 147 20 = 0) (h42 : M.1 148 20 = 0) (h43 : M.1 147 21 = 0) (h44 : M.1 148 21 = 0) (h45 : M.1 147 22 = 0) (h46 : M.1 148 22 = 0) (h47 : M.1 147 23 = 0) (h48 : M.1 148 23 = 0) (h49 : M.1 147 24 = 0) (h50 : M.1 148 24 = 0) (h51 : M.1 147 25 = 0) (h52 : M.1 148 25 = 0) (h53 : M.1 147 26 = 0) (h54 : M.1 148 26 = 0) (h55 : M.1 147 27 = 0) (h56 : M.1 148 27 = 0) (h57 : M.1 157 0 = 0) (h58 : M.1 157 1 = 0) (h59 : M.1 157 2 = 0) (h60 : M.1 157 3 = 0) (h61 : M.1 157 4 = 0) (h62 : M.1 157 5 = 0) (h63 : M.1 157 6 = 0) (h64 : M.1 157 7 = 0) (h65 : M.1 157 8 = 0) (h66 : M.1 157 9 = 0) (h67 : M.1 157 10 = 0) (h68 : M.1 157 11 = 0) (h69 : M.1 146 26 = 0) : Ci l D B cy yX12_sources cX12_sources 2 (some .int) 4 92 [.ref (B + 146), .int 6] M (fun r _ => r = 729) := by
  refine s_any (by decide) (Nat.le_of_ble_eq_true rfl) ?_
  intro p e s m below meth c ls F hr hlocks w hl
  have F : CallFix p m c cX12_sources 2 s _ TB RX12 := F
  have hx := F.1
  have hb := F.2.1
  have hl : lv_has ls 2 [(0, .ref (B + 146)), (1, .int 6)] := hl
  refine lv_iload_n hx hb dX12_sources_0 rfl (lv_at hl 1 rfl) ?_
  refine lv_iconst (v := 0) hx hb dX12_sources_1 (by decide) ?_
  refine lv_bipush (v := 6) hx hb dX12_sources_2 (by decide) ?_
  refine x_Si F w (As := [.int 6, .int 0, .int 6]) (rest := []) (c_X12_in_463) gs_X12_55 hs_X12_in ⟨Nat.le_of_ble_eq_true rfl, Nat.le_of_ble_eq_true rfl⟩ hl.1 rfl (Nat.le_of_ble_eq_true rfl) ⟨Nat.zero_le _, Nat.zero_le _⟩ dX12_sources_4 (fun H locs w => ?_)
  refine lv_if_eq (tgt := 18) hx hb dX12_sources_7 (by decide) (fun c1 => absurd c1 (by decide)) (fun _ => ?_)
  refine lv_aload_n hx hb dX12_sources_10 rfl (lv_at hl 0 rfl) ?_
  refine lv_iload_n hx hb dX12_sources_11 rfl (lv_at hl 1 rfl) ?_
  refine k_Vi F w (As := [.int 6]) (rest := []) (a := 146) (by decide) (sh_12 rfl _ _) rfl (c_X12_sourcesBy_467 (h0) (h1) (h2) (h3) (h4) (h5) (h6) (h7) (h8) (h9) (h10) (h11) (h12) (h13) (h14) (h15) (h16) (h17) (h18) (h19) (h20) (h21) (h22) (h23) (h24) (h25) (h26) (h27) (h28) (h29) (h30) (h31) (h32) (h33) (h34) (h35) (h36) (h37) (h38) (h39) (h40) (h41) (h42) (h43) (h44) (h45) (h46) (h47) (h48) (h49) (h50) (h51) (h52) (h53) (h54) (h55) (h56) (h57) (h58) (h59) (h60) (h61) (h62) (h63) (h64) (h65) (h66) (h67) (h68) (h69)) gv_X12_321 hv_X12_sourcesBy ⟨Nat.le_of_ble_eq_true rfl, Nat.le_of_ble_eq_true rfl⟩ hl.1 rfl (Nat.le_of_ble_eq_true rfl) ⟨Nat.zero_le _, Nat.zero_le _⟩ dX12_sources_12 (fun r M1 H locs hp w => ?_)
  obtain ⟨rfl, e0⟩ := hp
  refine lv_goto (tgt := 19) hx hb dX12_sources_15 (by decide) ?_
  exact e_i (post := fun r _ => r = 729) F w hr hlocks rfl dX12_sources_19
set_option maxRecDepth 8000 in
theorem la_26_97 {p : Program} {l : Launch} {e : Env} {s : State} {m : MethodId} {below : List Frame} {meth : Method} {c : Code} {D : va_G} {B b : Nat} {cy : Nat → ClassId} {H : Heap} {locs : List Loc} {ls : Array Slot} {xs : Nat → Int32} {Q : State → Prop} (F : CallFix p m c code 4 s #[Value.ref b] TB RL) (hX : va_X b 6 xs s s.heap) (hbl : b < s.heap.size) (hbA : ¬ B ≤ b) (w : Wd D B cy s s.heap M0 H locs) (hl : lv_has ls 4 [(3, .int 0), (2, .ref (B + 146)), (1, .ref (B + 0)), (0, .ref b)]) (x1 : xs 1 = 6) (kk : ∀ (M1 : Mem) (H1 : Heap) (locs1 : List Loc), Wd D B cy s s.heap M1 H1 locs1 → W p l e room_1 s m #[Value.ref b] below meth c H1 locs1 159 13107 Q (F0 m 1065 ls [])) : W p l e room_1 s m #[Value.ref b] below meth c H locs 159 13107 Q (F0 m 996 ls []) := by
  have hx := F.1
  have hb := F.2.1
  refine lv_aload_n hx hb dL_law_996 rfl (lv_at hl 2 rfl) ?_
  refine lv_aload_n hx hb dL_law_997 rfl (lv_at hl 3 rfl) ?_
  refine lv_iload_n hx hb dL_law_998 rfl (lv_at hl 0 rfl) ?_
  refine lv_iconst (v := 1) hx hb dL_law_999 (by decide) ?_
  refine lv_iadd hx hb dL_law_1000 ?_
  refine r_val (v := 1) (by decide) ?_
  refine va_sld hx hb hX hbl hbA w.2.2.1 (vpi (by decide) (by decide)) dL_law_1001 ?_
  refine r_val (v := 6) ((congrArg xs (show (1 : Int32).toNatClampNeg = 1 by decide)).trans x1) ?_
  refine k_Vi F w (As := [.int 6]) (rest := []) (a := 0) (by decide) (sh_11 rfl _ _) rfl (c_X11_sources_462 (rfl) (rfl) (rfl) (rfl) (rfl) (rfl) (rfl) (rfl) (rfl) (rfl) (rfl) (rfl) (rfl) (rfl) (rfl) (rfl) (rfl) (rfl) (rfl)) gv_L_127 hv_X11_sources ⟨Nat.le_of_ble_eq_true rfl, Nat.le_of_ble_eq_true rfl⟩ hl.1 rfl (Nat.le_of_ble_eq_true rfl) ⟨Nat.le_of_ble_eq_true rfl, Nat.le_of_ble_eq_true rfl⟩ dL_law_1002 (fun r M1 H locs hp w => ?_)
  obtain ⟨rfl, e9⟩ := hp
  refine lv_aload_n hx hb dL_law_1005 rfl (lv_at hl 1 rfl) ?_
  refine lv_aload_n hx hb dL_law_1006 rfl (lv_at hl 3 rfl) ?_
  refine lv_iload_n hx hb dL_law_1007 rfl (lv_at hl 0 rfl) ?_
  refine lv_iconst (v := 1) hx hb dL_law_1008 (by decide) ?_
  refine lv_iadd hx hb dL_law_1009 ?_
  refine r_val (v := 1) (by decide) ?_
  refine va_sld hx hb hX hbl hbA w.2.2.1 (vpi (by decide) (by decide)) dL_law_1010 ?_
  refine r_val (v := 6) ((congrArg xs (show (1 : Int32).toNatClampNeg = 1 by decide)).trans x1) ?_
  refine k_Vi F w (As := [.int 6]) (rest := [.int 729]) (a := 146) (by decide) (sh_12 rfl _ _) rfl (c_X12_sources_468 ((congrFun (e9 146 (by decide)) 5).trans rfl) ((congrFun (e9 147 (by decide)) 0).trans rfl) ((congrFun (e9 148 (by decide)) 0).trans rfl) ((congrFun (e9 147 (by decide)) 1).trans rfl) ((congrFun (e9 148 (by decide)) 1).trans rfl) ((congrFun (e9 147 (by decide)) 2).trans rfl) ((congrFun (e9 148 (by decide)) 2).trans rfl) ((congrFun (e9 147 (by decide)) 3).trans rfl) ((congrFun (e9 148 (by decide)) 3).trans rfl) ((congrFun (e9 147 (by decide)) 4).trans rfl) ((congrFun (e9 148 (by decide)) 4).trans rfl) ((congrFun (e9 147 (by decide)) 5).trans rfl) ((congrFun (e9 148 (by decide)) 5).trans rfl) ((congrFun (e9 147 (by decide)) 6).trans rfl) ((congrFun (e9 148 (by decide)) 6).trans rfl) ((congrFun (e9 147 (by decide)) 7).trans rfl) ((congrFun (e9 148 (by decide)) 7).trans rfl) ((congrFun (e9 147 (by decide)) 8).trans rfl) ((congrFun (e9 148 (by decide)) 8).trans rfl) ((congrFun (e9 147 (by decide)) 9).trans rfl) ((congrFun (e9 148 (by decide)) 9).trans rfl) ((congrFun (e9 147 (by decide)) 10).trans rfl) ((congrFun (e9 148 (by decide)) 10).trans rfl) ((congrFun (e9 147 (by decide)) 11).trans rfl) ((congrFun (e9 148 (by decide)) 11).trans rfl) ((congrFun (e9 147 (by decide)) 12).trans rfl) ((congrFun (e9 148 (by decide)) 12).trans rfl) ((congrFun (e9 147 (by decide)) 13).trans rfl) ((congrFun (e9 148 (by decide)) 13).trans rfl) ((congrFun (e9 147 (by decide)) 14).trans rfl) ((congrFun (e9 148 (by decide)) 14).trans rfl) ((congrFun (e9 147 (by decide)) 15).trans rfl) ((congrFun (e9 148 (by decide)) 15).trans rfl) ((congrFun (e9 147 (by decide)) 16).trans rfl) ((congrFun (e9 148 (by decide)) 16).trans rfl) ((congrFun (e9 147 (by decide)) 17).trans rfl) ((congrFun (e9 148 (by decide)) 17).trans rfl) ((congrFun (e9 147 (by decide)) 18).trans rfl) ((congrFun (e9 148 (by decide)) 18).trans rfl) ((congrFun (e9 147 (by decide)) 19).trans rfl) ((congrFun (e9 148 (by decide)) 19).trans rfl) ((congrFun (e9 147 (by decide)) 20).trans rfl) ((congrFun (e9 148 (by decide)) 20).trans rfl) ((congrFun (e9 147 (by decide)) 21).trans rfl) ((congrFun (e9 148 (by decide)) 21).trans rfl) ((congrFun (e9 147 (by decide)) 22).trans rfl) ((congrFun (e9 148 (by decide)) 22).trans rfl) ((congrFun (e9 147 (by decide)) 23).trans rfl) ((congrFun (e9 148 (by decide)) 23).trans rfl) ((congrFun (e9 147 (by decide)) 24).trans rfl) ((congrFun (e9 148 (by decide)) 24).trans rfl) ((congrFun (e9 147 (by decide)) 25).trans rfl) ((congrFun (e9 148 (by decide)) 25).trans rfl) ((congrFun (e9 147 (by decide)) 26).trans rfl) ((congrFun (e9 148 (by decide)) 26).trans rfl) ((congrFun (e9 147 (by decide)) 27).trans rfl) ((congrFun (e9 148 (by decide)) 27).trans rfl) ((congrFun (e9 157 (by decide)) 0).trans rfl) ((congrFun (e9 157 (by decide)) 1).trans rfl) ((congrFun (e9 157 (by decide)) 2).trans rfl) ((congrFun (e9 157 (by decide)) 3).trans rfl) ((congrFun (e9 157 (by decide)) 4).trans rfl) ((congrFun (e9 157 (by decide)) 5).trans rfl) ((congrFun (e9 157 (by decide)) 6).trans rfl) ((congrFun (e9 157 (by decide)) 7).trans rfl) ((congrFun (e9 157 (by decide)) 8).trans rfl) ((congrFun (e9 157 (by decide)) 9).trans rfl) ((congrFun (e9 157 (by decide)) 10).trans rfl) ((congrFun (e9 157 (by decide)) 11).trans rfl) ((congrFun (e9 146 (by decide)) 26).trans rfl)) gv_L_130 hv_X12_sources ⟨Nat.le_of_ble_eq_true rfl, Nat.le_of_ble_eq_true rfl⟩ hl.1 rfl (Nat.le_of_ble_eq_true rfl) ⟨Nat.le_of_ble_eq_true rfl, Nat.le_of_ble_eq_true rfl⟩ dL_law_1011 (fun r M1 H locs hp w => ?_)
  obtain rfl := hp
  refine lv_icmp_eq (tgt := 1065) hx hb dL_law_1014 (by decide) (fun _ => ?_) (fun c1 => absurd c1 (by decide))
  exact kk _ _ _ w
set_option maxRecDepth 4000 in
theorem c_X11_sources_469 {l : Launch} {D : va_G} {B : Nat} {cy : Nat → ClassId} {M : Mem} {p1 : Int32} (h0 : ¬ p1 < 0) (h1 : ¬ p1 ≤ 6) : Ci l D B cy yX11_sources cX11_sources 2 (some .int) 0 0 [.ref (B + 0), .int p1] M (fun r M1 => r = (-1) ∧ M1 = M) := by
  refine s_any (by decide) (Nat.le_of_ble_eq_true rfl) ?_
  intro p e s m below meth c ls F hr hlocks w hl
  have F : CallFix p m c cX11_sources 2 s _ TB RX11 := F
  have hx := F.1
  have hb := F.2.1
  have hl : lv_has ls 2 [(0, .ref (B + 0)), (1, .int p1)] := hl
  refine lv_iload_n hx hb dX11_sources_0 rfl (lv_at hl 1 rfl) ?_
  refine lv_if_lt (tgt := 10) hx hb dX11_sources_1 (by decide) (fun c1 => absurd c1 h0) (fun _ => ?_)
  refine lv_iload_n hx hb dX11_sources_4 rfl (lv_at hl 1 rfl) ?_
  refine lv_bipush (v := 6) hx hb dX11_sources_5 (by decide) ?_
  refine lv_icmp_le (tgt := 12) hx hb dX11_sources_7 (by decide) (fun c1 => absurd c1 h1) (fun _ => ?_)
  refine lv_iconst (v := (-1)) hx hb dX11_sources_10 (by decide) ?_
  exact e_i F w hr hlocks ⟨rfl, rfl⟩ dX11_sources_11
set_option maxRecDepth 4000 in
theorem c_X12_in_470 {l : Launch} {D : va_G} {B : Nat} {cy : Nat → ClassId} {M : Mem} {p0 : Int32} (h0 : ¬ p0 < 0) (h1 : 6 < p0) : Ci l D B cy yX12_in cX12_in 3 (some .boolean) 0 0 [.int p0, .int 0, .int 6] M (fun r M1 => r = 0 ∧ M1 = M) := by
  refine s_any (by decide) (Nat.le_of_ble_eq_true rfl) ?_
  intro p e s m below meth c ls F hr hlocks w hl
  have F : CallFix p m c cX12_in 3 s _ TB RX12 := F
  have hx := F.1
  have hb := F.2.1
  have hl : lv_has ls 3 [(0, .int p0), (1, .int 0), (2, .int 6)] := hl
  refine lv_iload_n hx hb dX12_in_0 rfl (lv_at hl 0 rfl) ?_
  refine lv_iload_n hx hb dX12_in_1 rfl (lv_at hl 1 rfl) ?_
  refine lv_icmp_lt (tgt := 14) hx hb dX12_in_2 (by decide) (fun c1 => absurd c1 h0) (fun _ => ?_)
  refine lv_iload_n hx hb dX12_in_5 rfl (lv_at hl 0 rfl) ?_
  refine lv_iload_n hx hb dX12_in_6 rfl (lv_at hl 2 rfl) ?_
  refine lv_icmp_gt (tgt := 14) hx hb dX12_in_7 (by decide) (fun _ => ?_) (fun c1 => absurd h1 c1)
  refine lv_iconst (v := 0) hx hb dX12_in_14 (by decide) ?_
  exact e_z F w hr hlocks (by decide) ⟨rfl, rfl⟩ dX12_in_15
set_option maxRecDepth 4000 in
theorem c_X12_sources_471 {l : Launch} {D : va_G} {B : Nat} {cy : Nat → ClassId} {M : Mem} {p1 : Int32} (h0 : ¬ p1 < 0) (h1 : 6 < p1) : Ci l D B cy yX12_sources cX12_sources 2 (some .int) 1 22 [.ref (B + 146), .int p1] M (fun r M1 => r = (-1) ∧ M1 = M) := by
  refine s_any (by decide) (Nat.le_of_ble_eq_true rfl) ?_
  intro p e s m below meth c ls F hr hlocks w hl
  have F : CallFix p m c cX12_sources 2 s _ TB RX12 := F
  have hx := F.1
  have hb := F.2.1
  have hl : lv_has ls 2 [(0, .ref (B + 146)), (1, .int p1)] := hl
  refine lv_iload_n hx hb dX12_sources_0 rfl (lv_at hl 1 rfl) ?_
  refine lv_iconst (v := 0) hx hb dX12_sources_1 (by decide) ?_
  refine lv_bipush (v := 6) hx hb dX12_sources_2 (by decide) ?_
  refine x_Si F w (As := [.int p1, .int 0, .int 6]) (rest := []) (c_X12_in_470 h0 h1) gs_X12_55 hs_X12_in ⟨Nat.le_of_ble_eq_true rfl, Nat.le_of_ble_eq_true rfl⟩ hl.1 rfl (Nat.le_of_ble_eq_true rfl) ⟨Nat.zero_le _, Nat.zero_le _⟩ dX12_sources_4 (fun H locs w => ?_)
  refine lv_if_eq (tgt := 18) hx hb dX12_sources_7 (by decide) (fun _ => ?_) (fun c1 => absurd c1 (by decide))
  refine lv_iconst (v := (-1)) hx hb dX12_sources_18 (by decide) ?_
  exact e_i F w hr hlocks ⟨rfl, rfl⟩ dX12_sources_19
set_option maxRecDepth 8000 in
theorem la_26_98 {p : Program} {l : Launch} {e : Env} {s : State} {m : MethodId} {below : List Frame} {meth : Method} {c : Code} {D : va_G} {B b : Nat} {cy : Nat → ClassId} {H : Heap} {locs : List Loc} {ls : Array Slot} {xs : Nat → Int32} {Q : State → Prop} (F : CallFix p m c code 4 s #[Value.ref b] TB RL) (hX : va_X b 6 xs s s.heap) (hbl : b < s.heap.size) (hbA : ¬ B ≤ b) (w : Wd D B cy s s.heap M0 H locs) (hl : lv_has ls 4 [(3, .int 0), (2, .ref (B + 146)), (1, .ref (B + 0)), (0, .ref b)]) (h0 : ¬ (xs 1) < 0) (h1 : ¬ (xs 1) ≤ 6) (h2 : 6 < (xs 1)) (kk : ∀ (M1 : Mem) (H1 : Heap) (locs1 : List Loc), Wd D B cy s s.heap M1 H1 locs1 → W p l e room_1 s m #[Value.ref b] below meth c H1 locs1 159 13107 Q (F0 m 1065 ls [])) : W p l e room_1 s m #[Value.ref b] below meth c H locs 159 13107 Q (F0 m 996 ls []) := by
  have hx := F.1
  have hb := F.2.1
  refine lv_aload_n hx hb dL_law_996 rfl (lv_at hl 2 rfl) ?_
  refine lv_aload_n hx hb dL_law_997 rfl (lv_at hl 3 rfl) ?_
  refine lv_iload_n hx hb dL_law_998 rfl (lv_at hl 0 rfl) ?_
  refine lv_iconst (v := 1) hx hb dL_law_999 (by decide) ?_
  refine lv_iadd hx hb dL_law_1000 ?_
  refine r_val (v := 1) (by decide) ?_
  refine va_sld hx hb hX hbl hbA w.2.2.1 (vpi (by decide) (by decide)) dL_law_1001 ?_
  refine r_val (v := xs 1) (congrArg xs (show (1 : Int32).toNatClampNeg = 1 by decide)) ?_
  refine x_Vi F w (As := [.int (xs 1)]) (rest := []) (a := 0) (by decide) (sh_11 rfl _ _) rfl (c_X11_sources_469 h0 h1) gv_L_127 hv_X11_sources ⟨Nat.le_of_ble_eq_true rfl, Nat.le_of_ble_eq_true rfl⟩ hl.1 rfl (Nat.le_of_ble_eq_true rfl) ⟨Nat.le_of_ble_eq_true rfl, Nat.le_of_ble_eq_true rfl⟩ dL_law_1002 (fun H locs w => ?_)
  refine lv_aload_n hx hb dL_law_1005 rfl (lv_at hl 1 rfl) ?_
  refine lv_aload_n hx hb dL_law_1006 rfl (lv_at hl 3 rfl) ?_
  refine lv_iload_n hx hb dL_law_1007 rfl (lv_at hl 0 rfl) ?_
  refine lv_iconst (v := 1) hx hb dL_law_1008 (by decide) ?_
  refine lv_iadd hx hb dL_law_1009 ?_
  refine r_val (v := 1) (by decide) ?_
  refine va_sld hx hb hX hbl hbA w.2.2.1 (vpi (by decide) (by decide)) dL_law_1010 ?_
  refine r_val (v := xs 1) (congrArg xs (show (1 : Int32).toNatClampNeg = 1 by decide)) ?_
  refine x_Vi F w (As := [.int (xs 1)]) (rest := [.int (-1)]) (a := 146) (by decide) (sh_12 rfl _ _) rfl (c_X12_sources_471 h0 h2) gv_L_130 hv_X12_sources ⟨Nat.le_of_ble_eq_true rfl, Nat.le_of_ble_eq_true rfl⟩ hl.1 rfl (Nat.le_of_ble_eq_true rfl) ⟨Nat.le_of_ble_eq_true rfl, Nat.le_of_ble_eq_true rfl⟩ dL_law_1011 (fun H locs w => ?_)
  refine lv_icmp_eq (tgt := 1065) hx hb dL_law_1014 (by decide) (fun _ => ?_) (fun c1 => absurd c1 (by decide))
  exact kk _ _ _ w
set_option maxRecDepth 8000 in
theorem lc_26 {p : Program} {l : Launch} {e : Env} {s : State} {m : MethodId} {below : List Frame} {meth : Method} {c : Code} {D : va_G} {B b : Nat} {cy : Nat → ClassId} {H : Heap} {locs : List Loc} {ls : Array Slot} {xs : Nat → Int32} {Q : State → Prop} (F : CallFix p m c code 4 s #[Value.ref b] TB RL) (hX : va_X b 6 xs s s.heap) (hbl : b < s.heap.size) (hbA : ¬ B ≤ b) (w : Wd D B cy s s.heap M0 H locs) (hl : lv_has ls 4 [(3, .int 0), (2, .ref (B + 146)), (1, .ref (B + 0)), (0, .ref b)]) (kk : ∀ (M1 : Mem) (H1 : Heap) (locs1 : List Loc), Wd D B cy s s.heap M1 H1 locs1 → W p l e room_1 s m #[Value.ref b] below meth c H1 locs1 159 13107 Q (F0 m 1065 ls [])) : W p l e room_1 s m #[Value.ref b] below meth c H locs 159 13107 Q (F0 m 996 ls []) := by
  rcases (show (xs 1).toInt < 0 ∨ (xs 1).toInt = 0 ∨ (xs 1).toInt = 1 ∨ (xs 1).toInt = 2 ∨ (xs 1).toInt = 3 ∨ (xs 1).toInt = 4 ∨ (xs 1).toInt = 5 ∨ (xs 1).toInt = 6 ∨ 6 < (xs 1).toInt by omega) with h1 | h1 | h1 | h1 | h1 | h1 | h1 | h1 | h1
  · skip
    exact la_26_90 F hX hbl hbA w hl (by rw [Int32.lt_iff_toInt_lt, show (0 : Int32).toInt = 0 from by decide]; omega) kk
  · have x1 : xs 1 = 0 := Int32.toInt_inj.mp (h1.trans (by decide))
    exact la_26_91 F hX hbl hbA w hl x1 kk
  · have x1 : xs 1 = 1 := Int32.toInt_inj.mp (h1.trans (by decide))
    exact la_26_92 F hX hbl hbA w hl x1 kk
  · have x1 : xs 1 = 2 := Int32.toInt_inj.mp (h1.trans (by decide))
    exact la_26_93 F hX hbl hbA w hl x1 kk
  · have x1 : xs 1 = 3 := Int32.toInt_inj.mp (h1.trans (by decide))
    exact la_26_94 F hX hbl hbA w hl x1 kk
  · have x1 : xs 1 = 4 := Int32.toInt_inj.mp (h1.trans (by decide))
    exact la_26_95 F hX hbl hbA w hl x1 kk
  · have x1 : xs 1 = 5 := Int32.toInt_inj.mp (h1.trans (by decide))
    exact la_26_96 F hX hbl hbA w hl x1 kk
  · have x1 : xs 1 = 6 := Int32.toInt_inj.mp (h1.trans (by decide))
    exact la_26_97 F hX hbl hbA w hl x1 kk
  · skip
    exact la_26_98 F hX hbl hbA w hl (by rw [Int32.lt_iff_toInt_lt, show (0 : Int32).toInt = 0 from by decide]; omega) (by rw [Int32.le_iff_toInt_le, show (6 : Int32).toInt = 6 from by decide]; omega) (by rw [Int32.lt_iff_toInt_lt, show (6 : Int32).toInt = 6 from by decide]; omega) kk
theorem dL_law_1019 : decode cL_law 1019 = .ok (.aload_n 1, 1) := by decide +kernel
theorem dL_law_1020 : decode cL_law 1020 = .ok (.aload_n 0, 1) := by decide +kernel
theorem dL_law_1021 : decode cL_law 1021 = .ok (.iload_n 3, 1) := by decide +kernel
theorem dL_law_1022 : decode cL_law 1022 = .ok (.iconst 1, 1) := by decide +kernel
theorem dL_law_1023 : decode cL_law 1023 = .ok (.iadd, 1) := by decide +kernel
theorem dL_law_1024 : decode cL_law 1024 = .ok (.iaload, 1) := by decide +kernel
theorem dL_law_1025 : decode cL_law 1025 = .ok (.invokevirtual 131, 3) := by decide +kernel
theorem dX11_source_0 : decode cX11_source 0 = .ok (.iload_n 1, 1) := by decide +kernel
theorem dX11_source_1 : decode cX11_source 1 = .ok (.ifCond .lt 9, 3) := by decide +kernel
theorem dX11_source_10 : decode cX11_source 10 = .ok (.iconst (-1), 1) := by decide +kernel
theorem dX11_source_11 : decode cX11_source 11 = .ok (.ireturn, 1) := by decide +kernel
set_option maxRecDepth 4000 in
theorem c_X11_source_472 {l : Launch} {D : va_G} {B : Nat} {cy : Nat → ClassId} {M : Mem} {p1 : Int32} (h0 : p1 < 0) : Ci l D B cy yX11_source cX11_source 2 (some .int) 0 0 [.ref (B + 0), .int p1] M (fun r M1 => r = (-1) ∧ M1 = M) := by
  refine s_any (by decide) (Nat.le_of_ble_eq_true rfl) ?_
  intro p e s m below meth c ls F hr hlocks w hl
  have F : CallFix p m c cX11_source 2 s _ TB RX11 := F
  have hx := F.1
  have hb := F.2.1
  have hl : lv_has ls 2 [(0, .ref (B + 0)), (1, .int p1)] := hl
  refine lv_iload_n hx hb dX11_source_0 rfl (lv_at hl 1 rfl) ?_
  refine lv_if_lt (tgt := 10) hx hb dX11_source_1 (by decide) (fun _ => ?_) (fun c1 => absurd h0 c1)
  refine lv_iconst (v := (-1)) hx hb dX11_source_10 (by decide) ?_
  exact e_i F w hr hlocks ⟨rfl, rfl⟩ dX11_source_11
theorem tk_X11_source : Cond.code yX11_source cX11_source 2 (some .int) ∈ TB := tbm (tc5 (List.mem_of_getElem? (i := 42) rfl)) rfl
theorem gc_X11_source : GoodIn TB (cw yX11_source cX11_source 2 (some .int)) := goodIn_c2 tk_X11_source
theorem tb_572 : Cond.methodLink "ToneLinesLaw" 131 yX11_source ∈ TB := tbm (tc5 (List.mem_of_getElem? (i := 39) rfl)) rfl
theorem tb_573 : Cond.instanceMethod yX11_source ∈ TB := tbm (tc5 (List.mem_of_getElem? (i := 40) rfl)) rfl
theorem tb_574 : Cond.selects "ToneLines" yX11_source yX11_source ∈ TB := tbm (tc5 (List.mem_of_getElem? (i := 41) rfl)) rfl
theorem gv_L_131 : GoodIn TB (wsV RL 131 RX11 yX11_source (cw yX11_source cX11_source 2 (some .int))) := goodIn_4 tb_572 tb_573 tb_574 tb_145 gc_X11_source
theorem hv_X11_source : yX11_source.cls = RX11 ∧ yX11_source.cls ≠ "java/lang/invoke/MethodHandle" ∧ yX11_source.cls ≠ "java/lang/invoke/VarHandle" ∧ (parseMethodDescriptor yX11_source.desc).map (fun d => d.parameters.length) = some 1 := by decide +kernel
theorem dL_law_1028 : decode cL_law 1028 = .ok (.aload_n 2, 1) := by decide +kernel
theorem dL_law_1029 : decode cL_law 1029 = .ok (.aload_n 0, 1) := by decide +kernel
theorem dL_law_1030 : decode cL_law 1030 = .ok (.iload_n 3, 1) := by decide +kernel
theorem dL_law_1031 : decode cL_law 1031 = .ok (.iconst 1, 1) := by decide +kernel
theorem dL_law_1032 : decode cL_law 1032 = .ok (.iadd, 1) := by decide +kernel
theorem dL_law_1033 : decode cL_law 1033 = .ok (.iaload, 1) := by decide +kernel
theorem dL_law_1034 : decode cL_law 1034 = .ok (.invokevirtual 134, 3) := by decide +kernel
theorem dX12_source_0 : decode cX12_source 0 = .ok (.iload_n 1, 1) := by decide +kernel
theorem dX12_source_1 : decode cX12_source 1 = .ok (.iconst 0, 1) := by decide +kernel
theorem dX12_source_2 : decode cX12_source 2 = .ok (.bipush 6, 2) := by decide +kernel
theorem dX12_source_4 : decode cX12_source 4 = .ok (.invokestatic 55, 3) := by decide +kernel
theorem dX12_source_7 : decode cX12_source 7 = .ok (.ifCond .ne 5, 3) := by decide +kernel
theorem dX12_source_10 : decode cX12_source 10 = .ok (.iconst (-1), 1) := by decide +kernel
theorem dX12_source_11 : decode cX12_source 11 = .ok (.ireturn, 1) := by decide +kernel
set_option maxRecDepth 4000 in
theorem c_X12_source_473 {l : Launch} {D : va_G} {B : Nat} {cy : Nat → ClassId} {M : Mem} {p1 : Int32} (h0 : p1 < 0) : Ci l D B cy yX12_source cX12_source 2 (some .int) 1 22 [.ref (B + 146), .int p1] M (fun r M1 => r = (-1) ∧ M1 = M) := by
  refine s_any (by decide) (Nat.le_of_ble_eq_true rfl) ?_
  intro p e s m below meth c ls F hr hlocks w hl
  have F : CallFix p m c cX12_source 2 s _ TB RX12 := F
  have hx := F.1
  have hb := F.2.1
  have hl : lv_has ls 2 [(0, .ref (B + 146)), (1, .int p1)] := hl
  refine lv_iload_n hx hb dX12_source_0 rfl (lv_at hl 1 rfl) ?_
  refine lv_iconst (v := 0) hx hb dX12_source_1 (by decide) ?_
  refine lv_bipush (v := 6) hx hb dX12_source_2 (by decide) ?_
  refine x_Si F w (As := [.int p1, .int 0, .int 6]) (rest := []) (c_X12_in_367 h0) gs_X12_55 hs_X12_in ⟨Nat.le_of_ble_eq_true rfl, Nat.le_of_ble_eq_true rfl⟩ hl.1 rfl (Nat.le_of_ble_eq_true rfl) ⟨Nat.zero_le _, Nat.zero_le _⟩ dX12_source_4 (fun H locs w => ?_)
  refine lv_if_ne (tgt := 12) hx hb dX12_source_7 (by decide) (fun c1 => absurd c1 (by decide)) (fun _ => ?_)
  refine lv_iconst (v := (-1)) hx hb dX12_source_10 (by decide) ?_
  exact e_i F w hr hlocks ⟨rfl, rfl⟩ dX12_source_11
theorem tk_X12_source : Cond.code yX12_source cX12_source 2 (some .int) ∈ TB := tbm (tc7 (List.mem_of_getElem? (i := 32) rfl)) rfl
theorem gc_X12_source : GoodIn TB (cw yX12_source cX12_source 2 (some .int)) := goodIn_c2 tk_X12_source
theorem tb_575 : Cond.methodLink "ToneLinesLaw" 134 yX12_source ∈ TB := tbm (tc7 (List.mem_of_getElem? (i := 29) rfl)) rfl
theorem tb_576 : Cond.instanceMethod yX12_source ∈ TB := tbm (tc7 (List.mem_of_getElem? (i := 30) rfl)) rfl
theorem tb_577 : Cond.selects "ToneLinesModel" yX12_source yX12_source ∈ TB := tbm (tc7 (List.mem_of_getElem? (i := 31) rfl)) rfl
theorem gv_L_134 : GoodIn TB (wsV RL 134 RX12 yX12_source (cw yX12_source cX12_source 2 (some .int))) := goodIn_4 tb_575 tb_576 tb_577 tb_150 gc_X12_source
theorem hv_X12_source : yX12_source.cls = RX12 ∧ yX12_source.cls ≠ "java/lang/invoke/MethodHandle" ∧ yX12_source.cls ≠ "java/lang/invoke/VarHandle" ∧ (parseMethodDescriptor yX12_source.desc).map (fun d => d.parameters.length) = some 1 := by decide +kernel
theorem dL_law_1037 : decode cL_law 1037 = .ok (.if_icmp .eq 28, 3) := by decide +kernel
set_option maxRecDepth 8000 in
theorem la_27_99 {p : Program} {l : Launch} {e : Env} {s : State} {m : MethodId} {below : List Frame} {meth : Method} {c : Code} {D : va_G} {B b : Nat} {cy : Nat → ClassId} {H : Heap} {locs : List Loc} {ls : Array Slot} {xs : Nat → Int32} {Q : State → Prop} (F : CallFix p m c code 4 s #[Value.ref b] TB RL) (hX : va_X b 6 xs s s.heap) (hbl : b < s.heap.size) (hbA : ¬ B ≤ b) (w : Wd D B cy s s.heap M0 H locs) (hl : lv_has ls 4 [(3, .int 0), (2, .ref (B + 146)), (1, .ref (B + 0)), (0, .ref b)]) (h0 : (xs 1) < 0) (kk : ∀ (M1 : Mem) (H1 : Heap) (locs1 : List Loc), Wd D B cy s s.heap M1 H1 locs1 → W p l e room_1 s m #[Value.ref b] below meth c H1 locs1 159 13107 Q (F0 m 1065 ls [])) : W p l e room_1 s m #[Value.ref b] below meth c H locs 159 13107 Q (F0 m 1019 ls []) := by
  have hx := F.1
  have hb := F.2.1
  refine lv_aload_n hx hb dL_law_1019 rfl (lv_at hl 2 rfl) ?_
  refine lv_aload_n hx hb dL_law_1020 rfl (lv_at hl 3 rfl) ?_
  refine lv_iload_n hx hb dL_law_1021 rfl (lv_at hl 0 rfl) ?_
  refine lv_iconst (v := 1) hx hb dL_law_1022 (by decide) ?_
  refine lv_iadd hx hb dL_law_1023 ?_
  refine r_val (v := 1) (by decide) ?_
  refine va_sld hx hb hX hbl hbA w.2.2.1 (vpi (by decide) (by decide)) dL_law_1024 ?_
  refine r_val (v := xs 1) (congrArg xs (show (1 : Int32).toNatClampNeg = 1 by decide)) ?_
  refine x_Vi F w (As := [.int (xs 1)]) (rest := []) (a := 0) (by decide) (sh_11 rfl _ _) rfl (c_X11_source_472 h0) gv_L_131 hv_X11_source ⟨Nat.le_of_ble_eq_true rfl, Nat.le_of_ble_eq_true rfl⟩ hl.1 rfl (Nat.le_of_ble_eq_true rfl) ⟨Nat.le_of_ble_eq_true rfl, Nat.le_of_ble_eq_true rfl⟩ dL_law_1025 (fun H locs w => ?_)
  refine lv_aload_n hx hb dL_law_1028 rfl (lv_at hl 1 rfl) ?_
  refine lv_aload_n hx hb dL_law_1029 rfl (lv_at hl 3 rfl) ?_
  refine lv_iload_n hx hb dL_law_1030 rfl (lv_at hl 0 rfl) ?_
  refine lv_iconst (v := 1) hx hb dL_law_1031 (by decide) ?_
  refine lv_iadd hx hb dL_law_1032 ?_
  refine r_val (v := 1) (by decide) ?_
  refine va_sld hx hb hX hbl hbA w.2.2.1 (vpi (by decide) (by decide)) dL_law_1033 ?_
  refine r_val (v := xs 1) (congrArg xs (show (1 : Int32).toNatClampNeg = 1 by decide)) ?_
  refine x_Vi F w (As := [.int (xs 1)]) (rest := [.int (-1)]) (a := 146) (by decide) (sh_12 rfl _ _) rfl (c_X12_source_473 h0) gv_L_134 hv_X12_source ⟨Nat.le_of_ble_eq_true rfl, Nat.le_of_ble_eq_true rfl⟩ hl.1 rfl (Nat.le_of_ble_eq_true rfl) ⟨Nat.le_of_ble_eq_true rfl, Nat.le_of_ble_eq_true rfl⟩ dL_law_1034 (fun H locs w => ?_)
  refine lv_icmp_eq (tgt := 1065) hx hb dL_law_1037 (by decide) (fun _ => ?_) (fun c1 => absurd c1 (by decide))
  exact kk _ _ _ w
theorem dX11_source_4 : decode cX11_source 4 = .ok (.iload_n 1, 1) := by decide +kernel
theorem dX11_source_5 : decode cX11_source 5 = .ok (.bipush 6, 2) := by decide +kernel
theorem dX11_source_7 : decode cX11_source 7 = .ok (.if_icmp .le 5, 3) := by decide +kernel
theorem dX11_source_12 : decode cX11_source 12 = .ok (.aload_n 0, 1) := by decide +kernel
theorem dX11_source_13 : decode cX11_source 13 = .ok (.getfield 61, 3) := by decide +kernel
theorem dX11_source_16 : decode cX11_source 16 = .ok (.aload_n 0, 1) := by decide +kernel
theorem dX11_source_17 : decode cX11_source 17 = .ok (.getfield 35, 3) := by decide +kernel
theorem dX11_source_20 : decode cX11_source 20 = .ok (.aload_n 0, 1) := by decide +kernel
theorem dX11_source_21 : decode cX11_source 21 = .ok (.getfield 35, 3) := by decide +kernel
theorem dX11_source_24 : decode cX11_source 24 = .ok (.aload_n 0, 1) := by decide +kernel
theorem dX11_source_25 : decode cX11_source 25 = .ok (.getfield 35, 3) := by decide +kernel
theorem dX11_source_28 : decode cX11_source 28 = .ok (.getfield 118, 3) := by decide +kernel
theorem dX11_source_31 : decode cX11_source 31 = .ok (.invokevirtual 196, 3) := by decide +kernel
theorem dX11_source_34 : decode cX11_source 34 = .ok (.iload_n 1, 1) := by decide +kernel
theorem dX11_source_35 : decode cX11_source 35 = .ok (.invokevirtual 285, 3) := by decide +kernel
theorem dX11_source_38 : decode cX11_source 38 = .ok (.aload_n 0, 1) := by decide +kernel
theorem dX11_source_39 : decode cX11_source 39 = .ok (.getfield 61, 3) := by decide +kernel
theorem dX11_source_42 : decode cX11_source 42 = .ok (.getfield 292, 3) := by decide +kernel
theorem tb_578 : Cond.fieldLink "ToneLines" 292 "ToneLines$Sources" "firsts" "[I" ∈ TB := tbm (tc2 (List.mem_of_getElem? (i := 28) rfl)) rfl
theorem dX11_source_45 : decode cX11_source 45 = .ok (.iload_n 1, 1) := by decide +kernel
theorem dX11_source_46 : decode cX11_source 46 = .ok (.iaload, 1) := by decide +kernel
theorem dX11_source_47 : decode cX11_source 47 = .ok (.ireturn, 1) := by decide +kernel
set_option maxRecDepth 4000 in
theorem c_X11_source_474 {l : Launch} {D : va_G} {B : Nat} {cy : Nat → ClassId} {M : Mem} (h0 : M.1 22 2 = 0) (h1 : M.1 22 7 = 0) (h2 : M.1 135 0 = 0) (h3 : M.1 44 0 = 0) (h4 : M.1 136 0 = 0) (h5 : M.1 137 0 = 0) (h6 : M.1 138 0 = 0) (h7 : M.1 138 1 = 0) (h8 : M.1 138 2 = 0) (h9 : M.1 138 3 = 0) (h10 : M.1 44 1 = 0) (h11 : M.1 44 2 = 0) (h12 : M.1 44 3 = 0) : Ci l D B cy yX11_source cX11_source 2 (some .int) 3 76 [.ref (B + 0), .int 0] M (fun r M1 => r = 0 ∧ M1 = (st (st (st (st M 137 0 (-2)) 137 0 0) 136 0 1) 135 0 1)) := by
  refine s_any (by decide) (Nat.le_of_ble_eq_true rfl) ?_
  intro p e s m below meth c ls F hr hlocks w hl
  have F : CallFix p m c cX11_source 2 s _ TB RX11 := F
  have hx := F.1
  have hb := F.2.1
  have hl : lv_has ls 2 [(0, .ref (B + 0)), (1, .int 0)] := hl
  refine lv_iload_n hx hb dX11_source_0 rfl (lv_at hl 1 rfl) ?_
  refine lv_if_lt (tgt := 10) hx hb dX11_source_1 (by decide) (fun c1 => absurd c1 (by decide)) (fun _ => ?_)
  refine lv_iload_n hx hb dX11_source_4 rfl (lv_at hl 1 rfl) ?_
  refine lv_bipush (v := 6) hx hb dX11_source_5 (by decide) ?_
  refine lv_icmp_le (tgt := 12) hx hb dX11_source_7 (by decide) (fun _ => ?_) (fun c1 => absurd c1 (by decide))
  refine lv_aload_n hx hb dX11_source_12 rfl (lv_at hl 0 rfl) ?_
  refine f_11_7 F w (a := 0) rfl tb_113 dX11_source_13 ?_
  refine lv_aload_n hx hb dX11_source_16 rfl (lv_at hl 0 rfl) ?_
  refine f_11_3 F w (a := 0) rfl tb_73 dX11_source_17 ?_
  refine lv_aload_n hx hb dX11_source_20 rfl (lv_at hl 0 rfl) ?_
  refine f_11_3 F w (a := 0) rfl tb_73 dX11_source_21 ?_
  refine lv_aload_n hx hb dX11_source_24 rfl (lv_at hl 0 rfl) ?_
  refine f_11_3 F w (a := 0) rfl tb_73 dX11_source_25 ?_
  refine f_0_2 F w (a := 22) rfl tb_216 dX11_source_28 ?_
  refine r_val (v := 0) (h0) ?_
  refine x_Vr F w (As := [.int 0]) (rest := [.ref (B + 22), .ref (B + 135)]) (a := 22) (by decide) (sh_0 rfl _ _) rfl (c_X0_stageOf_207 (h0) (h1)) gv_X11_196 hv_X0_stageOf ⟨Nat.le_of_ble_eq_true rfl, Nat.le_of_ble_eq_true rfl⟩ hl.1 rfl (Nat.le_of_ble_eq_true rfl) ⟨Nat.zero_le _, Nat.zero_le _⟩ dX11_source_31 (fun H locs w => ?_)
  refine lv_iload_n hx hb dX11_source_34 rfl (lv_at hl 1 rfl) ?_
  refine x_Vv F w (As := [.ref (B + 22), .ref (B + 44), .int 0]) (rest := []) (a := 135) (by decide) (sh_6 rfl _ _) rfl (c_X6_bring_374 (h2) (h3) (h4) (h5) (h6) (h7) (h8) (h9) (h10) (h11) (h12) (h0)) gv_X11_285 hv_X6_bring ⟨Nat.le_of_ble_eq_true rfl, Nat.le_of_ble_eq_true rfl⟩ hl.1 rfl (Nat.le_of_ble_eq_true rfl) ⟨Nat.zero_le _, Nat.zero_le _⟩ dX11_source_35 (fun H locs w => ?_)
  refine lv_aload_n hx hb dX11_source_38 rfl (lv_at hl 0 rfl) ?_
  refine f_11_7 F w (a := 0) rfl tb_113 dX11_source_39 ?_
  refine f_6_2 F w (a := 135) rfl tb_578 dX11_source_42 ?_
  refine lv_iload_n hx hb dX11_source_45 rfl (lv_at hl 1 rfl) ?_
  refine g_iald F w (a := 137) rfl (j := 0) ⟨by decide, by decide⟩ (by decide) dX11_source_46 ?_
  refine r_val (v := 0) ((st_ne (by decide)).trans ((st_ne (by decide)).trans st_at)) ?_
  exact e_i F w hr hlocks ⟨rfl, rfl⟩ dX11_source_47
theorem dX12_source_12 : decode cX12_source 12 = .ok (.aload_n 0, 1) := by decide +kernel
theorem dX12_source_13 : decode cX12_source 13 = .ok (.iload_n 1, 1) := by decide +kernel
theorem dX12_source_14 : decode cX12_source 14 = .ok (.invokevirtual 321, 3) := by decide +kernel
theorem dX12_source_17 : decode cX12_source 17 = .ok (.pop, 1) := by decide +kernel
theorem dX12_source_18 : decode cX12_source 18 = .ok (.aload_n 0, 1) := by decide +kernel
theorem dX12_source_19 : decode cX12_source 19 = .ok (.getfield 318, 3) := by decide +kernel
theorem dX12_source_22 : decode cX12_source 22 = .ok (.ireturn, 1) := by decide +kernel
set_option maxRecDepth 4000 in
theorem c_X12_source_475 {l : Launch} {D : va_G} {B : Nat} {cy : Nat → ClassId} {M : Mem} (h0 : M.1 146 5 = 0) (h1 : M.1 147 0 = 0) (h2 : M.1 148 0 = 0) (h3 : M.1 147 1 = 0) (h4 : M.1 148 1 = 0) (h5 : M.1 147 2 = 0) (h6 : M.1 148 2 = 0) (h7 : M.1 147 3 = 0) (h8 : M.1 148 3 = 0) (h9 : M.1 147 4 = 0) (h10 : M.1 148 4 = 0) (h11 : M.1 147 5 = 0) (h12 : M.1 148 5 = 0) (h13 : M.1 147 6 = 0) (h14 : M.1 148 6 = 0) (h15 : M.1 147 7 = 0) (h16 : M.1 148 7 = 0) (h17 : M.1 147 8 = 0) (h18 : M.1 148 8 = 0) (h19 : M.1 147 9 = 0) (h20 : M.1 148 9 = 0) (h21 : M.1 147 10 = 0) (h22 : M.1 148 10 = 0) (h23 : M.1 147 11 = 0) (h24 : M.1 148 11 = 0) (h25 : M.1 147 12 = 0) (h26 : M.1 148 12 = 0) (h27 : M.1 147 13 = 0) (h28 : M.1 148 13 = 0) (h29 : M.1 147 14 = 0) (h30 : M.1 148 14 = 0) (h31 : M.1 147 15 = 0) (h32 : M.1 148 15 = 0) (h33 : M.1 147 16 = 0) (h34 : M.1 148 16 = 0) (h35 : M.1 147 17 = 0) (h36 : M.1 148 17 = 0) (h37 : M.1 147 18 = 0) (h38 : M.1 148 18 = 0) (h39 : M.1 147 19 = 0) (h40 : M.1 148 19 = 0) (h41 : M.1 147 20 = 0) (h42 : M.1 148 20 = 0) (h43 : M.1 147 21 = 0) (h44 : M.1 148 21 = 0) (h45 : M.1 147 22 = 0) (h46 : M.1 148 22 = 0) (h47 : M.1 147 23 = 0) (h48 : M.1 148 23 = 0) (h49 : M.1 147 24 = 0) (h50 : M.1 148 24 = 0) (h51 : M.1 147 25 = 0) (h52 : M.1 148 25 = 0) (h53 : M.1 147 26 = 0) (h54 : M.1 148 26 = 0) (h55 : M.1 147 27 = 0) (h56 : M.1 148 27 = 0) (h57 : M.1 157 0 = 0) (h58 : M.1 157 1 = 0) (h59 : M.1 157 2 = 0) (h60 : M.1 157 3 = 0) (h61 : M.1 157 4 = 0) (h62 : M.1 157 5 = 0) (h63 : M.1 157 6 = 0) (h64 : M.1 157 7 = 0) (h65 : M.1 157 8 = 0) (h66 : M.1 157 9 = 0) (h67 : M.1 157 10 = 0) (h68 : M.1 157 11 = 0) (h69 : M.1 146 26 = 0) : Ci l D B cy yX12_source cX12_source 2 (some .int) 4 92 [.ref (B + 146), .int 0] M (fun r M1 => r = 0 ∧ M1 = (st (st M 146 26 (-2)) 146 26 0)) := by
  refine s_any (by decide) (Nat.le_of_ble_eq_true rfl) ?_
  intro p e s m below meth c ls F hr hlocks w hl
  have F : CallFix p m c cX12_source 2 s _ TB RX12 := F
  have hx := F.1
  have hb := F.2.1
  have hl : lv_has ls 2 [(0, .ref (B + 146)), (1, .int 0)] := hl
  refine lv_iload_n hx hb dX12_source_0 rfl (lv_at hl 1 rfl) ?_
  refine lv_iconst (v := 0) hx hb dX12_source_1 (by decide) ?_
  refine lv_bipush (v := 6) hx hb dX12_source_2 (by decide) ?_
  refine x_Si F w (As := [.int 0, .int 0, .int 6]) (rest := []) (c_X12_in_376) gs_X12_55 hs_X12_in ⟨Nat.le_of_ble_eq_true rfl, Nat.le_of_ble_eq_true rfl⟩ hl.1 rfl (Nat.le_of_ble_eq_true rfl) ⟨Nat.zero_le _, Nat.zero_le _⟩ dX12_source_4 (fun H locs w => ?_)
  refine lv_if_ne (tgt := 12) hx hb dX12_source_7 (by decide) (fun _ => ?_) (fun c1 => absurd c1 (by decide))
  refine lv_aload_n hx hb dX12_source_12 rfl (lv_at hl 0 rfl) ?_
  refine lv_iload_n hx hb dX12_source_13 rfl (lv_at hl 1 rfl) ?_
  refine x_Vi F w (As := [.int 0]) (rest := []) (a := 146) (by decide) (sh_12 rfl _ _) rfl (c_X12_sourcesBy_377 (h0) (h1) (h2) (h3) (h4) (h5) (h6) (h7) (h8) (h9) (h10) (h11) (h12) (h13) (h14) (h15) (h16) (h17) (h18) (h19) (h20) (h21) (h22) (h23) (h24) (h25) (h26) (h27) (h28) (h29) (h30) (h31) (h32) (h33) (h34) (h35) (h36) (h37) (h38) (h39) (h40) (h41) (h42) (h43) (h44) (h45) (h46) (h47) (h48) (h49) (h50) (h51) (h52) (h53) (h54) (h55) (h56) (h57) (h58) (h59) (h60) (h61) (h62) (h63) (h64) (h65) (h66) (h67) (h68) (h69)) gv_X12_321 hv_X12_sourcesBy ⟨Nat.le_of_ble_eq_true rfl, Nat.le_of_ble_eq_true rfl⟩ hl.1 rfl (Nat.le_of_ble_eq_true rfl) ⟨Nat.zero_le _, Nat.zero_le _⟩ dX12_source_14 (fun H locs w => ?_)
  refine lv_pop hx hb dX12_source_17 rfl ?_
  refine lv_aload_n hx hb dX12_source_18 rfl (lv_at hl 0 rfl) ?_
  refine f_12_26 F w (a := 146) rfl tb_567 dX12_source_19 ?_
  refine r_val (v := 0) (st_at) ?_
  exact e_i F w hr hlocks ⟨rfl, rfl⟩ dX12_source_22
set_option maxRecDepth 8000 in
theorem la_27_100 {p : Program} {l : Launch} {e : Env} {s : State} {m : MethodId} {below : List Frame} {meth : Method} {c : Code} {D : va_G} {B b : Nat} {cy : Nat → ClassId} {H : Heap} {locs : List Loc} {ls : Array Slot} {xs : Nat → Int32} {Q : State → Prop} (F : CallFix p m c code 4 s #[Value.ref b] TB RL) (hX : va_X b 6 xs s s.heap) (hbl : b < s.heap.size) (hbA : ¬ B ≤ b) (w : Wd D B cy s s.heap M0 H locs) (hl : lv_has ls 4 [(3, .int 0), (2, .ref (B + 146)), (1, .ref (B + 0)), (0, .ref b)]) (x1 : xs 1 = 0) (kk : ∀ (M1 : Mem) (H1 : Heap) (locs1 : List Loc), Wd D B cy s s.heap M1 H1 locs1 → W p l e room_1 s m #[Value.ref b] below meth c H1 locs1 159 13107 Q (F0 m 1065 ls [])) : W p l e room_1 s m #[Value.ref b] below meth c H locs 159 13107 Q (F0 m 1019 ls []) := by
  have hx := F.1
  have hb := F.2.1
  refine lv_aload_n hx hb dL_law_1019 rfl (lv_at hl 2 rfl) ?_
  refine lv_aload_n hx hb dL_law_1020 rfl (lv_at hl 3 rfl) ?_
  refine lv_iload_n hx hb dL_law_1021 rfl (lv_at hl 0 rfl) ?_
  refine lv_iconst (v := 1) hx hb dL_law_1022 (by decide) ?_
  refine lv_iadd hx hb dL_law_1023 ?_
  refine r_val (v := 1) (by decide) ?_
  refine va_sld hx hb hX hbl hbA w.2.2.1 (vpi (by decide) (by decide)) dL_law_1024 ?_
  refine r_val (v := 0) ((congrArg xs (show (1 : Int32).toNatClampNeg = 1 by decide)).trans x1) ?_
  refine x_Vi F w (As := [.int 0]) (rest := []) (a := 0) (by decide) (sh_11 rfl _ _) rfl (c_X11_source_474 (rfl) (rfl) (rfl) (rfl) (rfl) (rfl) (rfl) (rfl) (rfl) (rfl) (rfl) (rfl) (rfl)) gv_L_131 hv_X11_source ⟨Nat.le_of_ble_eq_true rfl, Nat.le_of_ble_eq_true rfl⟩ hl.1 rfl (Nat.le_of_ble_eq_true rfl) ⟨Nat.le_of_ble_eq_true rfl, Nat.le_of_ble_eq_true rfl⟩ dL_law_1025 (fun H locs w => ?_)
  refine lv_aload_n hx hb dL_law_1028 rfl (lv_at hl 1 rfl) ?_
  refine lv_aload_n hx hb dL_law_1029 rfl (lv_at hl 3 rfl) ?_
  refine lv_iload_n hx hb dL_law_1030 rfl (lv_at hl 0 rfl) ?_
  refine lv_iconst (v := 1) hx hb dL_law_1031 (by decide) ?_
  refine lv_iadd hx hb dL_law_1032 ?_
  refine r_val (v := 1) (by decide) ?_
  refine va_sld hx hb hX hbl hbA w.2.2.1 (vpi (by decide) (by decide)) dL_law_1033 ?_
  refine r_val (v := 0) ((congrArg xs (show (1 : Int32).toNatClampNeg = 1 by decide)).trans x1) ?_
  refine x_Vi F w (As := [.int 0]) (rest := [.int 0]) (a := 146) (by decide) (sh_12 rfl _ _) rfl (c_X12_source_475 ((st_ne (by decide)).trans ((st_ne (by decide)).trans ((st_ne (by decide)).trans ((st_ne (by decide)).trans rfl)))) ((st_ne (by decide)).trans ((st_ne (by decide)).trans ((st_ne (by decide)).trans ((st_ne (by decide)).trans rfl)))) ((st_ne (by decide)).trans ((st_ne (by decide)).trans ((st_ne (by decide)).trans ((st_ne (by decide)).trans rfl)))) ((st_ne (by decide)).trans ((st_ne (by decide)).trans ((st_ne (by decide)).trans ((st_ne (by decide)).trans rfl)))) ((st_ne (by decide)).trans ((st_ne (by decide)).trans ((st_ne (by decide)).trans ((st_ne (by decide)).trans rfl)))) ((st_ne (by decide)).trans ((st_ne (by decide)).trans ((st_ne (by decide)).trans ((st_ne (by decide)).trans rfl)))) ((st_ne (by decide)).trans ((st_ne (by decide)).trans ((st_ne (by decide)).trans ((st_ne (by decide)).trans rfl)))) ((st_ne (by decide)).trans ((st_ne (by decide)).trans ((st_ne (by decide)).trans ((st_ne (by decide)).trans rfl)))) ((st_ne (by decide)).trans ((st_ne (by decide)).trans ((st_ne (by decide)).trans ((st_ne (by decide)).trans rfl)))) ((st_ne (by decide)).trans ((st_ne (by decide)).trans ((st_ne (by decide)).trans ((st_ne (by decide)).trans rfl)))) ((st_ne (by decide)).trans ((st_ne (by decide)).trans ((st_ne (by decide)).trans ((st_ne (by decide)).trans rfl)))) ((st_ne (by decide)).trans ((st_ne (by decide)).trans ((st_ne (by decide)).trans ((st_ne (by decide)).trans rfl)))) ((st_ne (by decide)).trans ((st_ne (by decide)).trans ((st_ne (by decide)).trans ((st_ne (by decide)).trans rfl)))) ((st_ne (by decide)).trans ((st_ne (by decide)).trans ((st_ne (by decide)).trans ((st_ne (by decide)).trans rfl)))) ((st_ne (by decide)).trans ((st_ne (by decide)).trans ((st_ne (by decide)).trans ((st_ne (by decide)).trans rfl)))) ((st_ne (by decide)).trans ((st_ne (by decide)).trans ((st_ne (by decide)).trans ((st_ne (by decide)).trans rfl)))) ((st_ne (by decide)).trans ((st_ne (by decide)).trans ((st_ne (by decide)).trans ((st_ne (by decide)).trans rfl)))) ((st_ne (by decide)).trans ((st_ne (by decide)).trans ((st_ne (by decide)).trans ((st_ne (by decide)).trans rfl)))) ((st_ne (by decide)).trans ((st_ne (by decide)).trans ((st_ne (by decide)).trans ((st_ne (by decide)).trans rfl)))) ((st_ne (by decide)).trans ((st_ne (by decide)).trans ((st_ne (by decide)).trans ((st_ne (by decide)).trans rfl)))) ((st_ne (by decide)).trans ((st_ne (by decide)).trans ((st_ne (by decide)).trans ((st_ne (by decide)).trans rfl)))) ((st_ne (by decide)).trans ((st_ne (by decide)).trans ((st_ne (by decide)).trans ((st_ne (by decide)).trans rfl)))) ((st_ne (by decide)).trans ((st_ne (by decide)).trans ((st_ne (by decide)).trans ((st_ne (by decide)).trans rfl)))) ((st_ne (by decide)).trans ((st_ne (by decide)).trans ((st_ne (by decide)).trans ((st_ne (by decide)).trans rfl)))) ((st_ne (by decide)).trans ((st_ne (by decide)).trans ((st_ne (by decide)).trans ((st_ne (by decide)).trans rfl)))) ((st_ne (by decide)).trans ((st_ne (by decide)).trans ((st_ne (by decide)).trans ((st_ne (by decide)).trans rfl)))) ((st_ne (by decide)).trans ((st_ne (by decide)).trans ((st_ne (by decide)).trans ((st_ne (by decide)).trans rfl)))) ((st_ne (by decide)).trans ((st_ne (by decide)).trans ((st_ne (by decide)).trans ((st_ne (by decide)).trans rfl)))) ((st_ne (by decide)).trans ((st_ne (by decide)).trans ((st_ne (by decide)).trans ((st_ne (by decide)).trans rfl)))) ((st_ne (by decide)).trans ((st_ne (by decide)).trans ((st_ne (by decide)).trans ((st_ne (by decide)).trans rfl)))) ((st_ne (by decide)).trans ((st_ne (by decide)).trans ((st_ne (by decide)).trans ((st_ne (by decide)).trans rfl)))) ((st_ne (by decide)).trans ((st_ne (by decide)).trans ((st_ne (by decide)).trans ((st_ne (by decide)).trans rfl)))) ((st_ne (by decide)).trans ((st_ne (by decide)).trans ((st_ne (by decide)).trans ((st_ne (by decide)).trans rfl)))) ((st_ne (by decide)).trans ((st_ne (by decide)).trans ((st_ne (by decide)).trans ((st_ne (by decide)).trans rfl)))) ((st_ne (by decide)).trans ((st_ne (by decide)).trans ((st_ne (by decide)).trans ((st_ne (by decide)).trans rfl)))) ((st_ne (by decide)).trans ((st_ne (by decide)).trans ((st_ne (by decide)).trans ((st_ne (by decide)).trans rfl)))) ((st_ne (by decide)).trans ((st_ne (by decide)).trans ((st_ne (by decide)).trans ((st_ne (by decide)).trans rfl)))) ((st_ne (by decide)).trans ((st_ne (by decide)).trans ((st_ne (by decide)).trans ((st_ne (by decide)).trans rfl)))) ((st_ne (by decide)).trans ((st_ne (by decide)).trans ((st_ne (by decide)).trans ((st_ne (by decide)).trans rfl)))) ((st_ne (by decide)).trans ((st_ne (by decide)).trans ((st_ne (by decide)).trans ((st_ne (by decide)).trans rfl)))) ((st_ne (by decide)).trans ((st_ne (by decide)).trans ((st_ne (by decide)).trans ((st_ne (by decide)).trans rfl)))) ((st_ne (by decide)).trans ((st_ne (by decide)).trans ((st_ne (by decide)).trans ((st_ne (by decide)).trans rfl)))) ((st_ne (by decide)).trans ((st_ne (by decide)).trans ((st_ne (by decide)).trans ((st_ne (by decide)).trans rfl)))) ((st_ne (by decide)).trans ((st_ne (by decide)).trans ((st_ne (by decide)).trans ((st_ne (by decide)).trans rfl)))) ((st_ne (by decide)).trans ((st_ne (by decide)).trans ((st_ne (by decide)).trans ((st_ne (by decide)).trans rfl)))) ((st_ne (by decide)).trans ((st_ne (by decide)).trans ((st_ne (by decide)).trans ((st_ne (by decide)).trans rfl)))) ((st_ne (by decide)).trans ((st_ne (by decide)).trans ((st_ne (by decide)).trans ((st_ne (by decide)).trans rfl)))) ((st_ne (by decide)).trans ((st_ne (by decide)).trans ((st_ne (by decide)).trans ((st_ne (by decide)).trans rfl)))) ((st_ne (by decide)).trans ((st_ne (by decide)).trans ((st_ne (by decide)).trans ((st_ne (by decide)).trans rfl)))) ((st_ne (by decide)).trans ((st_ne (by decide)).trans ((st_ne (by decide)).trans ((st_ne (by decide)).trans rfl)))) ((st_ne (by decide)).trans ((st_ne (by decide)).trans ((st_ne (by decide)).trans ((st_ne (by decide)).trans rfl)))) ((st_ne (by decide)).trans ((st_ne (by decide)).trans ((st_ne (by decide)).trans ((st_ne (by decide)).trans rfl)))) ((st_ne (by decide)).trans ((st_ne (by decide)).trans ((st_ne (by decide)).trans ((st_ne (by decide)).trans rfl)))) ((st_ne (by decide)).trans ((st_ne (by decide)).trans ((st_ne (by decide)).trans ((st_ne (by decide)).trans rfl)))) ((st_ne (by decide)).trans ((st_ne (by decide)).trans ((st_ne (by decide)).trans ((st_ne (by decide)).trans rfl)))) ((st_ne (by decide)).trans ((st_ne (by decide)).trans ((st_ne (by decide)).trans ((st_ne (by decide)).trans rfl)))) ((st_ne (by decide)).trans ((st_ne (by decide)).trans ((st_ne (by decide)).trans ((st_ne (by decide)).trans rfl)))) ((st_ne (by decide)).trans ((st_ne (by decide)).trans ((st_ne (by decide)).trans ((st_ne (by decide)).trans rfl)))) ((st_ne (by decide)).trans ((st_ne (by decide)).trans ((st_ne (by decide)).trans ((st_ne (by decide)).trans rfl)))) ((st_ne (by decide)).trans ((st_ne (by decide)).trans ((st_ne (by decide)).trans ((st_ne (by decide)).trans rfl)))) ((st_ne (by decide)).trans ((st_ne (by decide)).trans ((st_ne (by decide)).trans ((st_ne (by decide)).trans rfl)))) ((st_ne (by decide)).trans ((st_ne (by decide)).trans ((st_ne (by decide)).trans ((st_ne (by decide)).trans rfl)))) ((st_ne (by decide)).trans ((st_ne (by decide)).trans ((st_ne (by decide)).trans ((st_ne (by decide)).trans rfl)))) ((st_ne (by decide)).trans ((st_ne (by decide)).trans ((st_ne (by decide)).trans ((st_ne (by decide)).trans rfl)))) ((st_ne (by decide)).trans ((st_ne (by decide)).trans ((st_ne (by decide)).trans ((st_ne (by decide)).trans rfl)))) ((st_ne (by decide)).trans ((st_ne (by decide)).trans ((st_ne (by decide)).trans ((st_ne (by decide)).trans rfl)))) ((st_ne (by decide)).trans ((st_ne (by decide)).trans ((st_ne (by decide)).trans ((st_ne (by decide)).trans rfl)))) ((st_ne (by decide)).trans ((st_ne (by decide)).trans ((st_ne (by decide)).trans ((st_ne (by decide)).trans rfl)))) ((st_ne (by decide)).trans ((st_ne (by decide)).trans ((st_ne (by decide)).trans ((st_ne (by decide)).trans rfl)))) ((st_ne (by decide)).trans ((st_ne (by decide)).trans ((st_ne (by decide)).trans ((st_ne (by decide)).trans rfl))))) gv_L_134 hv_X12_source ⟨Nat.le_of_ble_eq_true rfl, Nat.le_of_ble_eq_true rfl⟩ hl.1 rfl (Nat.le_of_ble_eq_true rfl) ⟨Nat.le_of_ble_eq_true rfl, Nat.le_of_ble_eq_true rfl⟩ dL_law_1034 (fun H locs w => ?_)
  refine lv_icmp_eq (tgt := 1065) hx hb dL_law_1037 (by decide) (fun _ => ?_) (fun c1 => absurd c1 (by decide))
  exact kk _ _ _ w
set_option maxRecDepth 4000 in
theorem c_X11_source_476 {l : Launch} {D : va_G} {B : Nat} {cy : Nat → ClassId} {M : Mem} (h0 : M.1 22 2 = 0) (h1 : M.1 22 7 = 0) (h2 : M.1 135 0 = 0) (h3 : M.1 44 0 = 0) (h4 : M.1 136 1 = 0) (h5 : M.1 137 1 = 0) (h6 : M.1 138 0 = 0) (h7 : M.1 138 1 = 0) (h8 : M.1 138 2 = 0) (h9 : M.1 138 3 = 0) (h10 : M.1 44 1 = 0) (h11 : M.1 44 2 = 0) (h12 : M.1 44 3 = 0) (h13 : M.1 140 0 = 0) : Ci l D B cy yX11_source cX11_source 2 (some .int) 3 78 [.ref (B + 0), .int 1] M (fun r Mx => r = 0 ∧ ∀ a, 146 ≤ a → Mx.1 a = M.1 a) := by
  refine s_any (by decide) (Nat.le_of_ble_eq_true rfl) ?_
  intro p e s m below meth c ls F hr hlocks w hl
  have F : CallFix p m c cX11_source 2 s _ TB RX11 := F
  have hx := F.1
  have hb := F.2.1
  have hl : lv_has ls 2 [(0, .ref (B + 0)), (1, .int 1)] := hl
  refine lv_iload_n hx hb dX11_source_0 rfl (lv_at hl 1 rfl) ?_
  refine lv_if_lt (tgt := 10) hx hb dX11_source_1 (by decide) (fun c1 => absurd c1 (by decide)) (fun _ => ?_)
  refine lv_iload_n hx hb dX11_source_4 rfl (lv_at hl 1 rfl) ?_
  refine lv_bipush (v := 6) hx hb dX11_source_5 (by decide) ?_
  refine lv_icmp_le (tgt := 12) hx hb dX11_source_7 (by decide) (fun _ => ?_) (fun c1 => absurd c1 (by decide))
  refine lv_aload_n hx hb dX11_source_12 rfl (lv_at hl 0 rfl) ?_
  refine f_11_7 F w (a := 0) rfl tb_113 dX11_source_13 ?_
  refine lv_aload_n hx hb dX11_source_16 rfl (lv_at hl 0 rfl) ?_
  refine f_11_3 F w (a := 0) rfl tb_73 dX11_source_17 ?_
  refine lv_aload_n hx hb dX11_source_20 rfl (lv_at hl 0 rfl) ?_
  refine f_11_3 F w (a := 0) rfl tb_73 dX11_source_21 ?_
  refine lv_aload_n hx hb dX11_source_24 rfl (lv_at hl 0 rfl) ?_
  refine f_11_3 F w (a := 0) rfl tb_73 dX11_source_25 ?_
  refine f_0_2 F w (a := 22) rfl tb_216 dX11_source_28 ?_
  refine r_val (v := 0) (h0) ?_
  refine x_Vr F w (As := [.int 0]) (rest := [.ref (B + 22), .ref (B + 135)]) (a := 22) (by decide) (sh_0 rfl _ _) rfl (c_X0_stageOf_207 (h0) (h1)) gv_X11_196 hv_X0_stageOf ⟨Nat.le_of_ble_eq_true rfl, Nat.le_of_ble_eq_true rfl⟩ hl.1 rfl (Nat.le_of_ble_eq_true rfl) ⟨Nat.zero_le _, Nat.zero_le _⟩ dX11_source_31 (fun H locs w => ?_)
  refine lv_iload_n hx hb dX11_source_34 rfl (lv_at hl 1 rfl) ?_
  refine k_Vv F w (As := [.ref (B + 22), .ref (B + 44), .int 1]) (rest := []) (a := 135) (by decide) (sh_6 rfl _ _) rfl (c_X6_bring_386 (h2) (h3) (h4) (h5) (h6) (h7) (h8) (h9) (h10) (h11) (h12) (h13) (h0)) gv_X11_285 hv_X6_bring ⟨Nat.le_of_ble_eq_true rfl, Nat.le_of_ble_eq_true rfl⟩ hl.1 rfl (Nat.le_of_ble_eq_true rfl) ⟨Nat.zero_le _, Nat.zero_le _⟩ dX11_source_35 (fun M1 H locs hp w => ?_)
  obtain ⟨e0, e1, e9⟩ := hp
  refine lv_aload_n hx hb dX11_source_38 rfl (lv_at hl 0 rfl) ?_
  refine f_11_7 F w (a := 0) rfl tb_113 dX11_source_39 ?_
  refine f_6_2 F w (a := 135) rfl tb_578 dX11_source_42 ?_
  refine lv_iload_n hx hb dX11_source_45 rfl (lv_at hl 1 rfl) ?_
  refine g_iald F w (a := 137) rfl (j := 1) ⟨by decide, by decide⟩ (by decide) dX11_source_46 ?_
  refine r_val (v := 0) (e1) ?_
  exact e_i F w hr hlocks ⟨rfl, fun a ha => ((e9 a ha).trans (rfl))⟩ dX11_source_47
set_option maxRecDepth 4000 in
theorem c_X12_source_477 {l : Launch} {D : va_G} {B : Nat} {cy : Nat → ClassId} {M : Mem} (h0 : M.1 146 5 = 0) (h1 : M.1 147 0 = 0) (h2 : M.1 148 0 = 0) (h3 : M.1 147 1 = 0) (h4 : M.1 148 1 = 0) (h5 : M.1 147 2 = 0) (h6 : M.1 148 2 = 0) (h7 : M.1 147 3 = 0) (h8 : M.1 148 3 = 0) (h9 : M.1 147 4 = 0) (h10 : M.1 148 4 = 0) (h11 : M.1 147 5 = 0) (h12 : M.1 148 5 = 0) (h13 : M.1 147 6 = 0) (h14 : M.1 148 6 = 0) (h15 : M.1 147 7 = 0) (h16 : M.1 148 7 = 0) (h17 : M.1 147 8 = 0) (h18 : M.1 148 8 = 0) (h19 : M.1 147 9 = 0) (h20 : M.1 148 9 = 0) (h21 : M.1 147 10 = 0) (h22 : M.1 148 10 = 0) (h23 : M.1 147 11 = 0) (h24 : M.1 148 11 = 0) (h25 : M.1 147 12 = 0) (h26 : M.1 148 12 = 0) (h27 : M.1 147 13 = 0) (h28 : M.1 148 13 = 0) (h29 : M.1 147 14 = 0) (h30 : M.1 148 14 = 0) (h31 : M.1 147 15 = 0) (h32 : M.1 148 15 = 0) (h33 : M.1 147 16 = 0) (h34 : M.1 148 16 = 0) (h35 : M.1 147 17 = 0) (h36 : M.1 148 17 = 0) (h37 : M.1 147 18 = 0) (h38 : M.1 148 18 = 0) (h39 : M.1 147 19 = 0) (h40 : M.1 148 19 = 0) (h41 : M.1 147 20 = 0) (h42 : M.1 148 20 = 0) (h43 : M.1 147 21 = 0) (h44 : M.1 148 21 = 0) (h45 : M.1 147 22 = 0) (h46 : M.1 148 22 = 0) (h47 : M.1 147 23 = 0) (h48 : M.1 148 23 = 0) (h49 : M.1 147 24 = 0) (h50 : M.1 148 24 = 0) (h51 : M.1 147 25 = 0) (h52 : M.1 148 25 = 0) (h53 : M.1 147 26 = 0) (h54 : M.1 148 26 = 0) (h55 : M.1 147 27 = 0) (h56 : M.1 148 27 = 0) (h57 : M.1 157 0 = 0) (h58 : M.1 157 1 = 0) (h59 : M.1 157 2 = 0) (h60 : M.1 157 3 = 0) (h61 : M.1 157 4 = 0) (h62 : M.1 157 5 = 0) (h63 : M.1 157 6 = 0) (h64 : M.1 157 7 = 0) (h65 : M.1 157 8 = 0) (h66 : M.1 157 9 = 0) (h67 : M.1 157 10 = 0) (h68 : M.1 157 11 = 0) (h69 : M.1 146 26 = 0) : Ci l D B cy yX12_source cX12_source 2 (some .int) 4 92 [.ref (B + 146), .int 1] M (fun r _ => r = 0) := by
  refine s_any (by decide) (Nat.le_of_ble_eq_true rfl) ?_
  intro p e s m below meth c ls F hr hlocks w hl
  have F : CallFix p m c cX12_source 2 s _ TB RX12 := F
  have hx := F.1
  have hb := F.2.1
  have hl : lv_has ls 2 [(0, .ref (B + 146)), (1, .int 1)] := hl
  refine lv_iload_n hx hb dX12_source_0 rfl (lv_at hl 1 rfl) ?_
  refine lv_iconst (v := 0) hx hb dX12_source_1 (by decide) ?_
  refine lv_bipush (v := 6) hx hb dX12_source_2 (by decide) ?_
  refine x_Si F w (As := [.int 1, .int 0, .int 6]) (rest := []) (c_X12_in_388) gs_X12_55 hs_X12_in ⟨Nat.le_of_ble_eq_true rfl, Nat.le_of_ble_eq_true rfl⟩ hl.1 rfl (Nat.le_of_ble_eq_true rfl) ⟨Nat.zero_le _, Nat.zero_le _⟩ dX12_source_4 (fun H locs w => ?_)
  refine lv_if_ne (tgt := 12) hx hb dX12_source_7 (by decide) (fun _ => ?_) (fun c1 => absurd c1 (by decide))
  refine lv_aload_n hx hb dX12_source_12 rfl (lv_at hl 0 rfl) ?_
  refine lv_iload_n hx hb dX12_source_13 rfl (lv_at hl 1 rfl) ?_
  refine k_Vi F w (As := [.int 1]) (rest := []) (a := 146) (by decide) (sh_12 rfl _ _) rfl (c_X12_sourcesBy_392 (h0) (h1) (h2) (h3) (h4) (h5) (h6) (h7) (h8) (h9) (h10) (h11) (h12) (h13) (h14) (h15) (h16) (h17) (h18) (h19) (h20) (h21) (h22) (h23) (h24) (h25) (h26) (h27) (h28) (h29) (h30) (h31) (h32) (h33) (h34) (h35) (h36) (h37) (h38) (h39) (h40) (h41) (h42) (h43) (h44) (h45) (h46) (h47) (h48) (h49) (h50) (h51) (h52) (h53) (h54) (h55) (h56) (h57) (h58) (h59) (h60) (h61) (h62) (h63) (h64) (h65) (h66) (h67) (h68) (h69)) gv_X12_321 hv_X12_sourcesBy ⟨Nat.le_of_ble_eq_true rfl, Nat.le_of_ble_eq_true rfl⟩ hl.1 rfl (Nat.le_of_ble_eq_true rfl) ⟨Nat.zero_le _, Nat.zero_le _⟩ dX12_source_14 (fun r M1 H locs hp w => ?_)
  obtain ⟨rfl, e0⟩ := hp
  refine lv_pop hx hb dX12_source_17 rfl ?_
  refine lv_aload_n hx hb dX12_source_18 rfl (lv_at hl 0 rfl) ?_
  refine f_12_26 F w (a := 146) rfl tb_567 dX12_source_19 ?_
  refine r_val (v := 0) (e0) ?_
  exact e_i (post := fun r _ => r = 0) F w hr hlocks rfl dX12_source_22
set_option maxRecDepth 8000 in
theorem la_27_101 {p : Program} {l : Launch} {e : Env} {s : State} {m : MethodId} {below : List Frame} {meth : Method} {c : Code} {D : va_G} {B b : Nat} {cy : Nat → ClassId} {H : Heap} {locs : List Loc} {ls : Array Slot} {xs : Nat → Int32} {Q : State → Prop} (F : CallFix p m c code 4 s #[Value.ref b] TB RL) (hX : va_X b 6 xs s s.heap) (hbl : b < s.heap.size) (hbA : ¬ B ≤ b) (w : Wd D B cy s s.heap M0 H locs) (hl : lv_has ls 4 [(3, .int 0), (2, .ref (B + 146)), (1, .ref (B + 0)), (0, .ref b)]) (x1 : xs 1 = 1) (kk : ∀ (M1 : Mem) (H1 : Heap) (locs1 : List Loc), Wd D B cy s s.heap M1 H1 locs1 → W p l e room_1 s m #[Value.ref b] below meth c H1 locs1 159 13107 Q (F0 m 1065 ls [])) : W p l e room_1 s m #[Value.ref b] below meth c H locs 159 13107 Q (F0 m 1019 ls []) := by
  have hx := F.1
  have hb := F.2.1
  refine lv_aload_n hx hb dL_law_1019 rfl (lv_at hl 2 rfl) ?_
  refine lv_aload_n hx hb dL_law_1020 rfl (lv_at hl 3 rfl) ?_
  refine lv_iload_n hx hb dL_law_1021 rfl (lv_at hl 0 rfl) ?_
  refine lv_iconst (v := 1) hx hb dL_law_1022 (by decide) ?_
  refine lv_iadd hx hb dL_law_1023 ?_
  refine r_val (v := 1) (by decide) ?_
  refine va_sld hx hb hX hbl hbA w.2.2.1 (vpi (by decide) (by decide)) dL_law_1024 ?_
  refine r_val (v := 1) ((congrArg xs (show (1 : Int32).toNatClampNeg = 1 by decide)).trans x1) ?_
  refine k_Vi F w (As := [.int 1]) (rest := []) (a := 0) (by decide) (sh_11 rfl _ _) rfl (c_X11_source_476 (rfl) (rfl) (rfl) (rfl) (rfl) (rfl) (rfl) (rfl) (rfl) (rfl) (rfl) (rfl) (rfl) (rfl)) gv_L_131 hv_X11_source ⟨Nat.le_of_ble_eq_true rfl, Nat.le_of_ble_eq_true rfl⟩ hl.1 rfl (Nat.le_of_ble_eq_true rfl) ⟨Nat.le_of_ble_eq_true rfl, Nat.le_of_ble_eq_true rfl⟩ dL_law_1025 (fun r M1 H locs hp w => ?_)
  obtain ⟨rfl, e9⟩ := hp
  refine lv_aload_n hx hb dL_law_1028 rfl (lv_at hl 1 rfl) ?_
  refine lv_aload_n hx hb dL_law_1029 rfl (lv_at hl 3 rfl) ?_
  refine lv_iload_n hx hb dL_law_1030 rfl (lv_at hl 0 rfl) ?_
  refine lv_iconst (v := 1) hx hb dL_law_1031 (by decide) ?_
  refine lv_iadd hx hb dL_law_1032 ?_
  refine r_val (v := 1) (by decide) ?_
  refine va_sld hx hb hX hbl hbA w.2.2.1 (vpi (by decide) (by decide)) dL_law_1033 ?_
  refine r_val (v := 1) ((congrArg xs (show (1 : Int32).toNatClampNeg = 1 by decide)).trans x1) ?_
  refine k_Vi F w (As := [.int 1]) (rest := [.int 0]) (a := 146) (by decide) (sh_12 rfl _ _) rfl (c_X12_source_477 ((congrFun (e9 146 (by decide)) 5).trans rfl) ((congrFun (e9 147 (by decide)) 0).trans rfl) ((congrFun (e9 148 (by decide)) 0).trans rfl) ((congrFun (e9 147 (by decide)) 1).trans rfl) ((congrFun (e9 148 (by decide)) 1).trans rfl) ((congrFun (e9 147 (by decide)) 2).trans rfl) ((congrFun (e9 148 (by decide)) 2).trans rfl) ((congrFun (e9 147 (by decide)) 3).trans rfl) ((congrFun (e9 148 (by decide)) 3).trans rfl) ((congrFun (e9 147 (by decide)) 4).trans rfl) ((congrFun (e9 148 (by decide)) 4).trans rfl) ((congrFun (e9 147 (by decide)) 5).trans rfl) ((congrFun (e9 148 (by decide)) 5).trans rfl) ((congrFun (e9 147 (by decide)) 6).trans rfl) ((congrFun (e9 148 (by decide)) 6).trans rfl) ((congrFun (e9 147 (by decide)) 7).trans rfl) ((congrFun (e9 148 (by decide)) 7).trans rfl) ((congrFun (e9 147 (by decide)) 8).trans rfl) ((congrFun (e9 148 (by decide)) 8).trans rfl) ((congrFun (e9 147 (by decide)) 9).trans rfl) ((congrFun (e9 148 (by decide)) 9).trans rfl) ((congrFun (e9 147 (by decide)) 10).trans rfl) ((congrFun (e9 148 (by decide)) 10).trans rfl) ((congrFun (e9 147 (by decide)) 11).trans rfl) ((congrFun (e9 148 (by decide)) 11).trans rfl) ((congrFun (e9 147 (by decide)) 12).trans rfl) ((congrFun (e9 148 (by decide)) 12).trans rfl) ((congrFun (e9 147 (by decide)) 13).trans rfl) ((congrFun (e9 148 (by decide)) 13).trans rfl) ((congrFun (e9 147 (by decide)) 14).trans rfl) ((congrFun (e9 148 (by decide)) 14).trans rfl) ((congrFun (e9 147 (by decide)) 15).trans rfl) ((congrFun (e9 148 (by decide)) 15).trans rfl) ((congrFun (e9 147 (by decide)) 16).trans rfl) ((congrFun (e9 148 (by decide)) 16).trans rfl) ((congrFun (e9 147 (by decide)) 17).trans rfl) ((congrFun (e9 148 (by decide)) 17).trans rfl) ((congrFun (e9 147 (by decide)) 18).trans rfl) ((congrFun (e9 148 (by decide)) 18).trans rfl) ((congrFun (e9 147 (by decide)) 19).trans rfl) ((congrFun (e9 148 (by decide)) 19).trans rfl) ((congrFun (e9 147 (by decide)) 20).trans rfl) ((congrFun (e9 148 (by decide)) 20).trans rfl) ((congrFun (e9 147 (by decide)) 21).trans rfl) ((congrFun (e9 148 (by decide)) 21).trans rfl) ((congrFun (e9 147 (by decide)) 22).trans rfl) ((congrFun (e9 148 (by decide)) 22).trans rfl) ((congrFun (e9 147 (by decide)) 23).trans rfl) ((congrFun (e9 148 (by decide)) 23).trans rfl) ((congrFun (e9 147 (by decide)) 24).trans rfl) ((congrFun (e9 148 (by decide)) 24).trans rfl) ((congrFun (e9 147 (by decide)) 25).trans rfl) ((congrFun (e9 148 (by decide)) 25).trans rfl) ((congrFun (e9 147 (by decide)) 26).trans rfl) ((congrFun (e9 148 (by decide)) 26).trans rfl) ((congrFun (e9 147 (by decide)) 27).trans rfl) ((congrFun (e9 148 (by decide)) 27).trans rfl) ((congrFun (e9 157 (by decide)) 0).trans rfl) ((congrFun (e9 157 (by decide)) 1).trans rfl) ((congrFun (e9 157 (by decide)) 2).trans rfl) ((congrFun (e9 157 (by decide)) 3).trans rfl) ((congrFun (e9 157 (by decide)) 4).trans rfl) ((congrFun (e9 157 (by decide)) 5).trans rfl) ((congrFun (e9 157 (by decide)) 6).trans rfl) ((congrFun (e9 157 (by decide)) 7).trans rfl) ((congrFun (e9 157 (by decide)) 8).trans rfl) ((congrFun (e9 157 (by decide)) 9).trans rfl) ((congrFun (e9 157 (by decide)) 10).trans rfl) ((congrFun (e9 157 (by decide)) 11).trans rfl) ((congrFun (e9 146 (by decide)) 26).trans rfl)) gv_L_134 hv_X12_source ⟨Nat.le_of_ble_eq_true rfl, Nat.le_of_ble_eq_true rfl⟩ hl.1 rfl (Nat.le_of_ble_eq_true rfl) ⟨Nat.le_of_ble_eq_true rfl, Nat.le_of_ble_eq_true rfl⟩ dL_law_1034 (fun r M1 H locs hp w => ?_)
  obtain rfl := hp
  refine lv_icmp_eq (tgt := 1065) hx hb dL_law_1037 (by decide) (fun _ => ?_) (fun c1 => absurd c1 (by decide))
  exact kk _ _ _ w
set_option maxRecDepth 4000 in
theorem c_X11_source_478 {l : Launch} {D : va_G} {B : Nat} {cy : Nat → ClassId} {M : Mem} (h0 : M.1 22 2 = 0) (h1 : M.1 22 7 = 0) (h2 : M.1 135 0 = 0) (h3 : M.1 44 0 = 0) (h4 : M.1 136 2 = 0) (h5 : M.1 137 2 = 0) (h6 : M.1 138 0 = 0) (h7 : M.1 138 1 = 0) (h8 : M.1 138 2 = 0) (h9 : M.1 138 3 = 0) (h10 : M.1 44 1 = 0) (h11 : M.1 44 2 = 0) (h12 : M.1 44 3 = 0) (h13 : M.1 140 0 = 0) (h14 : M.1 140 1 = 0) : Ci l D B cy yX11_source cX11_source 2 (some .int) 3 78 [.ref (B + 0), .int 2] M (fun r Mx => r = 0 ∧ ∀ a, 146 ≤ a → Mx.1 a = M.1 a) := by
  refine s_any (by decide) (Nat.le_of_ble_eq_true rfl) ?_
  intro p e s m below meth c ls F hr hlocks w hl
  have F : CallFix p m c cX11_source 2 s _ TB RX11 := F
  have hx := F.1
  have hb := F.2.1
  have hl : lv_has ls 2 [(0, .ref (B + 0)), (1, .int 2)] := hl
  refine lv_iload_n hx hb dX11_source_0 rfl (lv_at hl 1 rfl) ?_
  refine lv_if_lt (tgt := 10) hx hb dX11_source_1 (by decide) (fun c1 => absurd c1 (by decide)) (fun _ => ?_)
  refine lv_iload_n hx hb dX11_source_4 rfl (lv_at hl 1 rfl) ?_
  refine lv_bipush (v := 6) hx hb dX11_source_5 (by decide) ?_
  refine lv_icmp_le (tgt := 12) hx hb dX11_source_7 (by decide) (fun _ => ?_) (fun c1 => absurd c1 (by decide))
  refine lv_aload_n hx hb dX11_source_12 rfl (lv_at hl 0 rfl) ?_
  refine f_11_7 F w (a := 0) rfl tb_113 dX11_source_13 ?_
  refine lv_aload_n hx hb dX11_source_16 rfl (lv_at hl 0 rfl) ?_
  refine f_11_3 F w (a := 0) rfl tb_73 dX11_source_17 ?_
  refine lv_aload_n hx hb dX11_source_20 rfl (lv_at hl 0 rfl) ?_
  refine f_11_3 F w (a := 0) rfl tb_73 dX11_source_21 ?_
  refine lv_aload_n hx hb dX11_source_24 rfl (lv_at hl 0 rfl) ?_
  refine f_11_3 F w (a := 0) rfl tb_73 dX11_source_25 ?_
  refine f_0_2 F w (a := 22) rfl tb_216 dX11_source_28 ?_
  refine r_val (v := 0) (h0) ?_
  refine x_Vr F w (As := [.int 0]) (rest := [.ref (B + 22), .ref (B + 135)]) (a := 22) (by decide) (sh_0 rfl _ _) rfl (c_X0_stageOf_207 (h0) (h1)) gv_X11_196 hv_X0_stageOf ⟨Nat.le_of_ble_eq_true rfl, Nat.le_of_ble_eq_true rfl⟩ hl.1 rfl (Nat.le_of_ble_eq_true rfl) ⟨Nat.zero_le _, Nat.zero_le _⟩ dX11_source_31 (fun H locs w => ?_)
  refine lv_iload_n hx hb dX11_source_34 rfl (lv_at hl 1 rfl) ?_
  refine k_Vv F w (As := [.ref (B + 22), .ref (B + 44), .int 2]) (rest := []) (a := 135) (by decide) (sh_6 rfl _ _) rfl (c_X6_bring_401 (h2) (h3) (h4) (h5) (h6) (h7) (h8) (h9) (h10) (h11) (h12) (h13) (h14) (h0)) gv_X11_285 hv_X6_bring ⟨Nat.le_of_ble_eq_true rfl, Nat.le_of_ble_eq_true rfl⟩ hl.1 rfl (Nat.le_of_ble_eq_true rfl) ⟨Nat.zero_le _, Nat.zero_le _⟩ dX11_source_35 (fun M1 H locs hp w => ?_)
  obtain ⟨e0, e1, e9⟩ := hp
  refine lv_aload_n hx hb dX11_source_38 rfl (lv_at hl 0 rfl) ?_
  refine f_11_7 F w (a := 0) rfl tb_113 dX11_source_39 ?_
  refine f_6_2 F w (a := 135) rfl tb_578 dX11_source_42 ?_
  refine lv_iload_n hx hb dX11_source_45 rfl (lv_at hl 1 rfl) ?_
  refine g_iald F w (a := 137) rfl (j := 2) ⟨by decide, by decide⟩ (by decide) dX11_source_46 ?_
  refine r_val (v := 0) (e1) ?_
  exact e_i F w hr hlocks ⟨rfl, fun a ha => ((e9 a ha).trans (rfl))⟩ dX11_source_47
set_option maxRecDepth 4000 in
theorem c_X12_source_479 {l : Launch} {D : va_G} {B : Nat} {cy : Nat → ClassId} {M : Mem} (h0 : M.1 146 5 = 0) (h1 : M.1 147 0 = 0) (h2 : M.1 148 0 = 0) (h3 : M.1 147 1 = 0) (h4 : M.1 148 1 = 0) (h5 : M.1 147 2 = 0) (h6 : M.1 148 2 = 0) (h7 : M.1 147 3 = 0) (h8 : M.1 148 3 = 0) (h9 : M.1 147 4 = 0) (h10 : M.1 148 4 = 0) (h11 : M.1 147 5 = 0) (h12 : M.1 148 5 = 0) (h13 : M.1 147 6 = 0) (h14 : M.1 148 6 = 0) (h15 : M.1 147 7 = 0) (h16 : M.1 148 7 = 0) (h17 : M.1 147 8 = 0) (h18 : M.1 148 8 = 0) (h19 : M.1 147 9 = 0) (h20 : M.1 148 9 = 0) (h21 : M.1 147 10 = 0) (h22 : M.1 148 10 = 0) (h23 : M.1 147 11 = 0) (h24 : M.1 148 11 = 0) (h25 : M.1 147 12 = 0) (h26 : M.1 148 12 = 0) (h27 : M.1 147 13 = 0) (h28 : M.1 148 13 = 0) (h29 : M.1 147 14 = 0) (h30 : M.1 148 14 = 0) (h31 : M.1 147 15 = 0) (h32 : M.1 148 15 = 0) (h33 : M.1 147 16 = 0) (h34 : M.1 148 16 = 0) (h35 : M.1 147 17 = 0) (h36 : M.1 148 17 = 0) (h37 : M.1 147 18 = 0) (h38 : M.1 148 18 = 0) (h39 : M.1 147 19 = 0) (h40 : M.1 148 19 = 0) (h41 : M.1 147 20 = 0) (h42 : M.1 148 20 = 0) (h43 : M.1 147 21 = 0) (h44 : M.1 148 21 = 0) (h45 : M.1 147 22 = 0) (h46 : M.1 148 22 = 0) (h47 : M.1 147 23 = 0) (h48 : M.1 148 23 = 0) (h49 : M.1 147 24 = 0) (h50 : M.1 148 24 = 0) (h51 : M.1 147 25 = 0) (h52 : M.1 148 25 = 0) (h53 : M.1 147 26 = 0) (h54 : M.1 148 26 = 0) (h55 : M.1 147 27 = 0) (h56 : M.1 148 27 = 0) (h57 : M.1 157 0 = 0) (h58 : M.1 157 1 = 0) (h59 : M.1 157 2 = 0) (h60 : M.1 157 3 = 0) (h61 : M.1 157 4 = 0) (h62 : M.1 157 5 = 0) (h63 : M.1 157 6 = 0) (h64 : M.1 157 7 = 0) (h65 : M.1 157 8 = 0) (h66 : M.1 157 9 = 0) (h67 : M.1 157 10 = 0) (h68 : M.1 157 11 = 0) (h69 : M.1 146 26 = 0) : Ci l D B cy yX12_source cX12_source 2 (some .int) 4 92 [.ref (B + 146), .int 2] M (fun r _ => r = 0) := by
  refine s_any (by decide) (Nat.le_of_ble_eq_true rfl) ?_
  intro p e s m below meth c ls F hr hlocks w hl
  have F : CallFix p m c cX12_source 2 s _ TB RX12 := F
  have hx := F.1
  have hb := F.2.1
  have hl : lv_has ls 2 [(0, .ref (B + 146)), (1, .int 2)] := hl
  refine lv_iload_n hx hb dX12_source_0 rfl (lv_at hl 1 rfl) ?_
  refine lv_iconst (v := 0) hx hb dX12_source_1 (by decide) ?_
  refine lv_bipush (v := 6) hx hb dX12_source_2 (by decide) ?_
  refine x_Si F w (As := [.int 2, .int 0, .int 6]) (rest := []) (c_X12_in_403) gs_X12_55 hs_X12_in ⟨Nat.le_of_ble_eq_true rfl, Nat.le_of_ble_eq_true rfl⟩ hl.1 rfl (Nat.le_of_ble_eq_true rfl) ⟨Nat.zero_le _, Nat.zero_le _⟩ dX12_source_4 (fun H locs w => ?_)
  refine lv_if_ne (tgt := 12) hx hb dX12_source_7 (by decide) (fun _ => ?_) (fun c1 => absurd c1 (by decide))
  refine lv_aload_n hx hb dX12_source_12 rfl (lv_at hl 0 rfl) ?_
  refine lv_iload_n hx hb dX12_source_13 rfl (lv_at hl 1 rfl) ?_
  refine k_Vi F w (As := [.int 2]) (rest := []) (a := 146) (by decide) (sh_12 rfl _ _) rfl (c_X12_sourcesBy_407 (h0) (h1) (h2) (h3) (h4) (h5) (h6) (h7) (h8) (h9) (h10) (h11) (h12) (h13) (h14) (h15) (h16) (h17) (h18) (h19) (h20) (h21) (h22) (h23) (h24) (h25) (h26) (h27) (h28) (h29) (h30) (h31) (h32) (h33) (h34) (h35) (h36) (h37) (h38) (h39) (h40) (h41) (h42) (h43) (h44) (h45) (h46) (h47) (h48) (h49) (h50) (h51) (h52) (h53) (h54) (h55) (h56) (h57) (h58) (h59) (h60) (h61) (h62) (h63) (h64) (h65) (h66) (h67) (h68) (h69)) gv_X12_321 hv_X12_sourcesBy ⟨Nat.le_of_ble_eq_true rfl, Nat.le_of_ble_eq_true rfl⟩ hl.1 rfl (Nat.le_of_ble_eq_true rfl) ⟨Nat.zero_le _, Nat.zero_le _⟩ dX12_source_14 (fun r M1 H locs hp w => ?_)
  obtain ⟨rfl, e0⟩ := hp
  refine lv_pop hx hb dX12_source_17 rfl ?_
  refine lv_aload_n hx hb dX12_source_18 rfl (lv_at hl 0 rfl) ?_
  refine f_12_26 F w (a := 146) rfl tb_567 dX12_source_19 ?_
  refine r_val (v := 0) (e0) ?_
  exact e_i (post := fun r _ => r = 0) F w hr hlocks rfl dX12_source_22
set_option maxRecDepth 8000 in
theorem la_27_102 {p : Program} {l : Launch} {e : Env} {s : State} {m : MethodId} {below : List Frame} {meth : Method} {c : Code} {D : va_G} {B b : Nat} {cy : Nat → ClassId} {H : Heap} {locs : List Loc} {ls : Array Slot} {xs : Nat → Int32} {Q : State → Prop} (F : CallFix p m c code 4 s #[Value.ref b] TB RL) (hX : va_X b 6 xs s s.heap) (hbl : b < s.heap.size) (hbA : ¬ B ≤ b) (w : Wd D B cy s s.heap M0 H locs) (hl : lv_has ls 4 [(3, .int 0), (2, .ref (B + 146)), (1, .ref (B + 0)), (0, .ref b)]) (x1 : xs 1 = 2) (kk : ∀ (M1 : Mem) (H1 : Heap) (locs1 : List Loc), Wd D B cy s s.heap M1 H1 locs1 → W p l e room_1 s m #[Value.ref b] below meth c H1 locs1 159 13107 Q (F0 m 1065 ls [])) : W p l e room_1 s m #[Value.ref b] below meth c H locs 159 13107 Q (F0 m 1019 ls []) := by
  have hx := F.1
  have hb := F.2.1
  refine lv_aload_n hx hb dL_law_1019 rfl (lv_at hl 2 rfl) ?_
  refine lv_aload_n hx hb dL_law_1020 rfl (lv_at hl 3 rfl) ?_
  refine lv_iload_n hx hb dL_law_1021 rfl (lv_at hl 0 rfl) ?_
  refine lv_iconst (v := 1) hx hb dL_law_1022 (by decide) ?_
  refine lv_iadd hx hb dL_law_1023 ?_
  refine r_val (v := 1) (by decide) ?_
  refine va_sld hx hb hX hbl hbA w.2.2.1 (vpi (by decide) (by decide)) dL_law_1024 ?_
  refine r_val (v := 2) ((congrArg xs (show (1 : Int32).toNatClampNeg = 1 by decide)).trans x1) ?_
  refine k_Vi F w (As := [.int 2]) (rest := []) (a := 0) (by decide) (sh_11 rfl _ _) rfl (c_X11_source_478 (rfl) (rfl) (rfl) (rfl) (rfl) (rfl) (rfl) (rfl) (rfl) (rfl) (rfl) (rfl) (rfl) (rfl) (rfl)) gv_L_131 hv_X11_source ⟨Nat.le_of_ble_eq_true rfl, Nat.le_of_ble_eq_true rfl⟩ hl.1 rfl (Nat.le_of_ble_eq_true rfl) ⟨Nat.le_of_ble_eq_true rfl, Nat.le_of_ble_eq_true rfl⟩ dL_law_1025 (fun r M1 H locs hp w => ?_)
  obtain ⟨rfl, e9⟩ := hp
  refine lv_aload_n hx hb dL_law_1028 rfl (lv_at hl 1 rfl) ?_
  refine lv_aload_n hx hb dL_law_1029 rfl (lv_at hl 3 rfl) ?_
  refine lv_iload_n hx hb dL_law_1030 rfl (lv_at hl 0 rfl) ?_
  refine lv_iconst (v := 1) hx hb dL_law_1031 (by decide) ?_
  refine lv_iadd hx hb dL_law_1032 ?_
  refine r_val (v := 1) (by decide) ?_
  refine va_sld hx hb hX hbl hbA w.2.2.1 (vpi (by decide) (by decide)) dL_law_1033 ?_
  refine r_val (v := 2) ((congrArg xs (show (1 : Int32).toNatClampNeg = 1 by decide)).trans x1) ?_
  refine k_Vi F w (As := [.int 2]) (rest := [.int 0]) (a := 146) (by decide) (sh_12 rfl _ _) rfl (c_X12_source_479 ((congrFun (e9 146 (by decide)) 5).trans rfl) ((congrFun (e9 147 (by decide)) 0).trans rfl) ((congrFun (e9 148 (by decide)) 0).trans rfl) ((congrFun (e9 147 (by decide)) 1).trans rfl) ((congrFun (e9 148 (by decide)) 1).trans rfl) ((congrFun (e9 147 (by decide)) 2).trans rfl) ((congrFun (e9 148 (by decide)) 2).trans rfl) ((congrFun (e9 147 (by decide)) 3).trans rfl) ((congrFun (e9 148 (by decide)) 3).trans rfl) ((congrFun (e9 147 (by decide)) 4).trans rfl) ((congrFun (e9 148 (by decide)) 4).trans rfl) ((congrFun (e9 147 (by decide)) 5).trans rfl) ((congrFun (e9 148 (by decide)) 5).trans rfl) ((congrFun (e9 147 (by decide)) 6).trans rfl) ((congrFun (e9 148 (by decide)) 6).trans rfl) ((congrFun (e9 147 (by decide)) 7).trans rfl) ((congrFun (e9 148 (by decide)) 7).trans rfl) ((congrFun (e9 147 (by decide)) 8).trans rfl) ((congrFun (e9 148 (by decide)) 8).trans rfl) ((congrFun (e9 147 (by decide)) 9).trans rfl) ((congrFun (e9 148 (by decide)) 9).trans rfl) ((congrFun (e9 147 (by decide)) 10).trans rfl) ((congrFun (e9 148 (by decide)) 10).trans rfl) ((congrFun (e9 147 (by decide)) 11).trans rfl) ((congrFun (e9 148 (by decide)) 11).trans rfl) ((congrFun (e9 147 (by decide)) 12).trans rfl) ((congrFun (e9 148 (by decide)) 12).trans rfl) ((congrFun (e9 147 (by decide)) 13).trans rfl) ((congrFun (e9 148 (by decide)) 13).trans rfl) ((congrFun (e9 147 (by decide)) 14).trans rfl) ((congrFun (e9 148 (by decide)) 14).trans rfl) ((congrFun (e9 147 (by decide)) 15).trans rfl) ((congrFun (e9 148 (by decide)) 15).trans rfl) ((congrFun (e9 147 (by decide)) 16).trans rfl) ((congrFun (e9 148 (by decide)) 16).trans rfl) ((congrFun (e9 147 (by decide)) 17).trans rfl) ((congrFun (e9 148 (by decide)) 17).trans rfl) ((congrFun (e9 147 (by decide)) 18).trans rfl) ((congrFun (e9 148 (by decide)) 18).trans rfl) ((congrFun (e9 147 (by decide)) 19).trans rfl) ((congrFun (e9 148 (by decide)) 19).trans rfl) ((congrFun (e9 147 (by decide)) 20).trans rfl) ((congrFun (e9 148 (by decide)) 20).trans rfl) ((congrFun (e9 147 (by decide)) 21).trans rfl) ((congrFun (e9 148 (by decide)) 21).trans rfl) ((congrFun (e9 147 (by decide)) 22).trans rfl) ((congrFun (e9 148 (by decide)) 22).trans rfl) ((congrFun (e9 147 (by decide)) 23).trans rfl) ((congrFun (e9 148 (by decide)) 23).trans rfl) ((congrFun (e9 147 (by decide)) 24).trans rfl) ((congrFun (e9 148 (by decide)) 24).trans rfl) ((congrFun (e9 147 (by decide)) 25).trans rfl) ((congrFun (e9 148 (by decide)) 25).trans rfl) ((congrFun (e9 147 (by decide)) 26).trans rfl) ((congrFun (e9 148 (by decide)) 26).trans rfl) ((congrFun (e9 147 (by decide)) 27).trans rfl) ((congrFun (e9 148 (by decide)) 27).trans rfl) ((congrFun (e9 157 (by decide)) 0).trans rfl) ((congrFun (e9 157 (by decide)) 1).trans rfl) ((congrFun (e9 157 (by decide)) 2).trans rfl) ((congrFun (e9 157 (by decide)) 3).trans rfl) ((congrFun (e9 157 (by decide)) 4).trans rfl) ((congrFun (e9 157 (by decide)) 5).trans rfl) ((congrFun (e9 157 (by decide)) 6).trans rfl) ((congrFun (e9 157 (by decide)) 7).trans rfl) ((congrFun (e9 157 (by decide)) 8).trans rfl) ((congrFun (e9 157 (by decide)) 9).trans rfl) ((congrFun (e9 157 (by decide)) 10).trans rfl) ((congrFun (e9 157 (by decide)) 11).trans rfl) ((congrFun (e9 146 (by decide)) 26).trans rfl)) gv_L_134 hv_X12_source ⟨Nat.le_of_ble_eq_true rfl, Nat.le_of_ble_eq_true rfl⟩ hl.1 rfl (Nat.le_of_ble_eq_true rfl) ⟨Nat.le_of_ble_eq_true rfl, Nat.le_of_ble_eq_true rfl⟩ dL_law_1034 (fun r M1 H locs hp w => ?_)
  obtain rfl := hp
  refine lv_icmp_eq (tgt := 1065) hx hb dL_law_1037 (by decide) (fun _ => ?_) (fun c1 => absurd c1 (by decide))
  exact kk _ _ _ w
set_option maxRecDepth 4000 in
theorem c_X11_source_480 {l : Launch} {D : va_G} {B : Nat} {cy : Nat → ClassId} {M : Mem} (h0 : M.1 22 2 = 0) (h1 : M.1 22 7 = 0) (h2 : M.1 135 0 = 0) (h3 : M.1 44 0 = 0) (h4 : M.1 136 3 = 0) (h5 : M.1 137 3 = 0) (h6 : M.1 138 0 = 0) (h7 : M.1 138 1 = 0) (h8 : M.1 138 2 = 0) (h9 : M.1 138 3 = 0) (h10 : M.1 44 1 = 0) (h11 : M.1 44 2 = 0) (h12 : M.1 44 3 = 0) (h13 : M.1 140 0 = 0) (h14 : M.1 140 1 = 0) (h15 : M.1 140 2 = 0) : Ci l D B cy yX11_source cX11_source 2 (some .int) 3 78 [.ref (B + 0), .int 3] M (fun r Mx => r = 0 ∧ ∀ a, 146 ≤ a → Mx.1 a = M.1 a) := by
  refine s_any (by decide) (Nat.le_of_ble_eq_true rfl) ?_
  intro p e s m below meth c ls F hr hlocks w hl
  have F : CallFix p m c cX11_source 2 s _ TB RX11 := F
  have hx := F.1
  have hb := F.2.1
  have hl : lv_has ls 2 [(0, .ref (B + 0)), (1, .int 3)] := hl
  refine lv_iload_n hx hb dX11_source_0 rfl (lv_at hl 1 rfl) ?_
  refine lv_if_lt (tgt := 10) hx hb dX11_source_1 (by decide) (fun c1 => absurd c1 (by decide)) (fun _ => ?_)
  refine lv_iload_n hx hb dX11_source_4 rfl (lv_at hl 1 rfl) ?_
  refine lv_bipush (v := 6) hx hb dX11_source_5 (by decide) ?_
  refine lv_icmp_le (tgt := 12) hx hb dX11_source_7 (by decide) (fun _ => ?_) (fun c1 => absurd c1 (by decide))
  refine lv_aload_n hx hb dX11_source_12 rfl (lv_at hl 0 rfl) ?_
  refine f_11_7 F w (a := 0) rfl tb_113 dX11_source_13 ?_
  refine lv_aload_n hx hb dX11_source_16 rfl (lv_at hl 0 rfl) ?_
  refine f_11_3 F w (a := 0) rfl tb_73 dX11_source_17 ?_
  refine lv_aload_n hx hb dX11_source_20 rfl (lv_at hl 0 rfl) ?_
  refine f_11_3 F w (a := 0) rfl tb_73 dX11_source_21 ?_
  refine lv_aload_n hx hb dX11_source_24 rfl (lv_at hl 0 rfl) ?_
  refine f_11_3 F w (a := 0) rfl tb_73 dX11_source_25 ?_
  refine f_0_2 F w (a := 22) rfl tb_216 dX11_source_28 ?_
  refine r_val (v := 0) (h0) ?_
  refine x_Vr F w (As := [.int 0]) (rest := [.ref (B + 22), .ref (B + 135)]) (a := 22) (by decide) (sh_0 rfl _ _) rfl (c_X0_stageOf_207 (h0) (h1)) gv_X11_196 hv_X0_stageOf ⟨Nat.le_of_ble_eq_true rfl, Nat.le_of_ble_eq_true rfl⟩ hl.1 rfl (Nat.le_of_ble_eq_true rfl) ⟨Nat.zero_le _, Nat.zero_le _⟩ dX11_source_31 (fun H locs w => ?_)
  refine lv_iload_n hx hb dX11_source_34 rfl (lv_at hl 1 rfl) ?_
  refine k_Vv F w (As := [.ref (B + 22), .ref (B + 44), .int 3]) (rest := []) (a := 135) (by decide) (sh_6 rfl _ _) rfl (c_X6_bring_416 (h2) (h3) (h4) (h5) (h6) (h7) (h8) (h9) (h10) (h11) (h12) (h13) (h14) (h15) (h0)) gv_X11_285 hv_X6_bring ⟨Nat.le_of_ble_eq_true rfl, Nat.le_of_ble_eq_true rfl⟩ hl.1 rfl (Nat.le_of_ble_eq_true rfl) ⟨Nat.zero_le _, Nat.zero_le _⟩ dX11_source_35 (fun M1 H locs hp w => ?_)
  obtain ⟨e0, e1, e9⟩ := hp
  refine lv_aload_n hx hb dX11_source_38 rfl (lv_at hl 0 rfl) ?_
  refine f_11_7 F w (a := 0) rfl tb_113 dX11_source_39 ?_
  refine f_6_2 F w (a := 135) rfl tb_578 dX11_source_42 ?_
  refine lv_iload_n hx hb dX11_source_45 rfl (lv_at hl 1 rfl) ?_
  refine g_iald F w (a := 137) rfl (j := 3) ⟨by decide, by decide⟩ (by decide) dX11_source_46 ?_
  refine r_val (v := 0) (e1) ?_
  exact e_i F w hr hlocks ⟨rfl, fun a ha => ((e9 a ha).trans (rfl))⟩ dX11_source_47
set_option maxRecDepth 4000 in
theorem c_X12_source_481 {l : Launch} {D : va_G} {B : Nat} {cy : Nat → ClassId} {M : Mem} (h0 : M.1 146 5 = 0) (h1 : M.1 147 0 = 0) (h2 : M.1 148 0 = 0) (h3 : M.1 147 1 = 0) (h4 : M.1 148 1 = 0) (h5 : M.1 147 2 = 0) (h6 : M.1 148 2 = 0) (h7 : M.1 147 3 = 0) (h8 : M.1 148 3 = 0) (h9 : M.1 147 4 = 0) (h10 : M.1 148 4 = 0) (h11 : M.1 147 5 = 0) (h12 : M.1 148 5 = 0) (h13 : M.1 147 6 = 0) (h14 : M.1 148 6 = 0) (h15 : M.1 147 7 = 0) (h16 : M.1 148 7 = 0) (h17 : M.1 147 8 = 0) (h18 : M.1 148 8 = 0) (h19 : M.1 147 9 = 0) (h20 : M.1 148 9 = 0) (h21 : M.1 147 10 = 0) (h22 : M.1 148 10 = 0) (h23 : M.1 147 11 = 0) (h24 : M.1 148 11 = 0) (h25 : M.1 147 12 = 0) (h26 : M.1 148 12 = 0) (h27 : M.1 147 13 = 0) (h28 : M.1 148 13 = 0) (h29 : M.1 147 14 = 0) (h30 : M.1 148 14 = 0) (h31 : M.1 147 15 = 0) (h32 : M.1 148 15 = 0) (h33 : M.1 147 16 = 0) (h34 : M.1 148 16 = 0) (h35 : M.1 147 17 = 0) (h36 : M.1 148 17 = 0) (h37 : M.1 147 18 = 0) (h38 : M.1 148 18 = 0) (h39 : M.1 147 19 = 0) (h40 : M.1 148 19 = 0) (h41 : M.1 147 20 = 0) (h42 : M.1 148 20 = 0) (h43 : M.1 147 21 = 0) (h44 : M.1 148 21 = 0) (h45 : M.1 147 22 = 0) (h46 : M.1 148 22 = 0) (h47 : M.1 147 23 = 0) (h48 : M.1 148 23 = 0) (h49 : M.1 147 24 = 0) (h50 : M.1 148 24 = 0) (h51 : M.1 147 25 = 0) (h52 : M.1 148 25 = 0) (h53 : M.1 147 26 = 0) (h54 : M.1 148 26 = 0) (h55 : M.1 147 27 = 0) (h56 : M.1 148 27 = 0) (h57 : M.1 157 0 = 0) (h58 : M.1 157 1 = 0) (h59 : M.1 157 2 = 0) (h60 : M.1 157 3 = 0) (h61 : M.1 157 4 = 0) (h62 : M.1 157 5 = 0) (h63 : M.1 157 6 = 0) (h64 : M.1 157 7 = 0) (h65 : M.1 157 8 = 0) (h66 : M.1 157 9 = 0) (h67 : M.1 157 10 = 0) (h68 : M.1 157 11 = 0) (h69 : M.1 146 26 = 0) : Ci l D B cy yX12_source cX12_source 2 (some .int) 4 92 [.ref (B + 146), .int 3] M (fun r _ => r = 0) := by
  refine s_any (by decide) (Nat.le_of_ble_eq_true rfl) ?_
  intro p e s m below meth c ls F hr hlocks w hl
  have F : CallFix p m c cX12_source 2 s _ TB RX12 := F
  have hx := F.1
  have hb := F.2.1
  have hl : lv_has ls 2 [(0, .ref (B + 146)), (1, .int 3)] := hl
  refine lv_iload_n hx hb dX12_source_0 rfl (lv_at hl 1 rfl) ?_
  refine lv_iconst (v := 0) hx hb dX12_source_1 (by decide) ?_
  refine lv_bipush (v := 6) hx hb dX12_source_2 (by decide) ?_
  refine x_Si F w (As := [.int 3, .int 0, .int 6]) (rest := []) (c_X12_in_418) gs_X12_55 hs_X12_in ⟨Nat.le_of_ble_eq_true rfl, Nat.le_of_ble_eq_true rfl⟩ hl.1 rfl (Nat.le_of_ble_eq_true rfl) ⟨Nat.zero_le _, Nat.zero_le _⟩ dX12_source_4 (fun H locs w => ?_)
  refine lv_if_ne (tgt := 12) hx hb dX12_source_7 (by decide) (fun _ => ?_) (fun c1 => absurd c1 (by decide))
  refine lv_aload_n hx hb dX12_source_12 rfl (lv_at hl 0 rfl) ?_
  refine lv_iload_n hx hb dX12_source_13 rfl (lv_at hl 1 rfl) ?_
  refine k_Vi F w (As := [.int 3]) (rest := []) (a := 146) (by decide) (sh_12 rfl _ _) rfl (c_X12_sourcesBy_422 (h0) (h1) (h2) (h3) (h4) (h5) (h6) (h7) (h8) (h9) (h10) (h11) (h12) (h13) (h14) (h15) (h16) (h17) (h18) (h19) (h20) (h21) (h22) (h23) (h24) (h25) (h26) (h27) (h28) (h29) (h30) (h31) (h32) (h33) (h34) (h35) (h36) (h37) (h38) (h39) (h40) (h41) (h42) (h43) (h44) (h45) (h46) (h47) (h48) (h49) (h50) (h51) (h52) (h53) (h54) (h55) (h56) (h57) (h58) (h59) (h60) (h61) (h62) (h63) (h64) (h65) (h66) (h67) (h68) (h69)) gv_X12_321 hv_X12_sourcesBy ⟨Nat.le_of_ble_eq_true rfl, Nat.le_of_ble_eq_true rfl⟩ hl.1 rfl (Nat.le_of_ble_eq_true rfl) ⟨Nat.zero_le _, Nat.zero_le _⟩ dX12_source_14 (fun r M1 H locs hp w => ?_)
  obtain ⟨rfl, e0⟩ := hp
  refine lv_pop hx hb dX12_source_17 rfl ?_
  refine lv_aload_n hx hb dX12_source_18 rfl (lv_at hl 0 rfl) ?_
  refine f_12_26 F w (a := 146) rfl tb_567 dX12_source_19 ?_
  refine r_val (v := 0) (e0) ?_
  exact e_i (post := fun r _ => r = 0) F w hr hlocks rfl dX12_source_22
set_option maxRecDepth 8000 in
theorem la_27_103 {p : Program} {l : Launch} {e : Env} {s : State} {m : MethodId} {below : List Frame} {meth : Method} {c : Code} {D : va_G} {B b : Nat} {cy : Nat → ClassId} {H : Heap} {locs : List Loc} {ls : Array Slot} {xs : Nat → Int32} {Q : State → Prop} (F : CallFix p m c code 4 s #[Value.ref b] TB RL) (hX : va_X b 6 xs s s.heap) (hbl : b < s.heap.size) (hbA : ¬ B ≤ b) (w : Wd D B cy s s.heap M0 H locs) (hl : lv_has ls 4 [(3, .int 0), (2, .ref (B + 146)), (1, .ref (B + 0)), (0, .ref b)]) (x1 : xs 1 = 3) (kk : ∀ (M1 : Mem) (H1 : Heap) (locs1 : List Loc), Wd D B cy s s.heap M1 H1 locs1 → W p l e room_1 s m #[Value.ref b] below meth c H1 locs1 159 13107 Q (F0 m 1065 ls [])) : W p l e room_1 s m #[Value.ref b] below meth c H locs 159 13107 Q (F0 m 1019 ls []) := by
  have hx := F.1
  have hb := F.2.1
  refine lv_aload_n hx hb dL_law_1019 rfl (lv_at hl 2 rfl) ?_
  refine lv_aload_n hx hb dL_law_1020 rfl (lv_at hl 3 rfl) ?_
  refine lv_iload_n hx hb dL_law_1021 rfl (lv_at hl 0 rfl) ?_
  refine lv_iconst (v := 1) hx hb dL_law_1022 (by decide) ?_
  refine lv_iadd hx hb dL_law_1023 ?_
  refine r_val (v := 1) (by decide) ?_
  refine va_sld hx hb hX hbl hbA w.2.2.1 (vpi (by decide) (by decide)) dL_law_1024 ?_
  refine r_val (v := 3) ((congrArg xs (show (1 : Int32).toNatClampNeg = 1 by decide)).trans x1) ?_
  refine k_Vi F w (As := [.int 3]) (rest := []) (a := 0) (by decide) (sh_11 rfl _ _) rfl (c_X11_source_480 (rfl) (rfl) (rfl) (rfl) (rfl) (rfl) (rfl) (rfl) (rfl) (rfl) (rfl) (rfl) (rfl) (rfl) (rfl) (rfl)) gv_L_131 hv_X11_source ⟨Nat.le_of_ble_eq_true rfl, Nat.le_of_ble_eq_true rfl⟩ hl.1 rfl (Nat.le_of_ble_eq_true rfl) ⟨Nat.le_of_ble_eq_true rfl, Nat.le_of_ble_eq_true rfl⟩ dL_law_1025 (fun r M1 H locs hp w => ?_)
  obtain ⟨rfl, e9⟩ := hp
  refine lv_aload_n hx hb dL_law_1028 rfl (lv_at hl 1 rfl) ?_
  refine lv_aload_n hx hb dL_law_1029 rfl (lv_at hl 3 rfl) ?_
  refine lv_iload_n hx hb dL_law_1030 rfl (lv_at hl 0 rfl) ?_
  refine lv_iconst (v := 1) hx hb dL_law_1031 (by decide) ?_
  refine lv_iadd hx hb dL_law_1032 ?_
  refine r_val (v := 1) (by decide) ?_
  refine va_sld hx hb hX hbl hbA w.2.2.1 (vpi (by decide) (by decide)) dL_law_1033 ?_
  refine r_val (v := 3) ((congrArg xs (show (1 : Int32).toNatClampNeg = 1 by decide)).trans x1) ?_
  refine k_Vi F w (As := [.int 3]) (rest := [.int 0]) (a := 146) (by decide) (sh_12 rfl _ _) rfl (c_X12_source_481 ((congrFun (e9 146 (by decide)) 5).trans rfl) ((congrFun (e9 147 (by decide)) 0).trans rfl) ((congrFun (e9 148 (by decide)) 0).trans rfl) ((congrFun (e9 147 (by decide)) 1).trans rfl) ((congrFun (e9 148 (by decide)) 1).trans rfl) ((congrFun (e9 147 (by decide)) 2).trans rfl) ((congrFun (e9 148 (by decide)) 2).trans rfl) ((congrFun (e9 147 (by decide)) 3).trans rfl) ((congrFun (e9 148 (by decide)) 3).trans rfl) ((congrFun (e9 147 (by decide)) 4).trans rfl) ((congrFun (e9 148 (by decide)) 4).trans rfl) ((congrFun (e9 147 (by decide)) 5).trans rfl) ((congrFun (e9 148 (by decide)) 5).trans rfl) ((congrFun (e9 147 (by decide)) 6).trans rfl) ((congrFun (e9 148 (by decide)) 6).trans rfl) ((congrFun (e9 147 (by decide)) 7).trans rfl) ((congrFun (e9 148 (by decide)) 7).trans rfl) ((congrFun (e9 147 (by decide)) 8).trans rfl) ((congrFun (e9 148 (by decide)) 8).trans rfl) ((congrFun (e9 147 (by decide)) 9).trans rfl) ((congrFun (e9 148 (by decide)) 9).trans rfl) ((congrFun (e9 147 (by decide)) 10).trans rfl) ((congrFun (e9 148 (by decide)) 10).trans rfl) ((congrFun (e9 147 (by decide)) 11).trans rfl) ((congrFun (e9 148 (by decide)) 11).trans rfl) ((congrFun (e9 147 (by decide)) 12).trans rfl) ((congrFun (e9 148 (by decide)) 12).trans rfl) ((congrFun (e9 147 (by decide)) 13).trans rfl) ((congrFun (e9 148 (by decide)) 13).trans rfl) ((congrFun (e9 147 (by decide)) 14).trans rfl) ((congrFun (e9 148 (by decide)) 14).trans rfl) ((congrFun (e9 147 (by decide)) 15).trans rfl) ((congrFun (e9 148 (by decide)) 15).trans rfl) ((congrFun (e9 147 (by decide)) 16).trans rfl) ((congrFun (e9 148 (by decide)) 16).trans rfl) ((congrFun (e9 147 (by decide)) 17).trans rfl) ((congrFun (e9 148 (by decide)) 17).trans rfl) ((congrFun (e9 147 (by decide)) 18).trans rfl) ((congrFun (e9 148 (by decide)) 18).trans rfl) ((congrFun (e9 147 (by decide)) 19).trans rfl) ((congrFun (e9 148 (by decide)) 19).trans rfl) ((congrFun (e9 147 (by decide)) 20).trans rfl) ((congrFun (e9 148 (by decide)) 20).trans rfl) ((congrFun (e9 147 (by decide)) 21).trans rfl) ((congrFun (e9 148 (by decide)) 21).trans rfl) ((congrFun (e9 147 (by decide)) 22).trans rfl) ((congrFun (e9 148 (by decide)) 22).trans rfl) ((congrFun (e9 147 (by decide)) 23).trans rfl) ((congrFun (e9 148 (by decide)) 23).trans rfl) ((congrFun (e9 147 (by decide)) 24).trans rfl) ((congrFun (e9 148 (by decide)) 24).trans rfl) ((congrFun (e9 147 (by decide)) 25).trans rfl) ((congrFun (e9 148 (by decide)) 25).trans rfl) ((congrFun (e9 147 (by decide)) 26).trans rfl) ((congrFun (e9 148 (by decide)) 26).trans rfl) ((congrFun (e9 147 (by decide)) 27).trans rfl) ((congrFun (e9 148 (by decide)) 27).trans rfl) ((congrFun (e9 157 (by decide)) 0).trans rfl) ((congrFun (e9 157 (by decide)) 1).trans rfl) ((congrFun (e9 157 (by decide)) 2).trans rfl) ((congrFun (e9 157 (by decide)) 3).trans rfl) ((congrFun (e9 157 (by decide)) 4).trans rfl) ((congrFun (e9 157 (by decide)) 5).trans rfl) ((congrFun (e9 157 (by decide)) 6).trans rfl) ((congrFun (e9 157 (by decide)) 7).trans rfl) ((congrFun (e9 157 (by decide)) 8).trans rfl) ((congrFun (e9 157 (by decide)) 9).trans rfl) ((congrFun (e9 157 (by decide)) 10).trans rfl) ((congrFun (e9 157 (by decide)) 11).trans rfl) ((congrFun (e9 146 (by decide)) 26).trans rfl)) gv_L_134 hv_X12_source ⟨Nat.le_of_ble_eq_true rfl, Nat.le_of_ble_eq_true rfl⟩ hl.1 rfl (Nat.le_of_ble_eq_true rfl) ⟨Nat.le_of_ble_eq_true rfl, Nat.le_of_ble_eq_true rfl⟩ dL_law_1034 (fun r M1 H locs hp w => ?_)
  obtain rfl := hp
  refine lv_icmp_eq (tgt := 1065) hx hb dL_law_1037 (by decide) (fun _ => ?_) (fun c1 => absurd c1 (by decide))
  exact kk _ _ _ w
set_option maxRecDepth 4000 in
theorem c_X11_source_482 {l : Launch} {D : va_G} {B : Nat} {cy : Nat → ClassId} {M : Mem} (h0 : M.1 22 2 = 0) (h1 : M.1 22 7 = 0) (h2 : M.1 135 0 = 0) (h3 : M.1 44 0 = 0) (h4 : M.1 136 4 = 0) (h5 : M.1 137 4 = 0) (h6 : M.1 138 0 = 0) (h7 : M.1 138 1 = 0) (h8 : M.1 138 2 = 0) (h9 : M.1 138 3 = 0) (h10 : M.1 44 1 = 0) (h11 : M.1 44 2 = 0) (h12 : M.1 44 3 = 0) (h13 : M.1 140 0 = 0) (h14 : M.1 140 1 = 0) (h15 : M.1 140 2 = 0) (h16 : M.1 140 3 = 0) : Ci l D B cy yX11_source cX11_source 2 (some .int) 3 78 [.ref (B + 0), .int 4] M (fun r Mx => r = 0 ∧ ∀ a, 146 ≤ a → Mx.1 a = M.1 a) := by
  refine s_any (by decide) (Nat.le_of_ble_eq_true rfl) ?_
  intro p e s m below meth c ls F hr hlocks w hl
  have F : CallFix p m c cX11_source 2 s _ TB RX11 := F
  have hx := F.1
  have hb := F.2.1
  have hl : lv_has ls 2 [(0, .ref (B + 0)), (1, .int 4)] := hl
  refine lv_iload_n hx hb dX11_source_0 rfl (lv_at hl 1 rfl) ?_
  refine lv_if_lt (tgt := 10) hx hb dX11_source_1 (by decide) (fun c1 => absurd c1 (by decide)) (fun _ => ?_)
  refine lv_iload_n hx hb dX11_source_4 rfl (lv_at hl 1 rfl) ?_
  refine lv_bipush (v := 6) hx hb dX11_source_5 (by decide) ?_
  refine lv_icmp_le (tgt := 12) hx hb dX11_source_7 (by decide) (fun _ => ?_) (fun c1 => absurd c1 (by decide))
  refine lv_aload_n hx hb dX11_source_12 rfl (lv_at hl 0 rfl) ?_
  refine f_11_7 F w (a := 0) rfl tb_113 dX11_source_13 ?_
  refine lv_aload_n hx hb dX11_source_16 rfl (lv_at hl 0 rfl) ?_
  refine f_11_3 F w (a := 0) rfl tb_73 dX11_source_17 ?_
  refine lv_aload_n hx hb dX11_source_20 rfl (lv_at hl 0 rfl) ?_
  refine f_11_3 F w (a := 0) rfl tb_73 dX11_source_21 ?_
  refine lv_aload_n hx hb dX11_source_24 rfl (lv_at hl 0 rfl) ?_
  refine f_11_3 F w (a := 0) rfl tb_73 dX11_source_25 ?_
  refine f_0_2 F w (a := 22) rfl tb_216 dX11_source_28 ?_
  refine r_val (v := 0) (h0) ?_
  refine x_Vr F w (As := [.int 0]) (rest := [.ref (B + 22), .ref (B + 135)]) (a := 22) (by decide) (sh_0 rfl _ _) rfl (c_X0_stageOf_207 (h0) (h1)) gv_X11_196 hv_X0_stageOf ⟨Nat.le_of_ble_eq_true rfl, Nat.le_of_ble_eq_true rfl⟩ hl.1 rfl (Nat.le_of_ble_eq_true rfl) ⟨Nat.zero_le _, Nat.zero_le _⟩ dX11_source_31 (fun H locs w => ?_)
  refine lv_iload_n hx hb dX11_source_34 rfl (lv_at hl 1 rfl) ?_
  refine k_Vv F w (As := [.ref (B + 22), .ref (B + 44), .int 4]) (rest := []) (a := 135) (by decide) (sh_6 rfl _ _) rfl (c_X6_bring_431 (h2) (h3) (h4) (h5) (h6) (h7) (h8) (h9) (h10) (h11) (h12) (h13) (h14) (h15) (h16) (h0)) gv_X11_285 hv_X6_bring ⟨Nat.le_of_ble_eq_true rfl, Nat.le_of_ble_eq_true rfl⟩ hl.1 rfl (Nat.le_of_ble_eq_true rfl) ⟨Nat.zero_le _, Nat.zero_le _⟩ dX11_source_35 (fun M1 H locs hp w => ?_)
  obtain ⟨e0, e1, e9⟩ := hp
  refine lv_aload_n hx hb dX11_source_38 rfl (lv_at hl 0 rfl) ?_
  refine f_11_7 F w (a := 0) rfl tb_113 dX11_source_39 ?_
  refine f_6_2 F w (a := 135) rfl tb_578 dX11_source_42 ?_
  refine lv_iload_n hx hb dX11_source_45 rfl (lv_at hl 1 rfl) ?_
  refine g_iald F w (a := 137) rfl (j := 4) ⟨by decide, by decide⟩ (by decide) dX11_source_46 ?_
  refine r_val (v := 0) (e1) ?_
  exact e_i F w hr hlocks ⟨rfl, fun a ha => ((e9 a ha).trans (rfl))⟩ dX11_source_47
set_option maxRecDepth 4000 in
theorem c_X12_source_483 {l : Launch} {D : va_G} {B : Nat} {cy : Nat → ClassId} {M : Mem} (h0 : M.1 146 5 = 0) (h1 : M.1 147 0 = 0) (h2 : M.1 148 0 = 0) (h3 : M.1 147 1 = 0) (h4 : M.1 148 1 = 0) (h5 : M.1 147 2 = 0) (h6 : M.1 148 2 = 0) (h7 : M.1 147 3 = 0) (h8 : M.1 148 3 = 0) (h9 : M.1 147 4 = 0) (h10 : M.1 148 4 = 0) (h11 : M.1 147 5 = 0) (h12 : M.1 148 5 = 0) (h13 : M.1 147 6 = 0) (h14 : M.1 148 6 = 0) (h15 : M.1 147 7 = 0) (h16 : M.1 148 7 = 0) (h17 : M.1 147 8 = 0) (h18 : M.1 148 8 = 0) (h19 : M.1 147 9 = 0) (h20 : M.1 148 9 = 0) (h21 : M.1 147 10 = 0) (h22 : M.1 148 10 = 0) (h23 : M.1 147 11 = 0) (h24 : M.1 148 11 = 0) (h25 : M.1 147 12 = 0) (h26 : M.1 148 12 = 0) (h27 : M.1 147 13 = 0) (h28 : M.1 148 13 = 0) (h29 : M.1 147 14 = 0) (h30 : M.1 148 14 = 0) (h31 : M.1 147 15 = 0) (h32 : M.1 148 15 = 0) (h33 : M.1 147 16 = 0) (h34 : M.1 148 16 = 0) (h35 : M.1 147 17 = 0) (h36 : M.1 148 17 = 0) (h37 : M.1 147 18 = 0) (h38 : M.1 148 18 = 0) (h39 : M.1 147 19 = 0) (h40 : M.1 148 19 = 0) (h41 : M.1 147 20 = 0) (h42 : M.1 148 20 = 0) (h43 : M.1 147 21 = 0) (h44 : M.1 148 21 = 0) (h45 : M.1 147 22 = 0) (h46 : M.1 148 22 = 0) (h47 : M.1 147 23 = 0) (h48 : M.1 148 23 = 0) (h49 : M.1 147 24 = 0) (h50 : M.1 148 24 = 0) (h51 : M.1 147 25 = 0) (h52 : M.1 148 25 = 0) (h53 : M.1 147 26 = 0) (h54 : M.1 148 26 = 0) (h55 : M.1 147 27 = 0) (h56 : M.1 148 27 = 0) (h57 : M.1 157 0 = 0) (h58 : M.1 157 1 = 0) (h59 : M.1 157 2 = 0) (h60 : M.1 157 3 = 0) (h61 : M.1 157 4 = 0) (h62 : M.1 157 5 = 0) (h63 : M.1 157 6 = 0) (h64 : M.1 157 7 = 0) (h65 : M.1 157 8 = 0) (h66 : M.1 157 9 = 0) (h67 : M.1 157 10 = 0) (h68 : M.1 157 11 = 0) (h69 : M.1 146 26 = 0) : Ci l D B cy yX12_source cX12_source 2 (some .int) 4 92 [.ref (B + 146), .int 4] M (fun r _ => r = 0) := by
  refine s_any (by decide) (Nat.le_of_ble_eq_true rfl) ?_
  intro p e s m below meth c ls F hr hlocks w hl
  have F : CallFix p m c cX12_source 2 s _ TB RX12 := F
  have hx := F.1
  have hb := F.2.1
  have hl : lv_has ls 2 [(0, .ref (B + 146)), (1, .int 4)] := hl
  refine lv_iload_n hx hb dX12_source_0 rfl (lv_at hl 1 rfl) ?_
  refine lv_iconst (v := 0) hx hb dX12_source_1 (by decide) ?_
  refine lv_bipush (v := 6) hx hb dX12_source_2 (by decide) ?_
  refine x_Si F w (As := [.int 4, .int 0, .int 6]) (rest := []) (c_X12_in_433) gs_X12_55 hs_X12_in ⟨Nat.le_of_ble_eq_true rfl, Nat.le_of_ble_eq_true rfl⟩ hl.1 rfl (Nat.le_of_ble_eq_true rfl) ⟨Nat.zero_le _, Nat.zero_le _⟩ dX12_source_4 (fun H locs w => ?_)
  refine lv_if_ne (tgt := 12) hx hb dX12_source_7 (by decide) (fun _ => ?_) (fun c1 => absurd c1 (by decide))
  refine lv_aload_n hx hb dX12_source_12 rfl (lv_at hl 0 rfl) ?_
  refine lv_iload_n hx hb dX12_source_13 rfl (lv_at hl 1 rfl) ?_
  refine k_Vi F w (As := [.int 4]) (rest := []) (a := 146) (by decide) (sh_12 rfl _ _) rfl (c_X12_sourcesBy_437 (h0) (h1) (h2) (h3) (h4) (h5) (h6) (h7) (h8) (h9) (h10) (h11) (h12) (h13) (h14) (h15) (h16) (h17) (h18) (h19) (h20) (h21) (h22) (h23) (h24) (h25) (h26) (h27) (h28) (h29) (h30) (h31) (h32) (h33) (h34) (h35) (h36) (h37) (h38) (h39) (h40) (h41) (h42) (h43) (h44) (h45) (h46) (h47) (h48) (h49) (h50) (h51) (h52) (h53) (h54) (h55) (h56) (h57) (h58) (h59) (h60) (h61) (h62) (h63) (h64) (h65) (h66) (h67) (h68) (h69)) gv_X12_321 hv_X12_sourcesBy ⟨Nat.le_of_ble_eq_true rfl, Nat.le_of_ble_eq_true rfl⟩ hl.1 rfl (Nat.le_of_ble_eq_true rfl) ⟨Nat.zero_le _, Nat.zero_le _⟩ dX12_source_14 (fun r M1 H locs hp w => ?_)
  obtain ⟨rfl, e0⟩ := hp
  refine lv_pop hx hb dX12_source_17 rfl ?_
  refine lv_aload_n hx hb dX12_source_18 rfl (lv_at hl 0 rfl) ?_
  refine f_12_26 F w (a := 146) rfl tb_567 dX12_source_19 ?_
  refine r_val (v := 0) (e0) ?_
  exact e_i (post := fun r _ => r = 0) F w hr hlocks rfl dX12_source_22
set_option maxRecDepth 8000 in
theorem la_27_104 {p : Program} {l : Launch} {e : Env} {s : State} {m : MethodId} {below : List Frame} {meth : Method} {c : Code} {D : va_G} {B b : Nat} {cy : Nat → ClassId} {H : Heap} {locs : List Loc} {ls : Array Slot} {xs : Nat → Int32} {Q : State → Prop} (F : CallFix p m c code 4 s #[Value.ref b] TB RL) (hX : va_X b 6 xs s s.heap) (hbl : b < s.heap.size) (hbA : ¬ B ≤ b) (w : Wd D B cy s s.heap M0 H locs) (hl : lv_has ls 4 [(3, .int 0), (2, .ref (B + 146)), (1, .ref (B + 0)), (0, .ref b)]) (x1 : xs 1 = 4) (kk : ∀ (M1 : Mem) (H1 : Heap) (locs1 : List Loc), Wd D B cy s s.heap M1 H1 locs1 → W p l e room_1 s m #[Value.ref b] below meth c H1 locs1 159 13107 Q (F0 m 1065 ls [])) : W p l e room_1 s m #[Value.ref b] below meth c H locs 159 13107 Q (F0 m 1019 ls []) := by
  have hx := F.1
  have hb := F.2.1
  refine lv_aload_n hx hb dL_law_1019 rfl (lv_at hl 2 rfl) ?_
  refine lv_aload_n hx hb dL_law_1020 rfl (lv_at hl 3 rfl) ?_
  refine lv_iload_n hx hb dL_law_1021 rfl (lv_at hl 0 rfl) ?_
  refine lv_iconst (v := 1) hx hb dL_law_1022 (by decide) ?_
  refine lv_iadd hx hb dL_law_1023 ?_
  refine r_val (v := 1) (by decide) ?_
  refine va_sld hx hb hX hbl hbA w.2.2.1 (vpi (by decide) (by decide)) dL_law_1024 ?_
  refine r_val (v := 4) ((congrArg xs (show (1 : Int32).toNatClampNeg = 1 by decide)).trans x1) ?_
  refine k_Vi F w (As := [.int 4]) (rest := []) (a := 0) (by decide) (sh_11 rfl _ _) rfl (c_X11_source_482 (rfl) (rfl) (rfl) (rfl) (rfl) (rfl) (rfl) (rfl) (rfl) (rfl) (rfl) (rfl) (rfl) (rfl) (rfl) (rfl) (rfl)) gv_L_131 hv_X11_source ⟨Nat.le_of_ble_eq_true rfl, Nat.le_of_ble_eq_true rfl⟩ hl.1 rfl (Nat.le_of_ble_eq_true rfl) ⟨Nat.le_of_ble_eq_true rfl, Nat.le_of_ble_eq_true rfl⟩ dL_law_1025 (fun r M1 H locs hp w => ?_)
  obtain ⟨rfl, e9⟩ := hp
  refine lv_aload_n hx hb dL_law_1028 rfl (lv_at hl 1 rfl) ?_
  refine lv_aload_n hx hb dL_law_1029 rfl (lv_at hl 3 rfl) ?_
  refine lv_iload_n hx hb dL_law_1030 rfl (lv_at hl 0 rfl) ?_
  refine lv_iconst (v := 1) hx hb dL_law_1031 (by decide) ?_
  refine lv_iadd hx hb dL_law_1032 ?_
  refine r_val (v := 1) (by decide) ?_
  refine va_sld hx hb hX hbl hbA w.2.2.1 (vpi (by decide) (by decide)) dL_law_1033 ?_
  refine r_val (v := 4) ((congrArg xs (show (1 : Int32).toNatClampNeg = 1 by decide)).trans x1) ?_
  refine k_Vi F w (As := [.int 4]) (rest := [.int 0]) (a := 146) (by decide) (sh_12 rfl _ _) rfl (c_X12_source_483 ((congrFun (e9 146 (by decide)) 5).trans rfl) ((congrFun (e9 147 (by decide)) 0).trans rfl) ((congrFun (e9 148 (by decide)) 0).trans rfl) ((congrFun (e9 147 (by decide)) 1).trans rfl) ((congrFun (e9 148 (by decide)) 1).trans rfl) ((congrFun (e9 147 (by decide)) 2).trans rfl) ((congrFun (e9 148 (by decide)) 2).trans rfl) ((congrFun (e9 147 (by decide)) 3).trans rfl) ((congrFun (e9 148 (by decide)) 3).trans rfl) ((congrFun (e9 147 (by decide)) 4).trans rfl) ((congrFun (e9 148 (by decide)) 4).trans rfl) ((congrFun (e9 147 (by decide)) 5).trans rfl) ((congrFun (e9 148 (by decide)) 5).trans rfl) ((congrFun (e9 147 (by decide)) 6).trans rfl) ((congrFun (e9 148 (by decide)) 6).trans rfl) ((congrFun (e9 147 (by decide)) 7).trans rfl) ((congrFun (e9 148 (by decide)) 7).trans rfl) ((congrFun (e9 147 (by decide)) 8).trans rfl) ((congrFun (e9 148 (by decide)) 8).trans rfl) ((congrFun (e9 147 (by decide)) 9).trans rfl) ((congrFun (e9 148 (by decide)) 9).trans rfl) ((congrFun (e9 147 (by decide)) 10).trans rfl) ((congrFun (e9 148 (by decide)) 10).trans rfl) ((congrFun (e9 147 (by decide)) 11).trans rfl) ((congrFun (e9 148 (by decide)) 11).trans rfl) ((congrFun (e9 147 (by decide)) 12).trans rfl) ((congrFun (e9 148 (by decide)) 12).trans rfl) ((congrFun (e9 147 (by decide)) 13).trans rfl) ((congrFun (e9 148 (by decide)) 13).trans rfl) ((congrFun (e9 147 (by decide)) 14).trans rfl) ((congrFun (e9 148 (by decide)) 14).trans rfl) ((congrFun (e9 147 (by decide)) 15).trans rfl) ((congrFun (e9 148 (by decide)) 15).trans rfl) ((congrFun (e9 147 (by decide)) 16).trans rfl) ((congrFun (e9 148 (by decide)) 16).trans rfl) ((congrFun (e9 147 (by decide)) 17).trans rfl) ((congrFun (e9 148 (by decide)) 17).trans rfl) ((congrFun (e9 147 (by decide)) 18).trans rfl) ((congrFun (e9 148 (by decide)) 18).trans rfl) ((congrFun (e9 147 (by decide)) 19).trans rfl) ((congrFun (e9 148 (by decide)) 19).trans rfl) ((congrFun (e9 147 (by decide)) 20).trans rfl) ((congrFun (e9 148 (by decide)) 20).trans rfl) ((congrFun (e9 147 (by decide)) 21).trans rfl) ((congrFun (e9 148 (by decide)) 21).trans rfl) ((congrFun (e9 147 (by decide)) 22).trans rfl) ((congrFun (e9 148 (by decide)) 22).trans rfl) ((congrFun (e9 147 (by decide)) 23).trans rfl) ((congrFun (e9 148 (by decide)) 23).trans rfl) ((congrFun (e9 147 (by decide)) 24).trans rfl) ((congrFun (e9 148 (by decide)) 24).trans rfl) ((congrFun (e9 147 (by decide)) 25).trans rfl) ((congrFun (e9 148 (by decide)) 25).trans rfl) ((congrFun (e9 147 (by decide)) 26).trans rfl) ((congrFun (e9 148 (by decide)) 26).trans rfl) ((congrFun (e9 147 (by decide)) 27).trans rfl) ((congrFun (e9 148 (by decide)) 27).trans rfl) ((congrFun (e9 157 (by decide)) 0).trans rfl) ((congrFun (e9 157 (by decide)) 1).trans rfl) ((congrFun (e9 157 (by decide)) 2).trans rfl) ((congrFun (e9 157 (by decide)) 3).trans rfl) ((congrFun (e9 157 (by decide)) 4).trans rfl) ((congrFun (e9 157 (by decide)) 5).trans rfl) ((congrFun (e9 157 (by decide)) 6).trans rfl) ((congrFun (e9 157 (by decide)) 7).trans rfl) ((congrFun (e9 157 (by decide)) 8).trans rfl) ((congrFun (e9 157 (by decide)) 9).trans rfl) ((congrFun (e9 157 (by decide)) 10).trans rfl) ((congrFun (e9 157 (by decide)) 11).trans rfl) ((congrFun (e9 146 (by decide)) 26).trans rfl)) gv_L_134 hv_X12_source ⟨Nat.le_of_ble_eq_true rfl, Nat.le_of_ble_eq_true rfl⟩ hl.1 rfl (Nat.le_of_ble_eq_true rfl) ⟨Nat.le_of_ble_eq_true rfl, Nat.le_of_ble_eq_true rfl⟩ dL_law_1034 (fun r M1 H locs hp w => ?_)
  obtain rfl := hp
  refine lv_icmp_eq (tgt := 1065) hx hb dL_law_1037 (by decide) (fun _ => ?_) (fun c1 => absurd c1 (by decide))
  exact kk _ _ _ w
set_option maxRecDepth 4000 in
theorem c_X11_source_484 {l : Launch} {D : va_G} {B : Nat} {cy : Nat → ClassId} {M : Mem} (h0 : M.1 22 2 = 0) (h1 : M.1 22 7 = 0) (h2 : M.1 135 0 = 0) (h3 : M.1 44 0 = 0) (h4 : M.1 136 5 = 0) (h5 : M.1 137 5 = 0) (h6 : M.1 138 0 = 0) (h7 : M.1 138 1 = 0) (h8 : M.1 138 2 = 0) (h9 : M.1 138 3 = 0) (h10 : M.1 44 1 = 0) (h11 : M.1 44 2 = 0) (h12 : M.1 44 3 = 0) (h13 : M.1 140 0 = 0) (h14 : M.1 140 1 = 0) (h15 : M.1 140 2 = 0) (h16 : M.1 140 3 = 0) (h17 : M.1 140 4 = 0) : Ci l D B cy yX11_source cX11_source 2 (some .int) 3 78 [.ref (B + 0), .int 5] M (fun r Mx => r = 0 ∧ ∀ a, 146 ≤ a → Mx.1 a = M.1 a) := by
  refine s_any (by decide) (Nat.le_of_ble_eq_true rfl) ?_
  intro p e s m below meth c ls F hr hlocks w hl
  have F : CallFix p m c cX11_source 2 s _ TB RX11 := F
  have hx := F.1
  have hb := F.2.1
  have hl : lv_has ls 2 [(0, .ref (B + 0)), (1, .int 5)] := hl
  refine lv_iload_n hx hb dX11_source_0 rfl (lv_at hl 1 rfl) ?_
  refine lv_if_lt (tgt := 10) hx hb dX11_source_1 (by decide) (fun c1 => absurd c1 (by decide)) (fun _ => ?_)
  refine lv_iload_n hx hb dX11_source_4 rfl (lv_at hl 1 rfl) ?_
  refine lv_bipush (v := 6) hx hb dX11_source_5 (by decide) ?_
  refine lv_icmp_le (tgt := 12) hx hb dX11_source_7 (by decide) (fun _ => ?_) (fun c1 => absurd c1 (by decide))
  refine lv_aload_n hx hb dX11_source_12 rfl (lv_at hl 0 rfl) ?_
  refine f_11_7 F w (a := 0) rfl tb_113 dX11_source_13 ?_
  refine lv_aload_n hx hb dX11_source_16 rfl (lv_at hl 0 rfl) ?_
  refine f_11_3 F w (a := 0) rfl tb_73 dX11_source_17 ?_
  refine lv_aload_n hx hb dX11_source_20 rfl (lv_at hl 0 rfl) ?_
  refine f_11_3 F w (a := 0) rfl tb_73 dX11_source_21 ?_
  refine lv_aload_n hx hb dX11_source_24 rfl (lv_at hl 0 rfl) ?_
  refine f_11_3 F w (a := 0) rfl tb_73 dX11_source_25 ?_
  refine f_0_2 F w (a := 22) rfl tb_216 dX11_source_28 ?_
  refine r_val (v := 0) (h0) ?_
  refine x_Vr F w (As := [.int 0]) (rest := [.ref (B + 22), .ref (B + 135)]) (a := 22) (by decide) (sh_0 rfl _ _) rfl (c_X0_stageOf_207 (h0) (h1)) gv_X11_196 hv_X0_stageOf ⟨Nat.le_of_ble_eq_true rfl, Nat.le_of_ble_eq_true rfl⟩ hl.1 rfl (Nat.le_of_ble_eq_true rfl) ⟨Nat.zero_le _, Nat.zero_le _⟩ dX11_source_31 (fun H locs w => ?_)
  refine lv_iload_n hx hb dX11_source_34 rfl (lv_at hl 1 rfl) ?_
  refine k_Vv F w (As := [.ref (B + 22), .ref (B + 44), .int 5]) (rest := []) (a := 135) (by decide) (sh_6 rfl _ _) rfl (c_X6_bring_446 (h2) (h3) (h4) (h5) (h6) (h7) (h8) (h9) (h10) (h11) (h12) (h13) (h14) (h15) (h16) (h17) (h0)) gv_X11_285 hv_X6_bring ⟨Nat.le_of_ble_eq_true rfl, Nat.le_of_ble_eq_true rfl⟩ hl.1 rfl (Nat.le_of_ble_eq_true rfl) ⟨Nat.zero_le _, Nat.zero_le _⟩ dX11_source_35 (fun M1 H locs hp w => ?_)
  obtain ⟨e0, e1, e9⟩ := hp
  refine lv_aload_n hx hb dX11_source_38 rfl (lv_at hl 0 rfl) ?_
  refine f_11_7 F w (a := 0) rfl tb_113 dX11_source_39 ?_
  refine f_6_2 F w (a := 135) rfl tb_578 dX11_source_42 ?_
  refine lv_iload_n hx hb dX11_source_45 rfl (lv_at hl 1 rfl) ?_
  refine g_iald F w (a := 137) rfl (j := 5) ⟨by decide, by decide⟩ (by decide) dX11_source_46 ?_
  refine r_val (v := 0) (e1) ?_
  exact e_i F w hr hlocks ⟨rfl, fun a ha => ((e9 a ha).trans (rfl))⟩ dX11_source_47
set_option maxRecDepth 4000 in
theorem c_X12_source_485 {l : Launch} {D : va_G} {B : Nat} {cy : Nat → ClassId} {M : Mem} (h0 : M.1 146 5 = 0) (h1 : M.1 147 0 = 0) (h2 : M.1 148 0 = 0) (h3 : M.1 147 1 = 0) (h4 : M.1 148 1 = 0) (h5 : M.1 147 2 = 0) (h6 : M.1 148 2 = 0) (h7 : M.1 147 3 = 0) (h8 : M.1 148 3 = 0) (h9 : M.1 147 4 = 0) (h10 : M.1 148 4 = 0) (h11 : M.1 147 5 = 0) (h12 : M.1 148 5 = 0) (h13 : M.1 147 6 = 0) (h14 : M.1 148 6 = 0) (h15 : M.1 147 7 = 0) (h16 : M.1 148 7 = 0) (h17 : M.1 147 8 = 0) (h18 : M.1 148 8 = 0) (h19 : M.1 147 9 = 0) (h20 : M.1 148 9 = 0) (h21 : M.1 147 10 = 0) (h22 : M.1 148 10 = 0) (h23 : M.1 147 11 = 0) (h24 : M.1 148 11 = 0) (h25 : M.1 147 12 = 0) (h26 : M.1 148 12 = 0) (h27 : M.1 147 13 = 0) (h28 : M.1 148 13 = 0) (h29 : M.1 147 14 = 0) (h30 : M.1 148 14 = 0) (h31 : M.1 147 15 = 0) (h32 : M.1 148 15 = 0) (h33 : M.1 147 16 = 0) (h34 : M.1 148 16 = 0) (h35 : M.1 147 17 = 0) (h36 : M.1 148 17 = 0) (h37 : M.1 147 18 = 0) (h38 : M.1 148 18 = 0) (h39 : M.1 147 19 = 0) (h40 : M.1 148 19 = 0) (h41 : M.1 147 20 = 0) (h42 : M.1 148 20 = 0) (h43 : M.1 147 21 = 0) (h44 : M.1 148 21 = 0) (h45 : M.1 147 22 = 0) (h46 : M.1 148 22 = 0) (h47 : M.1 147 23 = 0) (h48 : M.1 148 23 = 0) (h49 : M.1 147 24 = 0) (h50 : M.1 148 24 = 0) (h51 : M.1 147 25 = 0) (h52 : M.1 148 25 = 0) (h53 : M.1 147 26 = 0) (h54 : M.1 148 26 = 0) (h55 : M.1 147 27 = 0) (h56 : M.1 148 27 = 0) (h57 : M.1 157 0 = 0) (h58 : M.1 157 1 = 0) (h59 : M.1 157 2 = 0) (h60 : M.1 157 3 = 0) (h61 : M.1 157 4 = 0) (h62 : M.1 157 5 = 0) (h63 : M.1 157 6 = 0) (h64 : M.1 157 7 = 0) (h65 : M.1 157 8 = 0) (h66 : M.1 157 9 = 0) (h67 : M.1 157 10 = 0) (h68 : M.1 157 11 = 0) (h69 : M.1 146 26 = 0) : Ci l D B cy yX12_source cX12_source 2 (some .int) 4 92 [.ref (B + 146), .int 5] M (fun r _ => r = 0) := by
  refine s_any (by decide) (Nat.le_of_ble_eq_true rfl) ?_
  intro p e s m below meth c ls F hr hlocks w hl
  have F : CallFix p m c cX12_source 2 s _ TB RX12 := F
  have hx := F.1
  have hb := F.2.1
  have hl : lv_has ls 2 [(0, .ref (B + 146)), (1, .int 5)] := hl
  refine lv_iload_n hx hb dX12_source_0 rfl (lv_at hl 1 rfl) ?_
  refine lv_iconst (v := 0) hx hb dX12_source_1 (by decide) ?_
  refine lv_bipush (v := 6) hx hb dX12_source_2 (by decide) ?_
  refine x_Si F w (As := [.int 5, .int 0, .int 6]) (rest := []) (c_X12_in_448) gs_X12_55 hs_X12_in ⟨Nat.le_of_ble_eq_true rfl, Nat.le_of_ble_eq_true rfl⟩ hl.1 rfl (Nat.le_of_ble_eq_true rfl) ⟨Nat.zero_le _, Nat.zero_le _⟩ dX12_source_4 (fun H locs w => ?_)
  refine lv_if_ne (tgt := 12) hx hb dX12_source_7 (by decide) (fun _ => ?_) (fun c1 => absurd c1 (by decide))
  refine lv_aload_n hx hb dX12_source_12 rfl (lv_at hl 0 rfl) ?_
  refine lv_iload_n hx hb dX12_source_13 rfl (lv_at hl 1 rfl) ?_
  refine k_Vi F w (As := [.int 5]) (rest := []) (a := 146) (by decide) (sh_12 rfl _ _) rfl (c_X12_sourcesBy_452 (h0) (h1) (h2) (h3) (h4) (h5) (h6) (h7) (h8) (h9) (h10) (h11) (h12) (h13) (h14) (h15) (h16) (h17) (h18) (h19) (h20) (h21) (h22) (h23) (h24) (h25) (h26) (h27) (h28) (h29) (h30) (h31) (h32) (h33) (h34) (h35) (h36) (h37) (h38) (h39) (h40) (h41) (h42) (h43) (h44) (h45) (h46) (h47) (h48) (h49) (h50) (h51) (h52) (h53) (h54) (h55) (h56) (h57) (h58) (h59) (h60) (h61) (h62) (h63) (h64) (h65) (h66) (h67) (h68) (h69)) gv_X12_321 hv_X12_sourcesBy ⟨Nat.le_of_ble_eq_true rfl, Nat.le_of_ble_eq_true rfl⟩ hl.1 rfl (Nat.le_of_ble_eq_true rfl) ⟨Nat.zero_le _, Nat.zero_le _⟩ dX12_source_14 (fun r M1 H locs hp w => ?_)
  obtain ⟨rfl, e0⟩ := hp
  refine lv_pop hx hb dX12_source_17 rfl ?_
  refine lv_aload_n hx hb dX12_source_18 rfl (lv_at hl 0 rfl) ?_
  refine f_12_26 F w (a := 146) rfl tb_567 dX12_source_19 ?_
  refine r_val (v := 0) (e0) ?_
  exact e_i (post := fun r _ => r = 0) F w hr hlocks rfl dX12_source_22
set_option maxRecDepth 8000 in
theorem la_27_105 {p : Program} {l : Launch} {e : Env} {s : State} {m : MethodId} {below : List Frame} {meth : Method} {c : Code} {D : va_G} {B b : Nat} {cy : Nat → ClassId} {H : Heap} {locs : List Loc} {ls : Array Slot} {xs : Nat → Int32} {Q : State → Prop} (F : CallFix p m c code 4 s #[Value.ref b] TB RL) (hX : va_X b 6 xs s s.heap) (hbl : b < s.heap.size) (hbA : ¬ B ≤ b) (w : Wd D B cy s s.heap M0 H locs) (hl : lv_has ls 4 [(3, .int 0), (2, .ref (B + 146)), (1, .ref (B + 0)), (0, .ref b)]) (x1 : xs 1 = 5) (kk : ∀ (M1 : Mem) (H1 : Heap) (locs1 : List Loc), Wd D B cy s s.heap M1 H1 locs1 → W p l e room_1 s m #[Value.ref b] below meth c H1 locs1 159 13107 Q (F0 m 1065 ls [])) : W p l e room_1 s m #[Value.ref b] below meth c H locs 159 13107 Q (F0 m 1019 ls []) := by
  have hx := F.1
  have hb := F.2.1
  refine lv_aload_n hx hb dL_law_1019 rfl (lv_at hl 2 rfl) ?_
  refine lv_aload_n hx hb dL_law_1020 rfl (lv_at hl 3 rfl) ?_
  refine lv_iload_n hx hb dL_law_1021 rfl (lv_at hl 0 rfl) ?_
  refine lv_iconst (v := 1) hx hb dL_law_1022 (by decide) ?_
  refine lv_iadd hx hb dL_law_1023 ?_
  refine r_val (v := 1) (by decide) ?_
  refine va_sld hx hb hX hbl hbA w.2.2.1 (vpi (by decide) (by decide)) dL_law_1024 ?_
  refine r_val (v := 5) ((congrArg xs (show (1 : Int32).toNatClampNeg = 1 by decide)).trans x1) ?_
  refine k_Vi F w (As := [.int 5]) (rest := []) (a := 0) (by decide) (sh_11 rfl _ _) rfl (c_X11_source_484 (rfl) (rfl) (rfl) (rfl) (rfl) (rfl) (rfl) (rfl) (rfl) (rfl) (rfl) (rfl) (rfl) (rfl) (rfl) (rfl) (rfl) (rfl)) gv_L_131 hv_X11_source ⟨Nat.le_of_ble_eq_true rfl, Nat.le_of_ble_eq_true rfl⟩ hl.1 rfl (Nat.le_of_ble_eq_true rfl) ⟨Nat.le_of_ble_eq_true rfl, Nat.le_of_ble_eq_true rfl⟩ dL_law_1025 (fun r M1 H locs hp w => ?_)
  obtain ⟨rfl, e9⟩ := hp
  refine lv_aload_n hx hb dL_law_1028 rfl (lv_at hl 1 rfl) ?_
  refine lv_aload_n hx hb dL_law_1029 rfl (lv_at hl 3 rfl) ?_
  refine lv_iload_n hx hb dL_law_1030 rfl (lv_at hl 0 rfl) ?_
  refine lv_iconst (v := 1) hx hb dL_law_1031 (by decide) ?_
  refine lv_iadd hx hb dL_law_1032 ?_
  refine r_val (v := 1) (by decide) ?_
  refine va_sld hx hb hX hbl hbA w.2.2.1 (vpi (by decide) (by decide)) dL_law_1033 ?_
  refine r_val (v := 5) ((congrArg xs (show (1 : Int32).toNatClampNeg = 1 by decide)).trans x1) ?_
  refine k_Vi F w (As := [.int 5]) (rest := [.int 0]) (a := 146) (by decide) (sh_12 rfl _ _) rfl (c_X12_source_485 ((congrFun (e9 146 (by decide)) 5).trans rfl) ((congrFun (e9 147 (by decide)) 0).trans rfl) ((congrFun (e9 148 (by decide)) 0).trans rfl) ((congrFun (e9 147 (by decide)) 1).trans rfl) ((congrFun (e9 148 (by decide)) 1).trans rfl) ((congrFun (e9 147 (by decide)) 2).trans rfl) ((congrFun (e9 148 (by decide)) 2).trans rfl) ((congrFun (e9 147 (by decide)) 3).trans rfl) ((congrFun (e9 148 (by decide)) 3).trans rfl) ((congrFun (e9 147 (by decide)) 4).trans rfl) ((congrFun (e9 148 (by decide)) 4).trans rfl) ((congrFun (e9 147 (by decide)) 5).trans rfl) ((congrFun (e9 148 (by decide)) 5).trans rfl) ((congrFun (e9 147 (by decide)) 6).trans rfl) ((congrFun (e9 148 (by decide)) 6).trans rfl) ((congrFun (e9 147 (by decide)) 7).trans rfl) ((congrFun (e9 148 (by decide)) 7).trans rfl) ((congrFun (e9 147 (by decide)) 8).trans rfl) ((congrFun (e9 148 (by decide)) 8).trans rfl) ((congrFun (e9 147 (by decide)) 9).trans rfl) ((congrFun (e9 148 (by decide)) 9).trans rfl) ((congrFun (e9 147 (by decide)) 10).trans rfl) ((congrFun (e9 148 (by decide)) 10).trans rfl) ((congrFun (e9 147 (by decide)) 11).trans rfl) ((congrFun (e9 148 (by decide)) 11).trans rfl) ((congrFun (e9 147 (by decide)) 12).trans rfl) ((congrFun (e9 148 (by decide)) 12).trans rfl) ((congrFun (e9 147 (by decide)) 13).trans rfl) ((congrFun (e9 148 (by decide)) 13).trans rfl) ((congrFun (e9 147 (by decide)) 14).trans rfl) ((congrFun (e9 148 (by decide)) 14).trans rfl) ((congrFun (e9 147 (by decide)) 15).trans rfl) ((congrFun (e9 148 (by decide)) 15).trans rfl) ((congrFun (e9 147 (by decide)) 16).trans rfl) ((congrFun (e9 148 (by decide)) 16).trans rfl) ((congrFun (e9 147 (by decide)) 17).trans rfl) ((congrFun (e9 148 (by decide)) 17).trans rfl) ((congrFun (e9 147 (by decide)) 18).trans rfl) ((congrFun (e9 148 (by decide)) 18).trans rfl) ((congrFun (e9 147 (by decide)) 19).trans rfl) ((congrFun (e9 148 (by decide)) 19).trans rfl) ((congrFun (e9 147 (by decide)) 20).trans rfl) ((congrFun (e9 148 (by decide)) 20).trans rfl) ((congrFun (e9 147 (by decide)) 21).trans rfl) ((congrFun (e9 148 (by decide)) 21).trans rfl) ((congrFun (e9 147 (by decide)) 22).trans rfl) ((congrFun (e9 148 (by decide)) 22).trans rfl) ((congrFun (e9 147 (by decide)) 23).trans rfl) ((congrFun (e9 148 (by decide)) 23).trans rfl) ((congrFun (e9 147 (by decide)) 24).trans rfl) ((congrFun (e9 148 (by decide)) 24).trans rfl) ((congrFun (e9 147 (by decide)) 25).trans rfl) ((congrFun (e9 148 (by decide)) 25).trans rfl) ((congrFun (e9 147 (by decide)) 26).trans rfl) ((congrFun (e9 148 (by decide)) 26).trans rfl) ((congrFun (e9 147 (by decide)) 27).trans rfl) ((congrFun (e9 148 (by decide)) 27).trans rfl) ((congrFun (e9 157 (by decide)) 0).trans rfl) ((congrFun (e9 157 (by decide)) 1).trans rfl) ((congrFun (e9 157 (by decide)) 2).trans rfl) ((congrFun (e9 157 (by decide)) 3).trans rfl) ((congrFun (e9 157 (by decide)) 4).trans rfl) ((congrFun (e9 157 (by decide)) 5).trans rfl) ((congrFun (e9 157 (by decide)) 6).trans rfl) ((congrFun (e9 157 (by decide)) 7).trans rfl) ((congrFun (e9 157 (by decide)) 8).trans rfl) ((congrFun (e9 157 (by decide)) 9).trans rfl) ((congrFun (e9 157 (by decide)) 10).trans rfl) ((congrFun (e9 157 (by decide)) 11).trans rfl) ((congrFun (e9 146 (by decide)) 26).trans rfl)) gv_L_134 hv_X12_source ⟨Nat.le_of_ble_eq_true rfl, Nat.le_of_ble_eq_true rfl⟩ hl.1 rfl (Nat.le_of_ble_eq_true rfl) ⟨Nat.le_of_ble_eq_true rfl, Nat.le_of_ble_eq_true rfl⟩ dL_law_1034 (fun r M1 H locs hp w => ?_)
  obtain rfl := hp
  refine lv_icmp_eq (tgt := 1065) hx hb dL_law_1037 (by decide) (fun _ => ?_) (fun c1 => absurd c1 (by decide))
  exact kk _ _ _ w
set_option maxRecDepth 4000 in
theorem c_X11_source_486 {l : Launch} {D : va_G} {B : Nat} {cy : Nat → ClassId} {M : Mem} (h0 : M.1 22 2 = 0) (h1 : M.1 22 7 = 0) (h2 : M.1 135 0 = 0) (h3 : M.1 44 0 = 0) (h4 : M.1 136 6 = 0) (h5 : M.1 137 6 = 0) (h6 : M.1 138 0 = 0) (h7 : M.1 138 1 = 0) (h8 : M.1 138 2 = 0) (h9 : M.1 138 3 = 0) (h10 : M.1 44 1 = 0) (h11 : M.1 44 2 = 0) (h12 : M.1 44 3 = 0) (h13 : M.1 140 0 = 0) (h14 : M.1 140 1 = 0) (h15 : M.1 140 2 = 0) (h16 : M.1 140 3 = 0) (h17 : M.1 140 4 = 0) (h18 : M.1 140 5 = 0) : Ci l D B cy yX11_source cX11_source 2 (some .int) 3 78 [.ref (B + 0), .int 6] M (fun r Mx => r = 0 ∧ ∀ a, 146 ≤ a → Mx.1 a = M.1 a) := by
  refine s_any (by decide) (Nat.le_of_ble_eq_true rfl) ?_
  intro p e s m below meth c ls F hr hlocks w hl
  have F : CallFix p m c cX11_source 2 s _ TB RX11 := F
  have hx := F.1
  have hb := F.2.1
  have hl : lv_has ls 2 [(0, .ref (B + 0)), (1, .int 6)] := hl
  refine lv_iload_n hx hb dX11_source_0 rfl (lv_at hl 1 rfl) ?_
  refine lv_if_lt (tgt := 10) hx hb dX11_source_1 (by decide) (fun c1 => absurd c1 (by decide)) (fun _ => ?_)
  refine lv_iload_n hx hb dX11_source_4 rfl (lv_at hl 1 rfl) ?_
  refine lv_bipush (v := 6) hx hb dX11_source_5 (by decide) ?_
  refine lv_icmp_le (tgt := 12) hx hb dX11_source_7 (by decide) (fun _ => ?_) (fun c1 => absurd c1 (by decide))
  refine lv_aload_n hx hb dX11_source_12 rfl (lv_at hl 0 rfl) ?_
  refine f_11_7 F w (a := 0) rfl tb_113 dX11_source_13 ?_
  refine lv_aload_n hx hb dX11_source_16 rfl (lv_at hl 0 rfl) ?_
  refine f_11_3 F w (a := 0) rfl tb_73 dX11_source_17 ?_
  refine lv_aload_n hx hb dX11_source_20 rfl (lv_at hl 0 rfl) ?_
  refine f_11_3 F w (a := 0) rfl tb_73 dX11_source_21 ?_
  refine lv_aload_n hx hb dX11_source_24 rfl (lv_at hl 0 rfl) ?_
  refine f_11_3 F w (a := 0) rfl tb_73 dX11_source_25 ?_
  refine f_0_2 F w (a := 22) rfl tb_216 dX11_source_28 ?_
  refine r_val (v := 0) (h0) ?_
  refine x_Vr F w (As := [.int 0]) (rest := [.ref (B + 22), .ref (B + 135)]) (a := 22) (by decide) (sh_0 rfl _ _) rfl (c_X0_stageOf_207 (h0) (h1)) gv_X11_196 hv_X0_stageOf ⟨Nat.le_of_ble_eq_true rfl, Nat.le_of_ble_eq_true rfl⟩ hl.1 rfl (Nat.le_of_ble_eq_true rfl) ⟨Nat.zero_le _, Nat.zero_le _⟩ dX11_source_31 (fun H locs w => ?_)
  refine lv_iload_n hx hb dX11_source_34 rfl (lv_at hl 1 rfl) ?_
  refine k_Vv F w (As := [.ref (B + 22), .ref (B + 44), .int 6]) (rest := []) (a := 135) (by decide) (sh_6 rfl _ _) rfl (c_X6_bring_461 (h2) (h3) (h4) (h5) (h6) (h7) (h8) (h9) (h10) (h11) (h12) (h13) (h14) (h15) (h16) (h17) (h18) (h0)) gv_X11_285 hv_X6_bring ⟨Nat.le_of_ble_eq_true rfl, Nat.le_of_ble_eq_true rfl⟩ hl.1 rfl (Nat.le_of_ble_eq_true rfl) ⟨Nat.zero_le _, Nat.zero_le _⟩ dX11_source_35 (fun M1 H locs hp w => ?_)
  obtain ⟨e0, e1, e9⟩ := hp
  refine lv_aload_n hx hb dX11_source_38 rfl (lv_at hl 0 rfl) ?_
  refine f_11_7 F w (a := 0) rfl tb_113 dX11_source_39 ?_
  refine f_6_2 F w (a := 135) rfl tb_578 dX11_source_42 ?_
  refine lv_iload_n hx hb dX11_source_45 rfl (lv_at hl 1 rfl) ?_
  refine g_iald F w (a := 137) rfl (j := 6) ⟨by decide, by decide⟩ (by decide) dX11_source_46 ?_
  refine r_val (v := 0) (e1) ?_
  exact e_i F w hr hlocks ⟨rfl, fun a ha => ((e9 a ha).trans (rfl))⟩ dX11_source_47
set_option maxRecDepth 4000 in
theorem c_X12_source_487 {l : Launch} {D : va_G} {B : Nat} {cy : Nat → ClassId} {M : Mem} (h0 : M.1 146 5 = 0) (h1 : M.1 147 0 = 0) (h2 : M.1 148 0 = 0) (h3 : M.1 147 1 = 0) (h4 : M.1 148 1 = 0) (h5 : M.1 147 2 = 0) (h6 : M.1 148 2 = 0) (h7 : M.1 147 3 = 0) (h8 : M.1 148 3 = 0) (h9 : M.1 147 4 = 0) (h10 : M.1 148 4 = 0) (h11 : M.1 147 5 = 0) (h12 : M.1 148 5 = 0) (h13 : M.1 147 6 = 0) (h14 : M.1 148 6 = 0) (h15 : M.1 147 7 = 0) (h16 : M.1 148 7 = 0) (h17 : M.1 147 8 = 0) (h18 : M.1 148 8 = 0) (h19 : M.1 147 9 = 0) (h20 : M.1 148 9 = 0) (h21 : M.1 147 10 = 0) (h22 : M.1 148 10 = 0) (h23 : M.1 147 11 = 0) (h24 : M.1 148 11 = 0) (h25 : M.1 147 12 = 0) (h26 : M.1 148 12 = 0) (h27 : M.1 147 13 = 0) (h28 : M.1 148 13 = 0) (h29 : M.1 147 14 = 0) (h30 : M.1 148 14 = 0) (h31 : M.1 147 15 = 0) (h32 : M.1 148 15 = 0) (h33 : M.1 147 16 = 0) (h34 : M.1 148 16 = 0) (h35 : M.1 147 17 = 0) (h36 : M.1 148 17 = 0) (h37 : M.1 147 18 = 0) (h38 : M.1 148 18 = 0) (h39 : M.1 147 19 = 0) (h40 : M.1 148 19 = 0) (h41 : M.1 147 20 = 0) (h42 : M.1 148 20 = 0) (h43 : M.1 147 21 = 0) (h44 : M.1 148 21 = 0) (h45 : M.1 147 22 = 0) (h46 : M.1 148 22 = 0) (h47 : M.1 147 23 = 0) (h48 : M.1 148 23 = 0) (h49 : M.1 147 24 = 0) (h50 : M.1 148 24 = 0) (h51 : M.1 147 25 = 0) (h52 : M.1 148 25 = 0) (h53 : M.1 147 26 = 0) (h54 : M.1 148 26 = 0) (h55 : M.1 147 27 = 0) (h56 : M.1 148 27 = 0) (h57 : M.1 157 0 = 0) (h58 : M.1 157 1 = 0) (h59 : M.1 157 2 = 0) (h60 : M.1 157 3 = 0) (h61 : M.1 157 4 = 0) (h62 : M.1 157 5 = 0) (h63 : M.1 157 6 = 0) (h64 : M.1 157 7 = 0) (h65 : M.1 157 8 = 0) (h66 : M.1 157 9 = 0) (h67 : M.1 157 10 = 0) (h68 : M.1 157 11 = 0) (h69 : M.1 146 26 = 0) : Ci l D B cy yX12_source cX12_source 2 (some .int) 4 92 [.ref (B + 146), .int 6] M (fun r _ => r = 0) := by
  refine s_any (by decide) (Nat.le_of_ble_eq_true rfl) ?_
  intro p e s m below meth c ls F hr hlocks w hl
  have F : CallFix p m c cX12_source 2 s _ TB RX12 := F
  have hx := F.1
  have hb := F.2.1
  have hl : lv_has ls 2 [(0, .ref (B + 146)), (1, .int 6)] := hl
  refine lv_iload_n hx hb dX12_source_0 rfl (lv_at hl 1 rfl) ?_
  refine lv_iconst (v := 0) hx hb dX12_source_1 (by decide) ?_
  refine lv_bipush (v := 6) hx hb dX12_source_2 (by decide) ?_
  refine x_Si F w (As := [.int 6, .int 0, .int 6]) (rest := []) (c_X12_in_463) gs_X12_55 hs_X12_in ⟨Nat.le_of_ble_eq_true rfl, Nat.le_of_ble_eq_true rfl⟩ hl.1 rfl (Nat.le_of_ble_eq_true rfl) ⟨Nat.zero_le _, Nat.zero_le _⟩ dX12_source_4 (fun H locs w => ?_)
  refine lv_if_ne (tgt := 12) hx hb dX12_source_7 (by decide) (fun _ => ?_) (fun c1 => absurd c1 (by decide))
  refine lv_aload_n hx hb dX12_source_12 rfl (lv_at hl 0 rfl) ?_
  refine lv_iload_n hx hb dX12_source_13 rfl (lv_at hl 1 rfl) ?_
  refine k_Vi F w (As := [.int 6]) (rest := []) (a := 146) (by decide) (sh_12 rfl _ _) rfl (c_X12_sourcesBy_467 (h0) (h1) (h2) (h3) (h4) (h5) (h6) (h7) (h8) (h9) (h10) (h11) (h12) (h13) (h14) (h15) (h16) (h17) (h18) (h19) (h20) (h21) (h22) (h23) (h24) (h25) (h26) (h27) (h28) (h29) (h30) (h31) (h32) (h33) (h34) (h35) (h36) (h37) (h38) (h39) (h40) (h41) (h42) (h43) (h44) (h45) (h46) (h47) (h48) (h49) (h50) (h51) (h52) (h53) (h54) (h55) (h56) (h57) (h58) (h59) (h60) (h61) (h62) (h63) (h64) (h65) (h66) (h67) (h68) (h69)) gv_X12_321 hv_X12_sourcesBy ⟨Nat.le_of_ble_eq_true rfl, Nat.le_of_ble_eq_true rfl⟩ hl.1 rfl (Nat.le_of_ble_eq_true rfl) ⟨Nat.zero_le _, Nat.zero_le _⟩ dX12_source_14 (fun r M1 H locs hp w => ?_)
  obtain ⟨rfl, e0⟩ := hp
  refine lv_pop hx hb dX12_source_17 rfl ?_
  refine lv_aload_n hx hb dX12_source_18 rfl (lv_at hl 0 rfl) ?_
  refine f_12_26 F w (a := 146) rfl tb_567 dX12_source_19 ?_
  refine r_val (v := 0) (e0) ?_
  exact e_i (post := fun r _ => r = 0) F w hr hlocks rfl dX12_source_22
set_option maxRecDepth 8000 in
theorem la_27_106 {p : Program} {l : Launch} {e : Env} {s : State} {m : MethodId} {below : List Frame} {meth : Method} {c : Code} {D : va_G} {B b : Nat} {cy : Nat → ClassId} {H : Heap} {locs : List Loc} {ls : Array Slot} {xs : Nat → Int32} {Q : State → Prop} (F : CallFix p m c code 4 s #[Value.ref b] TB RL) (hX : va_X b 6 xs s s.heap) (hbl : b < s.heap.size) (hbA : ¬ B ≤ b) (w : Wd D B cy s s.heap M0 H locs) (hl : lv_has ls 4 [(3, .int 0), (2, .ref (B + 146)), (1, .ref (B + 0)), (0, .ref b)]) (x1 : xs 1 = 6) (kk : ∀ (M1 : Mem) (H1 : Heap) (locs1 : List Loc), Wd D B cy s s.heap M1 H1 locs1 → W p l e room_1 s m #[Value.ref b] below meth c H1 locs1 159 13107 Q (F0 m 1065 ls [])) : W p l e room_1 s m #[Value.ref b] below meth c H locs 159 13107 Q (F0 m 1019 ls []) := by
  have hx := F.1
  have hb := F.2.1
  refine lv_aload_n hx hb dL_law_1019 rfl (lv_at hl 2 rfl) ?_
  refine lv_aload_n hx hb dL_law_1020 rfl (lv_at hl 3 rfl) ?_
  refine lv_iload_n hx hb dL_law_1021 rfl (lv_at hl 0 rfl) ?_
  refine lv_iconst (v := 1) hx hb dL_law_1022 (by decide) ?_
  refine lv_iadd hx hb dL_law_1023 ?_
  refine r_val (v := 1) (by decide) ?_
  refine va_sld hx hb hX hbl hbA w.2.2.1 (vpi (by decide) (by decide)) dL_law_1024 ?_
  refine r_val (v := 6) ((congrArg xs (show (1 : Int32).toNatClampNeg = 1 by decide)).trans x1) ?_
  refine k_Vi F w (As := [.int 6]) (rest := []) (a := 0) (by decide) (sh_11 rfl _ _) rfl (c_X11_source_486 (rfl) (rfl) (rfl) (rfl) (rfl) (rfl) (rfl) (rfl) (rfl) (rfl) (rfl) (rfl) (rfl) (rfl) (rfl) (rfl) (rfl) (rfl) (rfl)) gv_L_131 hv_X11_source ⟨Nat.le_of_ble_eq_true rfl, Nat.le_of_ble_eq_true rfl⟩ hl.1 rfl (Nat.le_of_ble_eq_true rfl) ⟨Nat.le_of_ble_eq_true rfl, Nat.le_of_ble_eq_true rfl⟩ dL_law_1025 (fun r M1 H locs hp w => ?_)
  obtain ⟨rfl, e9⟩ := hp
  refine lv_aload_n hx hb dL_law_1028 rfl (lv_at hl 1 rfl) ?_
  refine lv_aload_n hx hb dL_law_1029 rfl (lv_at hl 3 rfl) ?_
  refine lv_iload_n hx hb dL_law_1030 rfl (lv_at hl 0 rfl) ?_
  refine lv_iconst (v := 1) hx hb dL_law_1031 (by decide) ?_
  refine lv_iadd hx hb dL_law_1032 ?_
  refine r_val (v := 1) (by decide) ?_
  refine va_sld hx hb hX hbl hbA w.2.2.1 (vpi (by decide) (by decide)) dL_law_1033 ?_
  refine r_val (v := 6) ((congrArg xs (show (1 : Int32).toNatClampNeg = 1 by decide)).trans x1) ?_
  refine k_Vi F w (As := [.int 6]) (rest := [.int 0]) (a := 146) (by decide) (sh_12 rfl _ _) rfl (c_X12_source_487 ((congrFun (e9 146 (by decide)) 5).trans rfl) ((congrFun (e9 147 (by decide)) 0).trans rfl) ((congrFun (e9 148 (by decide)) 0).trans rfl) ((congrFun (e9 147 (by decide)) 1).trans rfl) ((congrFun (e9 148 (by decide)) 1).trans rfl) ((congrFun (e9 147 (by decide)) 2).trans rfl) ((congrFun (e9 148 (by decide)) 2).trans rfl) ((congrFun (e9 147 (by decide)) 3).trans rfl) ((congrFun (e9 148 (by decide)) 3).trans rfl) ((congrFun (e9 147 (by decide)) 4).trans rfl) ((congrFun (e9 148 (by decide)) 4).trans rfl) ((congrFun (e9 147 (by decide)) 5).trans rfl) ((congrFun (e9 148 (by decide)) 5).trans rfl) ((congrFun (e9 147 (by decide)) 6).trans rfl) ((congrFun (e9 148 (by decide)) 6).trans rfl) ((congrFun (e9 147 (by decide)) 7).trans rfl) ((congrFun (e9 148 (by decide)) 7).trans rfl) ((congrFun (e9 147 (by decide)) 8).trans rfl) ((congrFun (e9 148 (by decide)) 8).trans rfl) ((congrFun (e9 147 (by decide)) 9).trans rfl) ((congrFun (e9 148 (by decide)) 9).trans rfl) ((congrFun (e9 147 (by decide)) 10).trans rfl) ((congrFun (e9 148 (by decide)) 10).trans rfl) ((congrFun (e9 147 (by decide)) 11).trans rfl) ((congrFun (e9 148 (by decide)) 11).trans rfl) ((congrFun (e9 147 (by decide)) 12).trans rfl) ((congrFun (e9 148 (by decide)) 12).trans rfl) ((congrFun (e9 147 (by decide)) 13).trans rfl) ((congrFun (e9 148 (by decide)) 13).trans rfl) ((congrFun (e9 147 (by decide)) 14).trans rfl) ((congrFun (e9 148 (by decide)) 14).trans rfl) ((congrFun (e9 147 (by decide)) 15).trans rfl) ((congrFun (e9 148 (by decide)) 15).trans rfl) ((congrFun (e9 147 (by decide)) 16).trans rfl) ((congrFun (e9 148 (by decide)) 16).trans rfl) ((congrFun (e9 147 (by decide)) 17).trans rfl) ((congrFun (e9 148 (by decide)) 17).trans rfl) ((congrFun (e9 147 (by decide)) 18).trans rfl) ((congrFun (e9 148 (by decide)) 18).trans rfl) ((congrFun (e9 147 (by decide)) 19).trans rfl) ((congrFun (e9 148 (by decide)) 19).trans rfl) ((congrFun (e9 147 (by decide)) 20).trans rfl) ((congrFun (e9 148 (by decide)) 20).trans rfl) ((congrFun (e9 147 (by decide)) 21).trans rfl) ((congrFun (e9 148 (by decide)) 21).trans rfl) ((congrFun (e9 147 (by decide)) 22).trans rfl) ((congrFun (e9 148 (by decide)) 22).trans rfl) ((congrFun (e9 147 (by decide)) 23).trans rfl) ((congrFun (e9 148 (by decide)) 23).trans rfl) ((congrFun (e9 147 (by decide)) 24).trans rfl) ((congrFun (e9 148 (by decide)) 24).trans rfl) ((congrFun (e9 147 (by decide)) 25).trans rfl) ((congrFun (e9 148 (by decide)) 25).trans rfl) ((congrFun (e9 147 (by decide)) 26).trans rfl) ((congrFun (e9 148 (by decide)) 26).trans rfl) ((congrFun (e9 147 (by decide)) 27).trans rfl) ((congrFun (e9 148 (by decide)) 27).trans rfl) ((congrFun (e9 157 (by decide)) 0).trans rfl) ((congrFun (e9 157 (by decide)) 1).trans rfl) ((congrFun (e9 157 (by decide)) 2).trans rfl) ((congrFun (e9 157 (by decide)) 3).trans rfl) ((congrFun (e9 157 (by decide)) 4).trans rfl) ((congrFun (e9 157 (by decide)) 5).trans rfl) ((congrFun (e9 157 (by decide)) 6).trans rfl) ((congrFun (e9 157 (by decide)) 7).trans rfl) ((congrFun (e9 157 (by decide)) 8).trans rfl) ((congrFun (e9 157 (by decide)) 9).trans rfl) ((congrFun (e9 157 (by decide)) 10).trans rfl) ((congrFun (e9 157 (by decide)) 11).trans rfl) ((congrFun (e9 146 (by decide)) 26).trans rfl)) gv_L_134 hv_X12_source ⟨Nat.le_of_ble_eq_true rfl, Nat.le_of_ble_eq_true rfl⟩ hl.1 rfl (Nat.le_of_ble_eq_true rfl) ⟨Nat.le_of_ble_eq_true rfl, Nat.le_of_ble_eq_true rfl⟩ dL_law_1034 (fun r M1 H locs hp w => ?_)
  obtain rfl := hp
  refine lv_icmp_eq (tgt := 1065) hx hb dL_law_1037 (by decide) (fun _ => ?_) (fun c1 => absurd c1 (by decide))
  exact kk _ _ _ w
set_option maxRecDepth 4000 in
theorem c_X11_source_488 {l : Launch} {D : va_G} {B : Nat} {cy : Nat → ClassId} {M : Mem} {p1 : Int32} (h0 : ¬ p1 < 0) (h1 : ¬ p1 ≤ 6) : Ci l D B cy yX11_source cX11_source 2 (some .int) 0 0 [.ref (B + 0), .int p1] M (fun r M1 => r = (-1) ∧ M1 = M) := by
  refine s_any (by decide) (Nat.le_of_ble_eq_true rfl) ?_
  intro p e s m below meth c ls F hr hlocks w hl
  have F : CallFix p m c cX11_source 2 s _ TB RX11 := F
  have hx := F.1
  have hb := F.2.1
  have hl : lv_has ls 2 [(0, .ref (B + 0)), (1, .int p1)] := hl
  refine lv_iload_n hx hb dX11_source_0 rfl (lv_at hl 1 rfl) ?_
  refine lv_if_lt (tgt := 10) hx hb dX11_source_1 (by decide) (fun c1 => absurd c1 h0) (fun _ => ?_)
  refine lv_iload_n hx hb dX11_source_4 rfl (lv_at hl 1 rfl) ?_
  refine lv_bipush (v := 6) hx hb dX11_source_5 (by decide) ?_
  refine lv_icmp_le (tgt := 12) hx hb dX11_source_7 (by decide) (fun c1 => absurd c1 h1) (fun _ => ?_)
  refine lv_iconst (v := (-1)) hx hb dX11_source_10 (by decide) ?_
  exact e_i F w hr hlocks ⟨rfl, rfl⟩ dX11_source_11
set_option maxRecDepth 4000 in
theorem c_X12_source_489 {l : Launch} {D : va_G} {B : Nat} {cy : Nat → ClassId} {M : Mem} {p1 : Int32} (h0 : ¬ p1 < 0) (h1 : 6 < p1) : Ci l D B cy yX12_source cX12_source 2 (some .int) 1 22 [.ref (B + 146), .int p1] M (fun r M1 => r = (-1) ∧ M1 = M) := by
  refine s_any (by decide) (Nat.le_of_ble_eq_true rfl) ?_
  intro p e s m below meth c ls F hr hlocks w hl
  have F : CallFix p m c cX12_source 2 s _ TB RX12 := F
  have hx := F.1
  have hb := F.2.1
  have hl : lv_has ls 2 [(0, .ref (B + 146)), (1, .int p1)] := hl
  refine lv_iload_n hx hb dX12_source_0 rfl (lv_at hl 1 rfl) ?_
  refine lv_iconst (v := 0) hx hb dX12_source_1 (by decide) ?_
  refine lv_bipush (v := 6) hx hb dX12_source_2 (by decide) ?_
  refine x_Si F w (As := [.int p1, .int 0, .int 6]) (rest := []) (c_X12_in_470 h0 h1) gs_X12_55 hs_X12_in ⟨Nat.le_of_ble_eq_true rfl, Nat.le_of_ble_eq_true rfl⟩ hl.1 rfl (Nat.le_of_ble_eq_true rfl) ⟨Nat.zero_le _, Nat.zero_le _⟩ dX12_source_4 (fun H locs w => ?_)
  refine lv_if_ne (tgt := 12) hx hb dX12_source_7 (by decide) (fun c1 => absurd c1 (by decide)) (fun _ => ?_)
  refine lv_iconst (v := (-1)) hx hb dX12_source_10 (by decide) ?_
  exact e_i F w hr hlocks ⟨rfl, rfl⟩ dX12_source_11
set_option maxRecDepth 8000 in
theorem la_27_107 {p : Program} {l : Launch} {e : Env} {s : State} {m : MethodId} {below : List Frame} {meth : Method} {c : Code} {D : va_G} {B b : Nat} {cy : Nat → ClassId} {H : Heap} {locs : List Loc} {ls : Array Slot} {xs : Nat → Int32} {Q : State → Prop} (F : CallFix p m c code 4 s #[Value.ref b] TB RL) (hX : va_X b 6 xs s s.heap) (hbl : b < s.heap.size) (hbA : ¬ B ≤ b) (w : Wd D B cy s s.heap M0 H locs) (hl : lv_has ls 4 [(3, .int 0), (2, .ref (B + 146)), (1, .ref (B + 0)), (0, .ref b)]) (h0 : ¬ (xs 1) < 0) (h1 : ¬ (xs 1) ≤ 6) (h2 : 6 < (xs 1)) (kk : ∀ (M1 : Mem) (H1 : Heap) (locs1 : List Loc), Wd D B cy s s.heap M1 H1 locs1 → W p l e room_1 s m #[Value.ref b] below meth c H1 locs1 159 13107 Q (F0 m 1065 ls [])) : W p l e room_1 s m #[Value.ref b] below meth c H locs 159 13107 Q (F0 m 1019 ls []) := by
  have hx := F.1
  have hb := F.2.1
  refine lv_aload_n hx hb dL_law_1019 rfl (lv_at hl 2 rfl) ?_
  refine lv_aload_n hx hb dL_law_1020 rfl (lv_at hl 3 rfl) ?_
  refine lv_iload_n hx hb dL_law_1021 rfl (lv_at hl 0 rfl) ?_
  refine lv_iconst (v := 1) hx hb dL_law_1022 (by decide) ?_
  refine lv_iadd hx hb dL_law_1023 ?_
  refine r_val (v := 1) (by decide) ?_
  refine va_sld hx hb hX hbl hbA w.2.2.1 (vpi (by decide) (by decide)) dL_law_1024 ?_
  refine r_val (v := xs 1) (congrArg xs (show (1 : Int32).toNatClampNeg = 1 by decide)) ?_
  refine x_Vi F w (As := [.int (xs 1)]) (rest := []) (a := 0) (by decide) (sh_11 rfl _ _) rfl (c_X11_source_488 h0 h1) gv_L_131 hv_X11_source ⟨Nat.le_of_ble_eq_true rfl, Nat.le_of_ble_eq_true rfl⟩ hl.1 rfl (Nat.le_of_ble_eq_true rfl) ⟨Nat.le_of_ble_eq_true rfl, Nat.le_of_ble_eq_true rfl⟩ dL_law_1025 (fun H locs w => ?_)
  refine lv_aload_n hx hb dL_law_1028 rfl (lv_at hl 1 rfl) ?_
  refine lv_aload_n hx hb dL_law_1029 rfl (lv_at hl 3 rfl) ?_
  refine lv_iload_n hx hb dL_law_1030 rfl (lv_at hl 0 rfl) ?_
  refine lv_iconst (v := 1) hx hb dL_law_1031 (by decide) ?_
  refine lv_iadd hx hb dL_law_1032 ?_
  refine r_val (v := 1) (by decide) ?_
  refine va_sld hx hb hX hbl hbA w.2.2.1 (vpi (by decide) (by decide)) dL_law_1033 ?_
  refine r_val (v := xs 1) (congrArg xs (show (1 : Int32).toNatClampNeg = 1 by decide)) ?_
  refine x_Vi F w (As := [.int (xs 1)]) (rest := [.int (-1)]) (a := 146) (by decide) (sh_12 rfl _ _) rfl (c_X12_source_489 h0 h2) gv_L_134 hv_X12_source ⟨Nat.le_of_ble_eq_true rfl, Nat.le_of_ble_eq_true rfl⟩ hl.1 rfl (Nat.le_of_ble_eq_true rfl) ⟨Nat.le_of_ble_eq_true rfl, Nat.le_of_ble_eq_true rfl⟩ dL_law_1034 (fun H locs w => ?_)
  refine lv_icmp_eq (tgt := 1065) hx hb dL_law_1037 (by decide) (fun _ => ?_) (fun c1 => absurd c1 (by decide))
  exact kk _ _ _ w
set_option maxRecDepth 8000 in
theorem lc_27 {p : Program} {l : Launch} {e : Env} {s : State} {m : MethodId} {below : List Frame} {meth : Method} {c : Code} {D : va_G} {B b : Nat} {cy : Nat → ClassId} {H : Heap} {locs : List Loc} {ls : Array Slot} {xs : Nat → Int32} {Q : State → Prop} (F : CallFix p m c code 4 s #[Value.ref b] TB RL) (hX : va_X b 6 xs s s.heap) (hbl : b < s.heap.size) (hbA : ¬ B ≤ b) (w : Wd D B cy s s.heap M0 H locs) (hl : lv_has ls 4 [(3, .int 0), (2, .ref (B + 146)), (1, .ref (B + 0)), (0, .ref b)]) (kk : ∀ (M1 : Mem) (H1 : Heap) (locs1 : List Loc), Wd D B cy s s.heap M1 H1 locs1 → W p l e room_1 s m #[Value.ref b] below meth c H1 locs1 159 13107 Q (F0 m 1065 ls [])) : W p l e room_1 s m #[Value.ref b] below meth c H locs 159 13107 Q (F0 m 1019 ls []) := by
  rcases (show (xs 1).toInt < 0 ∨ (xs 1).toInt = 0 ∨ (xs 1).toInt = 1 ∨ (xs 1).toInt = 2 ∨ (xs 1).toInt = 3 ∨ (xs 1).toInt = 4 ∨ (xs 1).toInt = 5 ∨ (xs 1).toInt = 6 ∨ 6 < (xs 1).toInt by omega) with h1 | h1 | h1 | h1 | h1 | h1 | h1 | h1 | h1
  · skip
    exact la_27_99 F hX hbl hbA w hl (by rw [Int32.lt_iff_toInt_lt, show (0 : Int32).toInt = 0 from by decide]; omega) kk
  · have x1 : xs 1 = 0 := Int32.toInt_inj.mp (h1.trans (by decide))
    exact la_27_100 F hX hbl hbA w hl x1 kk
  · have x1 : xs 1 = 1 := Int32.toInt_inj.mp (h1.trans (by decide))
    exact la_27_101 F hX hbl hbA w hl x1 kk
  · have x1 : xs 1 = 2 := Int32.toInt_inj.mp (h1.trans (by decide))
    exact la_27_102 F hX hbl hbA w hl x1 kk
  · have x1 : xs 1 = 3 := Int32.toInt_inj.mp (h1.trans (by decide))
    exact la_27_103 F hX hbl hbA w hl x1 kk
  · have x1 : xs 1 = 4 := Int32.toInt_inj.mp (h1.trans (by decide))
    exact la_27_104 F hX hbl hbA w hl x1 kk
  · have x1 : xs 1 = 5 := Int32.toInt_inj.mp (h1.trans (by decide))
    exact la_27_105 F hX hbl hbA w hl x1 kk
  · have x1 : xs 1 = 6 := Int32.toInt_inj.mp (h1.trans (by decide))
    exact la_27_106 F hX hbl hbA w hl x1 kk
  · skip
    exact la_27_107 F hX hbl hbA w hl (by rw [Int32.lt_iff_toInt_lt, show (0 : Int32).toInt = 0 from by decide]; omega) (by rw [Int32.le_iff_toInt_le, show (6 : Int32).toInt = 6 from by decide]; omega) (by rw [Int32.lt_iff_toInt_lt, show (6 : Int32).toInt = 6 from by decide]; omega) kk
theorem dL_law_1042 : decode cL_law 1042 = .ok (.aload_n 1, 1) := by decide +kernel
theorem dL_law_1043 : decode cL_law 1043 = .ok (.aload_n 0, 1) := by decide +kernel
theorem dL_law_1044 : decode cL_law 1044 = .ok (.iload_n 3, 1) := by decide +kernel
theorem dL_law_1045 : decode cL_law 1045 = .ok (.iconst 1, 1) := by decide +kernel
theorem dL_law_1046 : decode cL_law 1046 = .ok (.iadd, 1) := by decide +kernel
theorem dL_law_1047 : decode cL_law 1047 = .ok (.iaload, 1) := by decide +kernel
theorem dL_law_1048 : decode cL_law 1048 = .ok (.invokevirtual 135, 3) := by decide +kernel
theorem dX11_count_0 : decode cX11_count 0 = .ok (.iload_n 1, 1) := by decide +kernel
theorem dX11_count_1 : decode cX11_count 1 = .ok (.tableswitch 78 0 3 #[31, 39, 47, 55], 31) := by decide +kernel
theorem dX11_count_79 : decode cX11_count 79 = .ok (.iconst (-1), 1) := by decide +kernel
theorem dX11_count_80 : decode cX11_count 80 = .ok (.ireturn, 1) := by decide +kernel
set_option maxRecDepth 4000 in
theorem c_X11_count_490 {l : Launch} {D : va_G} {B : Nat} {cy : Nat → ClassId} {M : Mem} {p1 : Int32} (h0 : p1.toInt < 0 ∨ 3 < p1.toInt) : Ci l D B cy yX11_count cX11_count 2 (some .int) 0 0 [.ref (B + 0), .int p1] M (fun r M1 => r = (-1) ∧ M1 = M) := by
  refine s_any (by decide) (Nat.le_of_ble_eq_true rfl) ?_
  intro p e s m below meth c ls F hr hlocks w hl
  have F : CallFix p m c cX11_count 2 s _ TB RX11 := F
  have hx := F.1
  have hb := F.2.1
  have hl : lv_has ls 2 [(0, .ref (B + 0)), (1, .int p1)] := hl
  refine lv_iload_n hx hb dX11_count_0 rfl (lv_at hl 1 rfl) ?_
  refine lv_tableOut (tgt := 79) hx hb dX11_count_1 h0 (by decide) ?_
  refine lv_iconst (v := (-1)) hx hb dX11_count_79 (by decide) ?_
  exact e_i F w hr hlocks ⟨rfl, rfl⟩ dX11_count_80
theorem tk_X11_count : Cond.code yX11_count cX11_count 2 (some .int) ∈ TB := tbm (tc5 (List.mem_of_getElem? (i := 46) rfl)) rfl
theorem gc_X11_count : GoodIn TB (cw yX11_count cX11_count 2 (some .int)) := goodIn_c2 tk_X11_count
theorem tb_579 : Cond.methodLink "ToneLinesLaw" 135 yX11_count ∈ TB := tbm (tc5 (List.mem_of_getElem? (i := 43) rfl)) rfl
theorem tb_580 : Cond.instanceMethod yX11_count ∈ TB := tbm (tc5 (List.mem_of_getElem? (i := 44) rfl)) rfl
theorem tb_581 : Cond.selects "ToneLines" yX11_count yX11_count ∈ TB := tbm (tc5 (List.mem_of_getElem? (i := 45) rfl)) rfl
theorem gv_L_135 : GoodIn TB (wsV RL 135 RX11 yX11_count (cw yX11_count cX11_count 2 (some .int))) := goodIn_4 tb_579 tb_580 tb_581 tb_145 gc_X11_count
theorem hv_X11_count : yX11_count.cls = RX11 ∧ yX11_count.cls ≠ "java/lang/invoke/MethodHandle" ∧ yX11_count.cls ≠ "java/lang/invoke/VarHandle" ∧ (parseMethodDescriptor yX11_count.desc).map (fun d => d.parameters.length) = some 1 := by decide +kernel
theorem dL_law_1051 : decode cL_law 1051 = .ok (.aload_n 2, 1) := by decide +kernel
theorem dL_law_1052 : decode cL_law 1052 = .ok (.aload_n 0, 1) := by decide +kernel
theorem dL_law_1053 : decode cL_law 1053 = .ok (.iload_n 3, 1) := by decide +kernel
theorem dL_law_1054 : decode cL_law 1054 = .ok (.iconst 1, 1) := by decide +kernel
theorem dL_law_1055 : decode cL_law 1055 = .ok (.iadd, 1) := by decide +kernel
theorem dL_law_1056 : decode cL_law 1056 = .ok (.iaload, 1) := by decide +kernel
theorem dL_law_1057 : decode cL_law 1057 = .ok (.invokevirtual 138, 3) := by decide +kernel
theorem dX12_count_0 : decode cX12_count 0 = .ok (.iload_n 1, 1) := by decide +kernel
theorem dX12_count_1 : decode cX12_count 1 = .ok (.tableswitch 51 0 3 #[31, 36, 41, 46], 31) := by decide +kernel
theorem dX12_count_52 : decode cX12_count 52 = .ok (.iconst (-1), 1) := by decide +kernel
theorem dX12_count_53 : decode cX12_count 53 = .ok (.ireturn, 1) := by decide +kernel
set_option maxRecDepth 4000 in
theorem c_X12_count_491 {l : Launch} {D : va_G} {B : Nat} {cy : Nat → ClassId} {M : Mem} {p1 : Int32} (h0 : p1.toInt < 0 ∨ 3 < p1.toInt) : Ci l D B cy yX12_count cX12_count 2 (some .int) 0 0 [.ref (B + 146), .int p1] M (fun r M1 => r = (-1) ∧ M1 = M) := by
  refine s_any (by decide) (Nat.le_of_ble_eq_true rfl) ?_
  intro p e s m below meth c ls F hr hlocks w hl
  have F : CallFix p m c cX12_count 2 s _ TB RX12 := F
  have hx := F.1
  have hb := F.2.1
  have hl : lv_has ls 2 [(0, .ref (B + 146)), (1, .int p1)] := hl
  refine lv_iload_n hx hb dX12_count_0 rfl (lv_at hl 1 rfl) ?_
  refine lv_tableOut (tgt := 52) hx hb dX12_count_1 h0 (by decide) ?_
  refine lv_iconst (v := (-1)) hx hb dX12_count_52 (by decide) ?_
  exact e_i F w hr hlocks ⟨rfl, rfl⟩ dX12_count_53
theorem tk_X12_count : Cond.code yX12_count cX12_count 2 (some .int) ∈ TB := tbm (tc7 (List.mem_of_getElem? (i := 36) rfl)) rfl
theorem gc_X12_count : GoodIn TB (cw yX12_count cX12_count 2 (some .int)) := goodIn_c2 tk_X12_count
theorem tb_582 : Cond.methodLink "ToneLinesLaw" 138 yX12_count ∈ TB := tbm (tc7 (List.mem_of_getElem? (i := 33) rfl)) rfl
theorem tb_583 : Cond.instanceMethod yX12_count ∈ TB := tbm (tc7 (List.mem_of_getElem? (i := 34) rfl)) rfl
theorem tb_584 : Cond.selects "ToneLinesModel" yX12_count yX12_count ∈ TB := tbm (tc7 (List.mem_of_getElem? (i := 35) rfl)) rfl
theorem gv_L_138 : GoodIn TB (wsV RL 138 RX12 yX12_count (cw yX12_count cX12_count 2 (some .int))) := goodIn_4 tb_582 tb_583 tb_584 tb_150 gc_X12_count
theorem hv_X12_count : yX12_count.cls = RX12 ∧ yX12_count.cls ≠ "java/lang/invoke/MethodHandle" ∧ yX12_count.cls ≠ "java/lang/invoke/VarHandle" ∧ (parseMethodDescriptor yX12_count.desc).map (fun d => d.parameters.length) = some 1 := by decide +kernel
theorem dL_law_1060 : decode cL_law 1060 = .ok (.if_icmp .eq 5, 3) := by decide +kernel
set_option maxRecDepth 8000 in
theorem la_28_108 {p : Program} {l : Launch} {e : Env} {s : State} {m : MethodId} {below : List Frame} {meth : Method} {c : Code} {D : va_G} {B b : Nat} {cy : Nat → ClassId} {H : Heap} {locs : List Loc} {ls : Array Slot} {xs : Nat → Int32} {Q : State → Prop} (F : CallFix p m c code 4 s #[Value.ref b] TB RL) (hX : va_X b 6 xs s s.heap) (hbl : b < s.heap.size) (hbA : ¬ B ≤ b) (w : Wd D B cy s s.heap M0 H locs) (hl : lv_has ls 4 [(3, .int 0), (2, .ref (B + 146)), (1, .ref (B + 0)), (0, .ref b)]) (h0 : (xs 1).toInt < 0 ∨ 3 < (xs 1).toInt) (kk : ∀ (M1 : Mem) (H1 : Heap) (locs1 : List Loc), Wd D B cy s s.heap M1 H1 locs1 → W p l e room_1 s m #[Value.ref b] below meth c H1 locs1 159 13107 Q (F0 m 1065 ls [])) : W p l e room_1 s m #[Value.ref b] below meth c H locs 159 13107 Q (F0 m 1042 ls []) := by
  have hx := F.1
  have hb := F.2.1
  refine lv_aload_n hx hb dL_law_1042 rfl (lv_at hl 2 rfl) ?_
  refine lv_aload_n hx hb dL_law_1043 rfl (lv_at hl 3 rfl) ?_
  refine lv_iload_n hx hb dL_law_1044 rfl (lv_at hl 0 rfl) ?_
  refine lv_iconst (v := 1) hx hb dL_law_1045 (by decide) ?_
  refine lv_iadd hx hb dL_law_1046 ?_
  refine r_val (v := 1) (by decide) ?_
  refine va_sld hx hb hX hbl hbA w.2.2.1 (vpi (by decide) (by decide)) dL_law_1047 ?_
  refine r_val (v := xs 1) (congrArg xs (show (1 : Int32).toNatClampNeg = 1 by decide)) ?_
  refine x_Vi F w (As := [.int (xs 1)]) (rest := []) (a := 0) (by decide) (sh_11 rfl _ _) rfl (c_X11_count_490 h0) gv_L_135 hv_X11_count ⟨Nat.le_of_ble_eq_true rfl, Nat.le_of_ble_eq_true rfl⟩ hl.1 rfl (Nat.le_of_ble_eq_true rfl) ⟨Nat.le_of_ble_eq_true rfl, Nat.le_of_ble_eq_true rfl⟩ dL_law_1048 (fun H locs w => ?_)
  refine lv_aload_n hx hb dL_law_1051 rfl (lv_at hl 1 rfl) ?_
  refine lv_aload_n hx hb dL_law_1052 rfl (lv_at hl 3 rfl) ?_
  refine lv_iload_n hx hb dL_law_1053 rfl (lv_at hl 0 rfl) ?_
  refine lv_iconst (v := 1) hx hb dL_law_1054 (by decide) ?_
  refine lv_iadd hx hb dL_law_1055 ?_
  refine r_val (v := 1) (by decide) ?_
  refine va_sld hx hb hX hbl hbA w.2.2.1 (vpi (by decide) (by decide)) dL_law_1056 ?_
  refine r_val (v := xs 1) (congrArg xs (show (1 : Int32).toNatClampNeg = 1 by decide)) ?_
  refine x_Vi F w (As := [.int (xs 1)]) (rest := [.int (-1)]) (a := 146) (by decide) (sh_12 rfl _ _) rfl (c_X12_count_491 h0) gv_L_138 hv_X12_count ⟨Nat.le_of_ble_eq_true rfl, Nat.le_of_ble_eq_true rfl⟩ hl.1 rfl (Nat.le_of_ble_eq_true rfl) ⟨Nat.le_of_ble_eq_true rfl, Nat.le_of_ble_eq_true rfl⟩ dL_law_1057 (fun H locs w => ?_)
  refine lv_icmp_eq (tgt := 1065) hx hb dL_law_1060 (by decide) (fun _ => ?_) (fun c1 => absurd c1 (by decide))
  exact kk _ _ _ w
theorem dX11_count_32 : decode cX11_count 32 = .ok (.aload_n 0, 1) := by decide +kernel
theorem dX11_count_33 : decode cX11_count 33 = .ok (.getfield 35, 3) := by decide +kernel
theorem dX11_count_36 : decode cX11_count 36 = .ok (.getfield 118, 3) := by decide +kernel
theorem dX11_count_39 : decode cX11_count 39 = .ok (.ireturn, 1) := by decide +kernel
set_option maxRecDepth 4000 in
theorem c_X11_count_492 {l : Launch} {D : va_G} {B : Nat} {cy : Nat → ClassId} {M : Mem} (h0 : M.1 22 2 = 0) : Ci l D B cy yX11_count cX11_count 2 (some .int) 0 0 [.ref (B + 0), .int 0] M (fun r M1 => r = 0 ∧ M1 = M) := by
  refine s_any (by decide) (Nat.le_of_ble_eq_true rfl) ?_
  intro p e s m below meth c ls F hr hlocks w hl
  have F : CallFix p m c cX11_count 2 s _ TB RX11 := F
  have hx := F.1
  have hb := F.2.1
  have hl : lv_has ls 2 [(0, .ref (B + 0)), (1, .int 0)] := hl
  refine lv_iload_n hx hb dX11_count_0 rfl (lv_at hl 1 rfl) ?_
  refine lv_tableIn (tgt := 32) hx hb dX11_count_1 (by decide) (by decide) (off := 31) rfl (by decide) ?_
  refine lv_aload_n hx hb dX11_count_32 rfl (lv_at hl 0 rfl) ?_
  refine f_11_3 F w (a := 0) rfl tb_73 dX11_count_33 ?_
  refine f_0_2 F w (a := 22) rfl tb_216 dX11_count_36 ?_
  refine r_val (v := 0) (h0) ?_
  exact e_i F w hr hlocks ⟨rfl, rfl⟩ dX11_count_39
theorem dX12_count_32 : decode cX12_count 32 = .ok (.aload_n 0, 1) := by decide +kernel
theorem dX12_count_33 : decode cX12_count 33 = .ok (.getfield 239, 3) := by decide +kernel
theorem dX12_count_36 : decode cX12_count 36 = .ok (.ireturn, 1) := by decide +kernel
set_option maxRecDepth 4000 in
theorem c_X12_count_493 {l : Launch} {D : va_G} {B : Nat} {cy : Nat → ClassId} {M : Mem} (h0 : M.1 146 5 = 0) : Ci l D B cy yX12_count cX12_count 2 (some .int) 0 0 [.ref (B + 146), .int 0] M (fun r M1 => r = 0 ∧ M1 = M) := by
  refine s_any (by decide) (Nat.le_of_ble_eq_true rfl) ?_
  intro p e s m below meth c ls F hr hlocks w hl
  have F : CallFix p m c cX12_count 2 s _ TB RX12 := F
  have hx := F.1
  have hb := F.2.1
  have hl : lv_has ls 2 [(0, .ref (B + 146)), (1, .int 0)] := hl
  refine lv_iload_n hx hb dX12_count_0 rfl (lv_at hl 1 rfl) ?_
  refine lv_tableIn (tgt := 32) hx hb dX12_count_1 (by decide) (by decide) (off := 31) rfl (by decide) ?_
  refine lv_aload_n hx hb dX12_count_32 rfl (lv_at hl 0 rfl) ?_
  refine f_12_5 F w (a := 146) rfl tb_227 dX12_count_33 ?_
  refine r_val (v := 0) (h0) ?_
  exact e_i F w hr hlocks ⟨rfl, rfl⟩ dX12_count_36
set_option maxRecDepth 8000 in
theorem la_28_109 {p : Program} {l : Launch} {e : Env} {s : State} {m : MethodId} {below : List Frame} {meth : Method} {c : Code} {D : va_G} {B b : Nat} {cy : Nat → ClassId} {H : Heap} {locs : List Loc} {ls : Array Slot} {xs : Nat → Int32} {Q : State → Prop} (F : CallFix p m c code 4 s #[Value.ref b] TB RL) (hX : va_X b 6 xs s s.heap) (hbl : b < s.heap.size) (hbA : ¬ B ≤ b) (w : Wd D B cy s s.heap M0 H locs) (hl : lv_has ls 4 [(3, .int 0), (2, .ref (B + 146)), (1, .ref (B + 0)), (0, .ref b)]) (x1 : xs 1 = 0) (kk : ∀ (M1 : Mem) (H1 : Heap) (locs1 : List Loc), Wd D B cy s s.heap M1 H1 locs1 → W p l e room_1 s m #[Value.ref b] below meth c H1 locs1 159 13107 Q (F0 m 1065 ls [])) : W p l e room_1 s m #[Value.ref b] below meth c H locs 159 13107 Q (F0 m 1042 ls []) := by
  have hx := F.1
  have hb := F.2.1
  refine lv_aload_n hx hb dL_law_1042 rfl (lv_at hl 2 rfl) ?_
  refine lv_aload_n hx hb dL_law_1043 rfl (lv_at hl 3 rfl) ?_
  refine lv_iload_n hx hb dL_law_1044 rfl (lv_at hl 0 rfl) ?_
  refine lv_iconst (v := 1) hx hb dL_law_1045 (by decide) ?_
  refine lv_iadd hx hb dL_law_1046 ?_
  refine r_val (v := 1) (by decide) ?_
  refine va_sld hx hb hX hbl hbA w.2.2.1 (vpi (by decide) (by decide)) dL_law_1047 ?_
  refine r_val (v := 0) ((congrArg xs (show (1 : Int32).toNatClampNeg = 1 by decide)).trans x1) ?_
  refine x_Vi F w (As := [.int 0]) (rest := []) (a := 0) (by decide) (sh_11 rfl _ _) rfl (c_X11_count_492 (rfl)) gv_L_135 hv_X11_count ⟨Nat.le_of_ble_eq_true rfl, Nat.le_of_ble_eq_true rfl⟩ hl.1 rfl (Nat.le_of_ble_eq_true rfl) ⟨Nat.le_of_ble_eq_true rfl, Nat.le_of_ble_eq_true rfl⟩ dL_law_1048 (fun H locs w => ?_)
  refine lv_aload_n hx hb dL_law_1051 rfl (lv_at hl 1 rfl) ?_
  refine lv_aload_n hx hb dL_law_1052 rfl (lv_at hl 3 rfl) ?_
  refine lv_iload_n hx hb dL_law_1053 rfl (lv_at hl 0 rfl) ?_
  refine lv_iconst (v := 1) hx hb dL_law_1054 (by decide) ?_
  refine lv_iadd hx hb dL_law_1055 ?_
  refine r_val (v := 1) (by decide) ?_
  refine va_sld hx hb hX hbl hbA w.2.2.1 (vpi (by decide) (by decide)) dL_law_1056 ?_
  refine r_val (v := 0) ((congrArg xs (show (1 : Int32).toNatClampNeg = 1 by decide)).trans x1) ?_
  refine x_Vi F w (As := [.int 0]) (rest := [.int 0]) (a := 146) (by decide) (sh_12 rfl _ _) rfl (c_X12_count_493 (rfl)) gv_L_138 hv_X12_count ⟨Nat.le_of_ble_eq_true rfl, Nat.le_of_ble_eq_true rfl⟩ hl.1 rfl (Nat.le_of_ble_eq_true rfl) ⟨Nat.le_of_ble_eq_true rfl, Nat.le_of_ble_eq_true rfl⟩ dL_law_1057 (fun H locs w => ?_)
  refine lv_icmp_eq (tgt := 1065) hx hb dL_law_1060 (by decide) (fun _ => ?_) (fun c1 => absurd c1 (by decide))
  exact kk _ _ _ w
theorem dX11_count_40 : decode cX11_count 40 = .ok (.aload_n 0, 1) := by decide +kernel
theorem dX11_count_41 : decode cX11_count 41 = .ok (.getfield 47, 3) := by decide +kernel
theorem dX11_count_44 : decode cX11_count 44 = .ok (.getfield 94, 3) := by decide +kernel
theorem dX11_count_47 : decode cX11_count 47 = .ok (.ireturn, 1) := by decide +kernel
set_option maxRecDepth 4000 in
theorem c_X11_count_494 {l : Launch} {D : va_G} {B : Nat} {cy : Nat → ClassId} {M : Mem} (h0 : M.1 71 2 = 0) : Ci l D B cy yX11_count cX11_count 2 (some .int) 0 0 [.ref (B + 0), .int 1] M (fun r M1 => r = 0 ∧ M1 = M) := by
  refine s_any (by decide) (Nat.le_of_ble_eq_true rfl) ?_
  intro p e s m below meth c ls F hr hlocks w hl
  have F : CallFix p m c cX11_count 2 s _ TB RX11 := F
  have hx := F.1
  have hb := F.2.1
  have hl : lv_has ls 2 [(0, .ref (B + 0)), (1, .int 1)] := hl
  refine lv_iload_n hx hb dX11_count_0 rfl (lv_at hl 1 rfl) ?_
  refine lv_tableIn (tgt := 40) hx hb dX11_count_1 (by decide) (by decide) (off := 39) rfl (by decide) ?_
  refine lv_aload_n hx hb dX11_count_40 rfl (lv_at hl 0 rfl) ?_
  refine f_11_5 F w (a := 0) rfl tb_86 dX11_count_41 ?_
  refine f_2_2 F w (a := 71) rfl tb_374 dX11_count_44 ?_
  refine r_val (v := 0) (h0) ?_
  exact e_i F w hr hlocks ⟨rfl, rfl⟩ dX11_count_47
theorem dX12_count_37 : decode cX12_count 37 = .ok (.aload_n 0, 1) := by decide +kernel
theorem dX12_count_38 : decode cX12_count 38 = .ok (.getfield 201, 3) := by decide +kernel
theorem dX12_count_41 : decode cX12_count 41 = .ok (.ireturn, 1) := by decide +kernel
set_option maxRecDepth 4000 in
theorem c_X12_count_495 {l : Launch} {D : va_G} {B : Nat} {cy : Nat → ClassId} {M : Mem} (h0 : M.1 146 20 = 0) : Ci l D B cy yX12_count cX12_count 2 (some .int) 0 0 [.ref (B + 146), .int 1] M (fun r M1 => r = 0 ∧ M1 = M) := by
  refine s_any (by decide) (Nat.le_of_ble_eq_true rfl) ?_
  intro p e s m below meth c ls F hr hlocks w hl
  have F : CallFix p m c cX12_count 2 s _ TB RX12 := F
  have hx := F.1
  have hb := F.2.1
  have hl : lv_has ls 2 [(0, .ref (B + 146)), (1, .int 1)] := hl
  refine lv_iload_n hx hb dX12_count_0 rfl (lv_at hl 1 rfl) ?_
  refine lv_tableIn (tgt := 37) hx hb dX12_count_1 (by decide) (by decide) (off := 36) rfl (by decide) ?_
  refine lv_aload_n hx hb dX12_count_37 rfl (lv_at hl 0 rfl) ?_
  refine f_12_20 F w (a := 146) rfl tb_283 dX12_count_38 ?_
  refine r_val (v := 0) (h0) ?_
  exact e_i F w hr hlocks ⟨rfl, rfl⟩ dX12_count_41
set_option maxRecDepth 8000 in
theorem la_28_110 {p : Program} {l : Launch} {e : Env} {s : State} {m : MethodId} {below : List Frame} {meth : Method} {c : Code} {D : va_G} {B b : Nat} {cy : Nat → ClassId} {H : Heap} {locs : List Loc} {ls : Array Slot} {xs : Nat → Int32} {Q : State → Prop} (F : CallFix p m c code 4 s #[Value.ref b] TB RL) (hX : va_X b 6 xs s s.heap) (hbl : b < s.heap.size) (hbA : ¬ B ≤ b) (w : Wd D B cy s s.heap M0 H locs) (hl : lv_has ls 4 [(3, .int 0), (2, .ref (B + 146)), (1, .ref (B + 0)), (0, .ref b)]) (x1 : xs 1 = 1) (kk : ∀ (M1 : Mem) (H1 : Heap) (locs1 : List Loc), Wd D B cy s s.heap M1 H1 locs1 → W p l e room_1 s m #[Value.ref b] below meth c H1 locs1 159 13107 Q (F0 m 1065 ls [])) : W p l e room_1 s m #[Value.ref b] below meth c H locs 159 13107 Q (F0 m 1042 ls []) := by
  have hx := F.1
  have hb := F.2.1
  refine lv_aload_n hx hb dL_law_1042 rfl (lv_at hl 2 rfl) ?_
  refine lv_aload_n hx hb dL_law_1043 rfl (lv_at hl 3 rfl) ?_
  refine lv_iload_n hx hb dL_law_1044 rfl (lv_at hl 0 rfl) ?_
  refine lv_iconst (v := 1) hx hb dL_law_1045 (by decide) ?_
  refine lv_iadd hx hb dL_law_1046 ?_
  refine r_val (v := 1) (by decide) ?_
  refine va_sld hx hb hX hbl hbA w.2.2.1 (vpi (by decide) (by decide)) dL_law_1047 ?_
  refine r_val (v := 1) ((congrArg xs (show (1 : Int32).toNatClampNeg = 1 by decide)).trans x1) ?_
  refine x_Vi F w (As := [.int 1]) (rest := []) (a := 0) (by decide) (sh_11 rfl _ _) rfl (c_X11_count_494 (rfl)) gv_L_135 hv_X11_count ⟨Nat.le_of_ble_eq_true rfl, Nat.le_of_ble_eq_true rfl⟩ hl.1 rfl (Nat.le_of_ble_eq_true rfl) ⟨Nat.le_of_ble_eq_true rfl, Nat.le_of_ble_eq_true rfl⟩ dL_law_1048 (fun H locs w => ?_)
  refine lv_aload_n hx hb dL_law_1051 rfl (lv_at hl 1 rfl) ?_
  refine lv_aload_n hx hb dL_law_1052 rfl (lv_at hl 3 rfl) ?_
  refine lv_iload_n hx hb dL_law_1053 rfl (lv_at hl 0 rfl) ?_
  refine lv_iconst (v := 1) hx hb dL_law_1054 (by decide) ?_
  refine lv_iadd hx hb dL_law_1055 ?_
  refine r_val (v := 1) (by decide) ?_
  refine va_sld hx hb hX hbl hbA w.2.2.1 (vpi (by decide) (by decide)) dL_law_1056 ?_
  refine r_val (v := 1) ((congrArg xs (show (1 : Int32).toNatClampNeg = 1 by decide)).trans x1) ?_
  refine x_Vi F w (As := [.int 1]) (rest := [.int 0]) (a := 146) (by decide) (sh_12 rfl _ _) rfl (c_X12_count_495 (rfl)) gv_L_138 hv_X12_count ⟨Nat.le_of_ble_eq_true rfl, Nat.le_of_ble_eq_true rfl⟩ hl.1 rfl (Nat.le_of_ble_eq_true rfl) ⟨Nat.le_of_ble_eq_true rfl, Nat.le_of_ble_eq_true rfl⟩ dL_law_1057 (fun H locs w => ?_)
  refine lv_icmp_eq (tgt := 1065) hx hb dL_law_1060 (by decide) (fun _ => ?_) (fun c1 => absurd c1 (by decide))
  exact kk _ _ _ w
theorem dX11_count_48 : decode cX11_count 48 = .ok (.aload_n 0, 1) := by decide +kernel
theorem dX11_count_49 : decode cX11_count 49 = .ok (.getfield 12, 3) := by decide +kernel
theorem dX11_count_52 : decode cX11_count 52 = .ok (.getfield 78, 3) := by decide +kernel
theorem dX11_count_55 : decode cX11_count 55 = .ok (.ireturn, 1) := by decide +kernel
set_option maxRecDepth 4000 in
theorem c_X11_count_496 {l : Launch} {D : va_G} {B : Nat} {cy : Nat → ClassId} {M : Mem} (h0 : M.1 1 1 = 0) : Ci l D B cy yX11_count cX11_count 2 (some .int) 0 0 [.ref (B + 0), .int 2] M (fun r M1 => r = 0 ∧ M1 = M) := by
  refine s_any (by decide) (Nat.le_of_ble_eq_true rfl) ?_
  intro p e s m below meth c ls F hr hlocks w hl
  have F : CallFix p m c cX11_count 2 s _ TB RX11 := F
  have hx := F.1
  have hb := F.2.1
  have hl : lv_has ls 2 [(0, .ref (B + 0)), (1, .int 2)] := hl
  refine lv_iload_n hx hb dX11_count_0 rfl (lv_at hl 1 rfl) ?_
  refine lv_tableIn (tgt := 48) hx hb dX11_count_1 (by decide) (by decide) (off := 47) rfl (by decide) ?_
  refine lv_aload_n hx hb dX11_count_48 rfl (lv_at hl 0 rfl) ?_
  refine f_11_0 F w (a := 0) rfl tb_11 dX11_count_49 ?_
  refine f_8_1 F w (a := 1) rfl tb_138 dX11_count_52 ?_
  refine r_val (v := 0) (h0) ?_
  exact e_i F w hr hlocks ⟨rfl, rfl⟩ dX11_count_55
theorem dX12_count_42 : decode cX12_count 42 = .ok (.aload_n 0, 1) := by decide +kernel
theorem dX12_count_43 : decode cX12_count 43 = .ok (.getfield 169, 3) := by decide +kernel
theorem dX12_count_46 : decode cX12_count 46 = .ok (.ireturn, 1) := by decide +kernel
set_option maxRecDepth 4000 in
theorem c_X12_count_497 {l : Launch} {D : va_G} {B : Nat} {cy : Nat → ClassId} {M : Mem} (h0 : M.1 146 8 = 0) : Ci l D B cy yX12_count cX12_count 2 (some .int) 0 0 [.ref (B + 146), .int 2] M (fun r M1 => r = 0 ∧ M1 = M) := by
  refine s_any (by decide) (Nat.le_of_ble_eq_true rfl) ?_
  intro p e s m below meth c ls F hr hlocks w hl
  have F : CallFix p m c cX12_count 2 s _ TB RX12 := F
  have hx := F.1
  have hb := F.2.1
  have hl : lv_has ls 2 [(0, .ref (B + 146)), (1, .int 2)] := hl
  refine lv_iload_n hx hb dX12_count_0 rfl (lv_at hl 1 rfl) ?_
  refine lv_tableIn (tgt := 42) hx hb dX12_count_1 (by decide) (by decide) (off := 41) rfl (by decide) ?_
  refine lv_aload_n hx hb dX12_count_42 rfl (lv_at hl 0 rfl) ?_
  refine f_12_8 F w (a := 146) rfl tb_146 dX12_count_43 ?_
  refine r_val (v := 0) (h0) ?_
  exact e_i F w hr hlocks ⟨rfl, rfl⟩ dX12_count_46
set_option maxRecDepth 8000 in
theorem la_28_111 {p : Program} {l : Launch} {e : Env} {s : State} {m : MethodId} {below : List Frame} {meth : Method} {c : Code} {D : va_G} {B b : Nat} {cy : Nat → ClassId} {H : Heap} {locs : List Loc} {ls : Array Slot} {xs : Nat → Int32} {Q : State → Prop} (F : CallFix p m c code 4 s #[Value.ref b] TB RL) (hX : va_X b 6 xs s s.heap) (hbl : b < s.heap.size) (hbA : ¬ B ≤ b) (w : Wd D B cy s s.heap M0 H locs) (hl : lv_has ls 4 [(3, .int 0), (2, .ref (B + 146)), (1, .ref (B + 0)), (0, .ref b)]) (x1 : xs 1 = 2) (kk : ∀ (M1 : Mem) (H1 : Heap) (locs1 : List Loc), Wd D B cy s s.heap M1 H1 locs1 → W p l e room_1 s m #[Value.ref b] below meth c H1 locs1 159 13107 Q (F0 m 1065 ls [])) : W p l e room_1 s m #[Value.ref b] below meth c H locs 159 13107 Q (F0 m 1042 ls []) := by
  have hx := F.1
  have hb := F.2.1
  refine lv_aload_n hx hb dL_law_1042 rfl (lv_at hl 2 rfl) ?_
  refine lv_aload_n hx hb dL_law_1043 rfl (lv_at hl 3 rfl) ?_
  refine lv_iload_n hx hb dL_law_1044 rfl (lv_at hl 0 rfl) ?_
  refine lv_iconst (v := 1) hx hb dL_law_1045 (by decide) ?_
  refine lv_iadd hx hb dL_law_1046 ?_
  refine r_val (v := 1) (by decide) ?_
  refine va_sld hx hb hX hbl hbA w.2.2.1 (vpi (by decide) (by decide)) dL_law_1047 ?_
  refine r_val (v := 2) ((congrArg xs (show (1 : Int32).toNatClampNeg = 1 by decide)).trans x1) ?_
  refine x_Vi F w (As := [.int 2]) (rest := []) (a := 0) (by decide) (sh_11 rfl _ _) rfl (c_X11_count_496 (rfl)) gv_L_135 hv_X11_count ⟨Nat.le_of_ble_eq_true rfl, Nat.le_of_ble_eq_true rfl⟩ hl.1 rfl (Nat.le_of_ble_eq_true rfl) ⟨Nat.le_of_ble_eq_true rfl, Nat.le_of_ble_eq_true rfl⟩ dL_law_1048 (fun H locs w => ?_)
  refine lv_aload_n hx hb dL_law_1051 rfl (lv_at hl 1 rfl) ?_
  refine lv_aload_n hx hb dL_law_1052 rfl (lv_at hl 3 rfl) ?_
  refine lv_iload_n hx hb dL_law_1053 rfl (lv_at hl 0 rfl) ?_
  refine lv_iconst (v := 1) hx hb dL_law_1054 (by decide) ?_
  refine lv_iadd hx hb dL_law_1055 ?_
  refine r_val (v := 1) (by decide) ?_
  refine va_sld hx hb hX hbl hbA w.2.2.1 (vpi (by decide) (by decide)) dL_law_1056 ?_
  refine r_val (v := 2) ((congrArg xs (show (1 : Int32).toNatClampNeg = 1 by decide)).trans x1) ?_
  refine x_Vi F w (As := [.int 2]) (rest := [.int 0]) (a := 146) (by decide) (sh_12 rfl _ _) rfl (c_X12_count_497 (rfl)) gv_L_138 hv_X12_count ⟨Nat.le_of_ble_eq_true rfl, Nat.le_of_ble_eq_true rfl⟩ hl.1 rfl (Nat.le_of_ble_eq_true rfl) ⟨Nat.le_of_ble_eq_true rfl, Nat.le_of_ble_eq_true rfl⟩ dL_law_1057 (fun H locs w => ?_)
  refine lv_icmp_eq (tgt := 1065) hx hb dL_law_1060 (by decide) (fun _ => ?_) (fun c1 => absurd c1 (by decide))
  exact kk _ _ _ w
theorem dX11_count_56 : decode cX11_count 56 = .ok (.aload_n 0, 1) := by decide +kernel
theorem dX11_count_57 : decode cX11_count 57 = .ok (.getfield 35, 3) := by decide +kernel
theorem dX11_count_60 : decode cX11_count 60 = .ok (.aload_n 0, 1) := by decide +kernel
theorem dX11_count_61 : decode cX11_count 61 = .ok (.getfield 35, 3) := by decide +kernel
theorem dX11_count_64 : decode cX11_count 64 = .ok (.getfield 118, 3) := by decide +kernel
theorem dX11_count_67 : decode cX11_count 67 = .ok (.invokevirtual 196, 3) := by decide +kernel
theorem dX11_count_70 : decode cX11_count 70 = .ok (.pop, 1) := by decide +kernel
theorem dX11_count_71 : decode cX11_count 71 = .ok (.aload_n 0, 1) := by decide +kernel
theorem dX11_count_72 : decode cX11_count 72 = .ok (.getfield 35, 3) := by decide +kernel
theorem dX11_count_75 : decode cX11_count 75 = .ok (.invokevirtual 295, 3) := by decide +kernel
theorem dX0_idleRules_0 : decode cX0_idleRules 0 = .ok (.iconst 0, 1) := by decide +kernel
theorem dX0_idleRules_1 : decode cX0_idleRules 1 = .ok (.istore_n 1, 1) := by decide +kernel
theorem dX0_idleRules_2 : decode cX0_idleRules 2 = .ok (.iconst 0, 1) := by decide +kernel
theorem dX0_idleRules_3 : decode cX0_idleRules 3 = .ok (.istore_n 2, 1) := by decide +kernel
theorem dX0_idleRules_4 : decode cX0_idleRules 4 = .ok (.iload_n 2, 1) := by decide +kernel
theorem dX0_idleRules_5 : decode cX0_idleRules 5 = .ok (.aload_n 0, 1) := by decide +kernel
theorem dX0_idleRules_6 : decode cX0_idleRules 6 = .ok (.getfield 41, 3) := by decide +kernel
theorem dX0_idleRules_9 : decode cX0_idleRules 9 = .ok (.if_icmp .ge 24, 3) := by decide +kernel
theorem dX0_idleRules_33 : decode cX0_idleRules 33 = .ok (.iload_n 1, 1) := by decide +kernel
theorem dX0_idleRules_34 : decode cX0_idleRules 34 = .ok (.ireturn, 1) := by decide +kernel
set_option maxRecDepth 4000 in
theorem c_X0_idleRules_498 {l : Launch} {D : va_G} {B : Nat} {cy : Nat → ClassId} {M : Mem} (h0 : M.1 22 7 = 0) : Ci l D B cy yX0_idleRules cX0_idleRules 3 (some .int) 0 0 [.ref (B + 22)] M (fun r M1 => r = 0 ∧ M1 = M) := by
  refine s_any (by decide) (Nat.le_of_ble_eq_true rfl) ?_
  intro p e s m below meth c ls F hr hlocks w hl
  have F : CallFix p m c cX0_idleRules 3 s _ TB RX0 := F
  have hx := F.1
  have hb := F.2.1
  have hl : lv_has ls 3 [(0, .ref (B + 22))] := hl
  refine lv_iconst (v := 0) hx hb dX0_idleRules_0 (by decide) ?_
  refine lv_istore_n (lv' := [(1, .int 0), (0, .ref (B + 22))]) hx hb dX0_idleRules_1 rfl hl (by decide) rfl (fun ls hl => ?_)
  refine lv_iconst (v := 0) hx hb dX0_idleRules_2 (by decide) ?_
  refine lv_istore_n (lv' := [(2, .int 0), (1, .int 0), (0, .ref (B + 22))]) hx hb dX0_idleRules_3 rfl hl (by decide) rfl (fun ls hl => ?_)
  refine lv_iload_n hx hb dX0_idleRules_4 rfl (lv_at hl 0 rfl) ?_
  refine lv_aload_n hx hb dX0_idleRules_5 rfl (lv_at hl 2 rfl) ?_
  refine f_0_7 F w (a := 22) rfl tb_59 dX0_idleRules_6 ?_
  refine r_val (v := 0) (h0) ?_
  refine lv_icmp_ge (tgt := 33) hx hb dX0_idleRules_9 (by decide) (fun _ => ?_) (fun c1 => absurd c1 (by decide))
  refine lv_iload_n hx hb dX0_idleRules_33 rfl (lv_at hl 1 rfl) ?_
  exact e_i F w hr hlocks ⟨rfl, rfl⟩ dX0_idleRules_34
theorem tk_X0_idleRules : Cond.code yX0_idleRules cX0_idleRules 3 (some .int) ∈ TB := tbm (tc5 (List.mem_of_getElem? (i := 50) rfl)) rfl
theorem gc_X0_idleRules : GoodIn TB (cw yX0_idleRules cX0_idleRules 3 (some .int)) := goodIn_c2 tk_X0_idleRules
theorem tb_585 : Cond.methodLink "ToneLines" 295 yX0_idleRules ∈ TB := tbm (tc5 (List.mem_of_getElem? (i := 47) rfl)) rfl
theorem tb_586 : Cond.instanceMethod yX0_idleRules ∈ TB := tbm (tc5 (List.mem_of_getElem? (i := 48) rfl)) rfl
theorem tb_587 : Cond.selects "ToneLines$Derivation" yX0_idleRules yX0_idleRules ∈ TB := tbm (tc5 (List.mem_of_getElem? (i := 49) rfl)) rfl
theorem gv_X11_295 : GoodIn TB (wsV RX11 295 RX0 yX0_idleRules (cw yX0_idleRules cX0_idleRules 3 (some .int))) := goodIn_4 tb_585 tb_586 tb_587 tb_43 gc_X0_idleRules
theorem hv_X0_idleRules : yX0_idleRules.cls = RX0 ∧ yX0_idleRules.cls ≠ "java/lang/invoke/MethodHandle" ∧ yX0_idleRules.cls ≠ "java/lang/invoke/VarHandle" ∧ (parseMethodDescriptor yX0_idleRules.desc).map (fun d => d.parameters.length) = some 0 := by decide +kernel
theorem dX11_count_78 : decode cX11_count 78 = .ok (.ireturn, 1) := by decide +kernel
set_option maxRecDepth 4000 in
theorem c_X11_count_499 {l : Launch} {D : va_G} {B : Nat} {cy : Nat → ClassId} {M : Mem} (h0 : M.1 22 2 = 0) (h1 : M.1 22 7 = 0) : Ci l D B cy yX11_count cX11_count 2 (some .int) 2 43 [.ref (B + 0), .int 3] M (fun r M1 => r = 0 ∧ M1 = M) := by
  refine s_any (by decide) (Nat.le_of_ble_eq_true rfl) ?_
  intro p e s m below meth c ls F hr hlocks w hl
  have F : CallFix p m c cX11_count 2 s _ TB RX11 := F
  have hx := F.1
  have hb := F.2.1
  have hl : lv_has ls 2 [(0, .ref (B + 0)), (1, .int 3)] := hl
  refine lv_iload_n hx hb dX11_count_0 rfl (lv_at hl 1 rfl) ?_
  refine lv_tableIn (tgt := 56) hx hb dX11_count_1 (by decide) (by decide) (off := 55) rfl (by decide) ?_
  refine lv_aload_n hx hb dX11_count_56 rfl (lv_at hl 0 rfl) ?_
  refine f_11_3 F w (a := 0) rfl tb_73 dX11_count_57 ?_
  refine lv_aload_n hx hb dX11_count_60 rfl (lv_at hl 0 rfl) ?_
  refine f_11_3 F w (a := 0) rfl tb_73 dX11_count_61 ?_
  refine f_0_2 F w (a := 22) rfl tb_216 dX11_count_64 ?_
  refine r_val (v := 0) (h0) ?_
  refine x_Vr F w (As := [.int 0]) (rest := []) (a := 22) (by decide) (sh_0 rfl _ _) rfl (c_X0_stageOf_207 (h0) (h1)) gv_X11_196 hv_X0_stageOf ⟨Nat.le_of_ble_eq_true rfl, Nat.le_of_ble_eq_true rfl⟩ hl.1 rfl (Nat.le_of_ble_eq_true rfl) ⟨Nat.zero_le _, Nat.zero_le _⟩ dX11_count_67 (fun H locs w => ?_)
  refine lv_pop hx hb dX11_count_70 rfl ?_
  refine lv_aload_n hx hb dX11_count_71 rfl (lv_at hl 0 rfl) ?_
  refine f_11_3 F w (a := 0) rfl tb_73 dX11_count_72 ?_
  refine x_Vi F w (As := []) (rest := []) (a := 22) (by decide) (sh_0 rfl _ _) rfl (c_X0_idleRules_498 (h1)) gv_X11_295 hv_X0_idleRules ⟨Nat.le_of_ble_eq_true rfl, Nat.le_of_ble_eq_true rfl⟩ hl.1 rfl (Nat.le_of_ble_eq_true rfl) ⟨Nat.zero_le _, Nat.zero_le _⟩ dX11_count_75 (fun H locs w => ?_)
  exact e_i F w hr hlocks ⟨rfl, rfl⟩ dX11_count_78
theorem dX12_count_47 : decode cX12_count 47 = .ok (.aload_n 0, 1) := by decide +kernel
theorem dX12_count_48 : decode cX12_count 48 = .ok (.invokevirtual 324, 3) := by decide +kernel
theorem dX12_idle_0 : decode cX12_idle 0 = .ok (.aload_n 0, 1) := by decide +kernel
theorem dX12_idle_1 : decode cX12_idle 1 = .ok (.getfield 17, 3) := by decide +kernel
theorem dX12_idle_4 : decode cX12_idle 4 = .ok (.aload_n 0, 1) := by decide +kernel
theorem dX12_idle_5 : decode cX12_idle 5 = .ok (.getfield 13, 3) := by decide +kernel
theorem dX12_idle_8 : decode cX12_idle 8 = .ok (.invokestatic 162, 3) := by decide +kernel
theorem dX12_idle_11 : decode cX12_idle 11 = .ok (.iconst 0, 1) := by decide +kernel
theorem dX12_idle_12 : decode cX12_idle 12 = .ok (.istore_n 1, 1) := by decide +kernel
theorem dX12_idle_13 : decode cX12_idle 13 = .ok (.iconst 0, 1) := by decide +kernel
theorem dX12_idle_14 : decode cX12_idle 14 = .ok (.istore_n 2, 1) := by decide +kernel
theorem dX12_idle_15 : decode cX12_idle 15 = .ok (.iload_n 2, 1) := by decide +kernel
theorem dX12_idle_16 : decode cX12_idle 16 = .ok (.aload_n 0, 1) := by decide +kernel
theorem dX12_idle_17 : decode cX12_idle 17 = .ok (.getfield 239, 3) := by decide +kernel
theorem dX12_idle_20 : decode cX12_idle 20 = .ok (.if_icmp .ge 23, 3) := by decide +kernel
theorem dX12_idle_43 : decode cX12_idle 43 = .ok (.iload_n 1, 1) := by decide +kernel
theorem dX12_idle_44 : decode cX12_idle 44 = .ok (.ireturn, 1) := by decide +kernel
set_option maxRecDepth 4000 in
theorem c_X12_idle_500 {l : Launch} {D : va_G} {B : Nat} {cy : Nat → ClassId} {M : Mem} (h0 : M.1 147 0 = 0) (h1 : M.1 148 0 = 0) (h2 : M.1 147 1 = 0) (h3 : M.1 148 1 = 0) (h4 : M.1 147 2 = 0) (h5 : M.1 148 2 = 0) (h6 : M.1 147 3 = 0) (h7 : M.1 148 3 = 0) (h8 : M.1 147 4 = 0) (h9 : M.1 148 4 = 0) (h10 : M.1 147 5 = 0) (h11 : M.1 148 5 = 0) (h12 : M.1 147 6 = 0) (h13 : M.1 148 6 = 0) (h14 : M.1 147 7 = 0) (h15 : M.1 148 7 = 0) (h16 : M.1 147 8 = 0) (h17 : M.1 148 8 = 0) (h18 : M.1 147 9 = 0) (h19 : M.1 148 9 = 0) (h20 : M.1 147 10 = 0) (h21 : M.1 148 10 = 0) (h22 : M.1 147 11 = 0) (h23 : M.1 148 11 = 0) (h24 : M.1 147 12 = 0) (h25 : M.1 148 12 = 0) (h26 : M.1 147 13 = 0) (h27 : M.1 148 13 = 0) (h28 : M.1 147 14 = 0) (h29 : M.1 148 14 = 0) (h30 : M.1 147 15 = 0) (h31 : M.1 148 15 = 0) (h32 : M.1 147 16 = 0) (h33 : M.1 148 16 = 0) (h34 : M.1 147 17 = 0) (h35 : M.1 148 17 = 0) (h36 : M.1 147 18 = 0) (h37 : M.1 148 18 = 0) (h38 : M.1 147 19 = 0) (h39 : M.1 148 19 = 0) (h40 : M.1 147 20 = 0) (h41 : M.1 148 20 = 0) (h42 : M.1 147 21 = 0) (h43 : M.1 148 21 = 0) (h44 : M.1 147 22 = 0) (h45 : M.1 148 22 = 0) (h46 : M.1 147 23 = 0) (h47 : M.1 148 23 = 0) (h48 : M.1 147 24 = 0) (h49 : M.1 148 24 = 0) (h50 : M.1 147 25 = 0) (h51 : M.1 148 25 = 0) (h52 : M.1 147 26 = 0) (h53 : M.1 148 26 = 0) (h54 : M.1 147 27 = 0) (h55 : M.1 148 27 = 0) (h56 : M.1 146 5 = 0) : Ci l D B cy yX12_idle cX12_idle 3 (some .int) 1 22 [.ref (B + 146)] M (fun r M1 => r = 0 ∧ M1 = M) := by
  refine s_any (by decide) (Nat.le_of_ble_eq_true rfl) ?_
  intro p e s m below meth c ls F hr hlocks w hl
  have F : CallFix p m c cX12_idle 3 s _ TB RX12 := F
  have hx := F.1
  have hb := F.2.1
  have hl : lv_has ls 3 [(0, .ref (B + 146))] := hl
  refine lv_aload_n hx hb dX12_idle_0 rfl (lv_at hl 0 rfl) ?_
  refine f_12_2 F w (a := 146) rfl tb_127 dX12_idle_1 ?_
  refine lv_aload_n hx hb dX12_idle_4 rfl (lv_at hl 0 rfl) ?_
  refine f_12_1 F w (a := 146) rfl tb_126 dX12_idle_5 ?_
  refine x_Sv F w (As := [.ref (B + 148), .ref (B + 147)]) (rest := []) (c_X12_copy_211 (h0) (h1) (h2) (h3) (h4) (h5) (h6) (h7) (h8) (h9) (h10) (h11) (h12) (h13) (h14) (h15) (h16) (h17) (h18) (h19) (h20) (h21) (h22) (h23) (h24) (h25) (h26) (h27) (h28) (h29) (h30) (h31) (h32) (h33) (h34) (h35) (h36) (h37) (h38) (h39) (h40) (h41) (h42) (h43) (h44) (h45) (h46) (h47) (h48) (h49) (h50) (h51) (h52) (h53) (h54) (h55)) gs_X12_162 hs_X12_copy ⟨Nat.le_of_ble_eq_true rfl, Nat.le_of_ble_eq_true rfl⟩ hl.1 rfl (Nat.le_of_ble_eq_true rfl) ⟨Nat.zero_le _, Nat.zero_le _⟩ dX12_idle_8 (fun H locs w => ?_)
  refine lv_iconst (v := 0) hx hb dX12_idle_11 (by decide) ?_
  refine lv_istore_n (lv' := [(1, .int 0), (0, .ref (B + 146))]) hx hb dX12_idle_12 rfl hl (by decide) rfl (fun ls hl => ?_)
  refine lv_iconst (v := 0) hx hb dX12_idle_13 (by decide) ?_
  refine lv_istore_n (lv' := [(2, .int 0), (1, .int 0), (0, .ref (B + 146))]) hx hb dX12_idle_14 rfl hl (by decide) rfl (fun ls hl => ?_)
  refine lv_iload_n hx hb dX12_idle_15 rfl (lv_at hl 0 rfl) ?_
  refine lv_aload_n hx hb dX12_idle_16 rfl (lv_at hl 2 rfl) ?_
  refine f_12_5 F w (a := 146) rfl tb_227 dX12_idle_17 ?_
  refine r_val (v := 0) (h56) ?_
  refine lv_icmp_ge (tgt := 43) hx hb dX12_idle_20 (by decide) (fun _ => ?_) (fun c1 => absurd c1 (by decide))
  refine lv_iload_n hx hb dX12_idle_43 rfl (lv_at hl 1 rfl) ?_
  exact e_i F w hr hlocks ⟨rfl, rfl⟩ dX12_idle_44
theorem tk_X12_idle : Cond.code yX12_idle cX12_idle 3 (some .int) ∈ TB := tbm (tc7 (List.mem_of_getElem? (i := 40) rfl)) rfl
theorem gc_X12_idle : GoodIn TB (cw yX12_idle cX12_idle 3 (some .int)) := goodIn_c2 tk_X12_idle
theorem tb_588 : Cond.methodLink "ToneLinesModel" 324 yX12_idle ∈ TB := tbm (tc7 (List.mem_of_getElem? (i := 37) rfl)) rfl
theorem tb_589 : Cond.instanceMethod yX12_idle ∈ TB := tbm (tc7 (List.mem_of_getElem? (i := 39) rfl)) rfl
theorem tb_590 : Cond.selects "ToneLinesModel" yX12_idle yX12_idle ∈ TB := tbp (List.mem_of_getElem? (i := 90) rfl) rfl
theorem gv_X12_324 : GoodIn TB (wsV RX12 324 RX12 yX12_idle (cw yX12_idle cX12_idle 3 (some .int))) := goodIn_4 tb_588 tb_589 tb_590 tb_150 gc_X12_idle
theorem hv_X12_idle : yX12_idle.cls = RX12 ∧ yX12_idle.cls ≠ "java/lang/invoke/MethodHandle" ∧ yX12_idle.cls ≠ "java/lang/invoke/VarHandle" ∧ (parseMethodDescriptor yX12_idle.desc).map (fun d => d.parameters.length) = some 0 := by decide +kernel
theorem dX12_count_51 : decode cX12_count 51 = .ok (.ireturn, 1) := by decide +kernel
set_option maxRecDepth 4000 in
theorem c_X12_count_501 {l : Launch} {D : va_G} {B : Nat} {cy : Nat → ClassId} {M : Mem} (h0 : M.1 147 0 = 0) (h1 : M.1 148 0 = 0) (h2 : M.1 147 1 = 0) (h3 : M.1 148 1 = 0) (h4 : M.1 147 2 = 0) (h5 : M.1 148 2 = 0) (h6 : M.1 147 3 = 0) (h7 : M.1 148 3 = 0) (h8 : M.1 147 4 = 0) (h9 : M.1 148 4 = 0) (h10 : M.1 147 5 = 0) (h11 : M.1 148 5 = 0) (h12 : M.1 147 6 = 0) (h13 : M.1 148 6 = 0) (h14 : M.1 147 7 = 0) (h15 : M.1 148 7 = 0) (h16 : M.1 147 8 = 0) (h17 : M.1 148 8 = 0) (h18 : M.1 147 9 = 0) (h19 : M.1 148 9 = 0) (h20 : M.1 147 10 = 0) (h21 : M.1 148 10 = 0) (h22 : M.1 147 11 = 0) (h23 : M.1 148 11 = 0) (h24 : M.1 147 12 = 0) (h25 : M.1 148 12 = 0) (h26 : M.1 147 13 = 0) (h27 : M.1 148 13 = 0) (h28 : M.1 147 14 = 0) (h29 : M.1 148 14 = 0) (h30 : M.1 147 15 = 0) (h31 : M.1 148 15 = 0) (h32 : M.1 147 16 = 0) (h33 : M.1 148 16 = 0) (h34 : M.1 147 17 = 0) (h35 : M.1 148 17 = 0) (h36 : M.1 147 18 = 0) (h37 : M.1 148 18 = 0) (h38 : M.1 147 19 = 0) (h39 : M.1 148 19 = 0) (h40 : M.1 147 20 = 0) (h41 : M.1 148 20 = 0) (h42 : M.1 147 21 = 0) (h43 : M.1 148 21 = 0) (h44 : M.1 147 22 = 0) (h45 : M.1 148 22 = 0) (h46 : M.1 147 23 = 0) (h47 : M.1 148 23 = 0) (h48 : M.1 147 24 = 0) (h49 : M.1 148 24 = 0) (h50 : M.1 147 25 = 0) (h51 : M.1 148 25 = 0) (h52 : M.1 147 26 = 0) (h53 : M.1 148 26 = 0) (h54 : M.1 147 27 = 0) (h55 : M.1 148 27 = 0) (h56 : M.1 146 5 = 0) : Ci l D B cy yX12_count cX12_count 2 (some .int) 2 44 [.ref (B + 146), .int 3] M (fun r M1 => r = 0 ∧ M1 = M) := by
  refine s_any (by decide) (Nat.le_of_ble_eq_true rfl) ?_
  intro p e s m below meth c ls F hr hlocks w hl
  have F : CallFix p m c cX12_count 2 s _ TB RX12 := F
  have hx := F.1
  have hb := F.2.1
  have hl : lv_has ls 2 [(0, .ref (B + 146)), (1, .int 3)] := hl
  refine lv_iload_n hx hb dX12_count_0 rfl (lv_at hl 1 rfl) ?_
  refine lv_tableIn (tgt := 47) hx hb dX12_count_1 (by decide) (by decide) (off := 46) rfl (by decide) ?_
  refine lv_aload_n hx hb dX12_count_47 rfl (lv_at hl 0 rfl) ?_
  refine x_Vi F w (As := []) (rest := []) (a := 146) (by decide) (sh_12 rfl _ _) rfl (c_X12_idle_500 (h0) (h1) (h2) (h3) (h4) (h5) (h6) (h7) (h8) (h9) (h10) (h11) (h12) (h13) (h14) (h15) (h16) (h17) (h18) (h19) (h20) (h21) (h22) (h23) (h24) (h25) (h26) (h27) (h28) (h29) (h30) (h31) (h32) (h33) (h34) (h35) (h36) (h37) (h38) (h39) (h40) (h41) (h42) (h43) (h44) (h45) (h46) (h47) (h48) (h49) (h50) (h51) (h52) (h53) (h54) (h55) (h56)) gv_X12_324 hv_X12_idle ⟨Nat.le_of_ble_eq_true rfl, Nat.le_of_ble_eq_true rfl⟩ hl.1 rfl (Nat.le_of_ble_eq_true rfl) ⟨Nat.zero_le _, Nat.zero_le _⟩ dX12_count_48 (fun H locs w => ?_)
  exact e_i F w hr hlocks ⟨rfl, rfl⟩ dX12_count_51
set_option maxRecDepth 8000 in
theorem la_28_112 {p : Program} {l : Launch} {e : Env} {s : State} {m : MethodId} {below : List Frame} {meth : Method} {c : Code} {D : va_G} {B b : Nat} {cy : Nat → ClassId} {H : Heap} {locs : List Loc} {ls : Array Slot} {xs : Nat → Int32} {Q : State → Prop} (F : CallFix p m c code 4 s #[Value.ref b] TB RL) (hX : va_X b 6 xs s s.heap) (hbl : b < s.heap.size) (hbA : ¬ B ≤ b) (w : Wd D B cy s s.heap M0 H locs) (hl : lv_has ls 4 [(3, .int 0), (2, .ref (B + 146)), (1, .ref (B + 0)), (0, .ref b)]) (x1 : xs 1 = 3) (kk : ∀ (M1 : Mem) (H1 : Heap) (locs1 : List Loc), Wd D B cy s s.heap M1 H1 locs1 → W p l e room_1 s m #[Value.ref b] below meth c H1 locs1 159 13107 Q (F0 m 1065 ls [])) : W p l e room_1 s m #[Value.ref b] below meth c H locs 159 13107 Q (F0 m 1042 ls []) := by
  have hx := F.1
  have hb := F.2.1
  refine lv_aload_n hx hb dL_law_1042 rfl (lv_at hl 2 rfl) ?_
  refine lv_aload_n hx hb dL_law_1043 rfl (lv_at hl 3 rfl) ?_
  refine lv_iload_n hx hb dL_law_1044 rfl (lv_at hl 0 rfl) ?_
  refine lv_iconst (v := 1) hx hb dL_law_1045 (by decide) ?_
  refine lv_iadd hx hb dL_law_1046 ?_
  refine r_val (v := 1) (by decide) ?_
  refine va_sld hx hb hX hbl hbA w.2.2.1 (vpi (by decide) (by decide)) dL_law_1047 ?_
  refine r_val (v := 3) ((congrArg xs (show (1 : Int32).toNatClampNeg = 1 by decide)).trans x1) ?_
  refine x_Vi F w (As := [.int 3]) (rest := []) (a := 0) (by decide) (sh_11 rfl _ _) rfl (c_X11_count_499 (rfl) (rfl)) gv_L_135 hv_X11_count ⟨Nat.le_of_ble_eq_true rfl, Nat.le_of_ble_eq_true rfl⟩ hl.1 rfl (Nat.le_of_ble_eq_true rfl) ⟨Nat.le_of_ble_eq_true rfl, Nat.le_of_ble_eq_true rfl⟩ dL_law_1048 (fun H locs w => ?_)
  refine lv_aload_n hx hb dL_law_1051 rfl (lv_at hl 1 rfl) ?_
  refine lv_aload_n hx hb dL_law_1052 rfl (lv_at hl 3 rfl) ?_
  refine lv_iload_n hx hb dL_law_1053 rfl (lv_at hl 0 rfl) ?_
  refine lv_iconst (v := 1) hx hb dL_law_1054 (by decide) ?_
  refine lv_iadd hx hb dL_law_1055 ?_
  refine r_val (v := 1) (by decide) ?_
  refine va_sld hx hb hX hbl hbA w.2.2.1 (vpi (by decide) (by decide)) dL_law_1056 ?_
  refine r_val (v := 3) ((congrArg xs (show (1 : Int32).toNatClampNeg = 1 by decide)).trans x1) ?_
  refine x_Vi F w (As := [.int 3]) (rest := [.int 0]) (a := 146) (by decide) (sh_12 rfl _ _) rfl (c_X12_count_501 (rfl) (rfl) (rfl) (rfl) (rfl) (rfl) (rfl) (rfl) (rfl) (rfl) (rfl) (rfl) (rfl) (rfl) (rfl) (rfl) (rfl) (rfl) (rfl) (rfl) (rfl) (rfl) (rfl) (rfl) (rfl) (rfl) (rfl) (rfl) (rfl) (rfl) (rfl) (rfl) (rfl) (rfl) (rfl) (rfl) (rfl) (rfl) (rfl) (rfl) (rfl) (rfl) (rfl) (rfl) (rfl) (rfl) (rfl) (rfl) (rfl) (rfl) (rfl) (rfl) (rfl) (rfl) (rfl) (rfl) (rfl)) gv_L_138 hv_X12_count ⟨Nat.le_of_ble_eq_true rfl, Nat.le_of_ble_eq_true rfl⟩ hl.1 rfl (Nat.le_of_ble_eq_true rfl) ⟨Nat.le_of_ble_eq_true rfl, Nat.le_of_ble_eq_true rfl⟩ dL_law_1057 (fun H locs w => ?_)
  refine lv_icmp_eq (tgt := 1065) hx hb dL_law_1060 (by decide) (fun _ => ?_) (fun c1 => absurd c1 (by decide))
  exact kk _ _ _ w
set_option maxRecDepth 4000 in
theorem c_X11_count_502 {l : Launch} {D : va_G} {B : Nat} {cy : Nat → ClassId} {M : Mem} {p1 : Int32} (h0 : p1.toInt < 0 ∨ 3 < p1.toInt) : Ci l D B cy yX11_count cX11_count 2 (some .int) 0 0 [.ref (B + 0), .int p1] M (fun r M1 => r = (-1) ∧ M1 = M) := by
  refine s_any (by decide) (Nat.le_of_ble_eq_true rfl) ?_
  intro p e s m below meth c ls F hr hlocks w hl
  have F : CallFix p m c cX11_count 2 s _ TB RX11 := F
  have hx := F.1
  have hb := F.2.1
  have hl : lv_has ls 2 [(0, .ref (B + 0)), (1, .int p1)] := hl
  refine lv_iload_n hx hb dX11_count_0 rfl (lv_at hl 1 rfl) ?_
  refine lv_tableOut (tgt := 79) hx hb dX11_count_1 h0 (by decide) ?_
  refine lv_iconst (v := (-1)) hx hb dX11_count_79 (by decide) ?_
  exact e_i F w hr hlocks ⟨rfl, rfl⟩ dX11_count_80
set_option maxRecDepth 4000 in
theorem c_X12_count_503 {l : Launch} {D : va_G} {B : Nat} {cy : Nat → ClassId} {M : Mem} {p1 : Int32} (h0 : p1.toInt < 0 ∨ 3 < p1.toInt) : Ci l D B cy yX12_count cX12_count 2 (some .int) 0 0 [.ref (B + 146), .int p1] M (fun r M1 => r = (-1) ∧ M1 = M) := by
  refine s_any (by decide) (Nat.le_of_ble_eq_true rfl) ?_
  intro p e s m below meth c ls F hr hlocks w hl
  have F : CallFix p m c cX12_count 2 s _ TB RX12 := F
  have hx := F.1
  have hb := F.2.1
  have hl : lv_has ls 2 [(0, .ref (B + 146)), (1, .int p1)] := hl
  refine lv_iload_n hx hb dX12_count_0 rfl (lv_at hl 1 rfl) ?_
  refine lv_tableOut (tgt := 52) hx hb dX12_count_1 h0 (by decide) ?_
  refine lv_iconst (v := (-1)) hx hb dX12_count_52 (by decide) ?_
  exact e_i F w hr hlocks ⟨rfl, rfl⟩ dX12_count_53
set_option maxRecDepth 8000 in
theorem la_28_113 {p : Program} {l : Launch} {e : Env} {s : State} {m : MethodId} {below : List Frame} {meth : Method} {c : Code} {D : va_G} {B b : Nat} {cy : Nat → ClassId} {H : Heap} {locs : List Loc} {ls : Array Slot} {xs : Nat → Int32} {Q : State → Prop} (F : CallFix p m c code 4 s #[Value.ref b] TB RL) (hX : va_X b 6 xs s s.heap) (hbl : b < s.heap.size) (hbA : ¬ B ≤ b) (w : Wd D B cy s s.heap M0 H locs) (hl : lv_has ls 4 [(3, .int 0), (2, .ref (B + 146)), (1, .ref (B + 0)), (0, .ref b)]) (h0 : (xs 1).toInt < 0 ∨ 3 < (xs 1).toInt) (kk : ∀ (M1 : Mem) (H1 : Heap) (locs1 : List Loc), Wd D B cy s s.heap M1 H1 locs1 → W p l e room_1 s m #[Value.ref b] below meth c H1 locs1 159 13107 Q (F0 m 1065 ls [])) : W p l e room_1 s m #[Value.ref b] below meth c H locs 159 13107 Q (F0 m 1042 ls []) := by
  have hx := F.1
  have hb := F.2.1
  refine lv_aload_n hx hb dL_law_1042 rfl (lv_at hl 2 rfl) ?_
  refine lv_aload_n hx hb dL_law_1043 rfl (lv_at hl 3 rfl) ?_
  refine lv_iload_n hx hb dL_law_1044 rfl (lv_at hl 0 rfl) ?_
  refine lv_iconst (v := 1) hx hb dL_law_1045 (by decide) ?_
  refine lv_iadd hx hb dL_law_1046 ?_
  refine r_val (v := 1) (by decide) ?_
  refine va_sld hx hb hX hbl hbA w.2.2.1 (vpi (by decide) (by decide)) dL_law_1047 ?_
  refine r_val (v := xs 1) (congrArg xs (show (1 : Int32).toNatClampNeg = 1 by decide)) ?_
  refine x_Vi F w (As := [.int (xs 1)]) (rest := []) (a := 0) (by decide) (sh_11 rfl _ _) rfl (c_X11_count_502 h0) gv_L_135 hv_X11_count ⟨Nat.le_of_ble_eq_true rfl, Nat.le_of_ble_eq_true rfl⟩ hl.1 rfl (Nat.le_of_ble_eq_true rfl) ⟨Nat.le_of_ble_eq_true rfl, Nat.le_of_ble_eq_true rfl⟩ dL_law_1048 (fun H locs w => ?_)
  refine lv_aload_n hx hb dL_law_1051 rfl (lv_at hl 1 rfl) ?_
  refine lv_aload_n hx hb dL_law_1052 rfl (lv_at hl 3 rfl) ?_
  refine lv_iload_n hx hb dL_law_1053 rfl (lv_at hl 0 rfl) ?_
  refine lv_iconst (v := 1) hx hb dL_law_1054 (by decide) ?_
  refine lv_iadd hx hb dL_law_1055 ?_
  refine r_val (v := 1) (by decide) ?_
  refine va_sld hx hb hX hbl hbA w.2.2.1 (vpi (by decide) (by decide)) dL_law_1056 ?_
  refine r_val (v := xs 1) (congrArg xs (show (1 : Int32).toNatClampNeg = 1 by decide)) ?_
  refine x_Vi F w (As := [.int (xs 1)]) (rest := [.int (-1)]) (a := 146) (by decide) (sh_12 rfl _ _) rfl (c_X12_count_503 h0) gv_L_138 hv_X12_count ⟨Nat.le_of_ble_eq_true rfl, Nat.le_of_ble_eq_true rfl⟩ hl.1 rfl (Nat.le_of_ble_eq_true rfl) ⟨Nat.le_of_ble_eq_true rfl, Nat.le_of_ble_eq_true rfl⟩ dL_law_1057 (fun H locs w => ?_)
  refine lv_icmp_eq (tgt := 1065) hx hb dL_law_1060 (by decide) (fun _ => ?_) (fun c1 => absurd c1 (by decide))
  exact kk _ _ _ w
set_option maxRecDepth 8000 in
theorem lc_28 {p : Program} {l : Launch} {e : Env} {s : State} {m : MethodId} {below : List Frame} {meth : Method} {c : Code} {D : va_G} {B b : Nat} {cy : Nat → ClassId} {H : Heap} {locs : List Loc} {ls : Array Slot} {xs : Nat → Int32} {Q : State → Prop} (F : CallFix p m c code 4 s #[Value.ref b] TB RL) (hX : va_X b 6 xs s s.heap) (hbl : b < s.heap.size) (hbA : ¬ B ≤ b) (w : Wd D B cy s s.heap M0 H locs) (hl : lv_has ls 4 [(3, .int 0), (2, .ref (B + 146)), (1, .ref (B + 0)), (0, .ref b)]) (kk : ∀ (M1 : Mem) (H1 : Heap) (locs1 : List Loc), Wd D B cy s s.heap M1 H1 locs1 → W p l e room_1 s m #[Value.ref b] below meth c H1 locs1 159 13107 Q (F0 m 1065 ls [])) : W p l e room_1 s m #[Value.ref b] below meth c H locs 159 13107 Q (F0 m 1042 ls []) := by
  rcases (show (xs 1).toInt < 0 ∨ (xs 1).toInt = 0 ∨ (xs 1).toInt = 1 ∨ (xs 1).toInt = 2 ∨ (xs 1).toInt = 3 ∨ 3 < (xs 1).toInt by omega) with h1 | h1 | h1 | h1 | h1 | h1
  · skip
    exact la_28_108 F hX hbl hbA w hl (by omega) kk
  · have x1 : xs 1 = 0 := Int32.toInt_inj.mp (h1.trans (by decide))
    exact la_28_109 F hX hbl hbA w hl x1 kk
  · have x1 : xs 1 = 1 := Int32.toInt_inj.mp (h1.trans (by decide))
    exact la_28_110 F hX hbl hbA w hl x1 kk
  · have x1 : xs 1 = 2 := Int32.toInt_inj.mp (h1.trans (by decide))
    exact la_28_111 F hX hbl hbA w hl x1 kk
  · have x1 : xs 1 = 3 := Int32.toInt_inj.mp (h1.trans (by decide))
    exact la_28_112 F hX hbl hbA w hl x1 kk
  · skip
    exact la_28_113 F hX hbl hbA w hl (by omega) kk
