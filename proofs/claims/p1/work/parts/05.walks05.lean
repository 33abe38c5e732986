set_option maxRecDepth 8000 in
theorem ex_X6_bring_386 {p : Program} {l : Launch} {e : Env} {s : State} {m : MethodId} {args : Array Value} {below : List Frame} {meth : Method} {c : Code} {D : va_G} {B : Nat} {cy : Nat → ClassId} {H : Heap} {locs : List Loc} {ls : Array Slot} {M : Mem} {post : Mem → Prop} (F : CallFix p m c cX6_bring 11 s args TB RX6) (hr : meth.sig.returnType = none) (hlocks : meth.locks = false) (w : Wd D B cy s s.heap M H locs) (hl : lv_has ls 11 [(9, .int 3), (7, .long 0), (5, .long 0), (4, .int 3), (0, .ref (B + 135)), (1, .ref (B + 22)), (2, .ref (B + 44)), (3, .int 1)]) (h0 : M.1 135 0 = 0) (hp : post (st M 135 0 2)) : W p l e (rmm 2 48) s m args below meth c H locs 0 0 (MQ below (va_Qv post (fun M1 t => Wp D B cy M1 t) (fun q => B ≤ q)) args s 0 0 (fun q => B ≤ q)) (F0 m 76 ls []) := by
  have hx := F.1
  have hb := F.2.1
  refine lv_iload hx hb dX6_bring_76 (lv_at hl 0 rfl) ?_
  refine lv_iload hx hb dX6_bring_78 (lv_at hl 3 rfl) ?_
  refine lv_icmp_ge (tgt := 199) hx hb dX6_bring_80 (by decide) (fun _ => ?_) (fun c1 => absurd c1 (by decide))
  refine lv_aload_n hx hb dX6_bring_199 rfl (lv_at hl 4 rfl) ?_
  refine lv_dup hx hb dX6_bring_200 rfl ?_
  refine f_6_0 F w (a := 135) rfl tb_107 dX6_bring_201 ?_
  refine r_val (v := 0) (h0) ?_
  refine lv_iconst (v := 1) hx hb dX6_bring_204 (by decide) ?_
  refine lv_iload_n hx hb dX6_bring_205 rfl (lv_at hl 7 rfl) ?_
  refine lv_ishl hx hb dX6_bring_206 ?_
  refine r_val (v := 2) (by decide) ?_
  refine lv_ior hx hb dX6_bring_207 ?_
  refine r_val (v := 2) (by decide) ?_
  refine u_6_0 F w (a := 135) rfl tb_107 dX6_bring_208 (fun H locs w => ?_)
  exact e_v F w hr hlocks hp dX6_bring_211
set_option maxRecDepth 8000 in
theorem lp_X6_bring_386 {p : Program} {l : Launch} {e : Env} {s : State} {m : MethodId} {args : Array Value} {below : List Frame} {meth : Method} {c : Code} {D : va_G} {B : Nat} {cy : Nat → ClassId} {Mb : Mem} (F : CallFix p m c cX6_bring 11 s args TB RX6) (hr : meth.sig.returnType = none) (hlocks : meth.locks = false) : ∀ (n k : Nat), n + k = 3 → 1 ≤ k → ∀ (M : Mem) (H : Heap) (locs : List Loc) (ls : Array Slot), Wd D B cy s s.heap M H locs → lv_has ls 11 [(9, .int (nI k)), (7, .long 0), (5, .long 0), (4, .int 3), (0, .ref (B + 135)), (1, .ref (B + 22)), (2, .ref (B + 44)), (3, .int 1)] → M.1 136 1 = nI k → (M.1 138 0 = 1) → (M.1 138 1 = 0) → (M.1 138 2 = 0) → (M.1 138 3 = 0) → (M.1 44 1 = 0) → (M.1 44 2 = 0) → (M.1 44 3 = 0) → (M.1 140 0 = 0) → (M.1 22 2 = 0) → (M.1 137 1 = 0) → (M.1 135 0 = 0) → (∀ a, 146 ≤ a → M.1 a = Mb.1 a) → W p l e (rmm 2 48) s m args below meth c H locs 0 0 (MQ below (va_Qv (fun M1 => M1.1 136 1 = 3 ∧ M1.1 137 1 = 0 ∧ ∀ a, 146 ≤ a → M1.1 a = Mb.1 a) (fun M1 t => Wp D B cy M1 t) (fun q => B ≤ q)) args s 0 0 (fun q => B ≤ q)) (F0 m 76 ls []) := by
  intro n
  induction n with
  | zero =>
    intro k hk h1 M H locs ls w hl g0 h0 h1 h2 h3 h4 h5 h6 h7 h8 h9 h10 hi
    have hk : k = 3 := by omega
    subst hk
    exact ex_X6_bring_386 (post := fun M1 => M1.1 136 1 = 3 ∧ M1.1 137 1 = 0 ∧ ∀ a, 146 ≤ a → M1.1 a = Mb.1 a) F hr hlocks w hl h10 ⟨(st_ne (by decide)).trans g0, (st_ne (by decide)).trans h9, fun a ha => (st_hi (by omega)).trans ((hi a ha))⟩
  | succ n ih =>
    intro k hk h1 M H locs ls w hl g0 h0 h1 h2 h3 h4 h5 h6 h7 h8 h9 h10 hi
    exact bd_X6_bring_386 F w hl (show ¬ nI 3 ≤ nI k from nI_ge (by omega) (by decide)) h0 h1 h2 h3 h4 h5 h6 h7 h8 g0 (nI_ne0 (by omega) (by omega)) h9 (fun f H1 locs1 ls1 w1 hl1 => ih (k + 1) (by omega) (by omega) _ H1 locs1 ls1 w1 (by rw [nI_1] at hl1; exact hl1) (st_at.trans (nI_1 k)) ((st_ne (by decide)).trans ((sA_ne (by decide)).trans st_at)) ((st_ne (by decide)).trans ((sA_ne (by decide)).trans ((st_ne (by decide)).trans ((st_ne (by decide)).trans h1)))) ((st_ne (by decide)).trans ((sA_ne (by decide)).trans ((st_ne (by decide)).trans ((st_ne (by decide)).trans h2)))) ((st_ne (by decide)).trans ((sA_ne (by decide)).trans ((st_ne (by decide)).trans ((st_ne (by decide)).trans h3)))) ((st_ne (by decide)).trans ((sA_ne (by decide)).trans ((st_ne (by decide)).trans ((st_ne (by decide)).trans h4)))) ((st_ne (by decide)).trans ((sA_ne (by decide)).trans ((st_ne (by decide)).trans ((st_ne (by decide)).trans h5)))) ((st_ne (by decide)).trans ((sA_ne (by decide)).trans ((st_ne (by decide)).trans ((st_ne (by decide)).trans h6)))) ((st_ne (by decide)).trans ((sA_ne (by decide)).trans ((st_ne (by decide)).trans ((st_ne (by decide)).trans h7)))) ((st_ne (by decide)).trans ((sA_ne (by decide)).trans ((st_ne (by decide)).trans ((st_ne (by decide)).trans h8)))) ((st_ne (by decide)).trans ((sA_ne (by decide)).trans ((st_ne (by decide)).trans ((st_ne (by decide)).trans h9)))) ((st_ne (by decide)).trans ((sA_ne (by decide)).trans ((st_ne (by decide)).trans ((st_ne (by decide)).trans h10)))) (fun a ha => (st_hi (by omega)).trans ((sA_hi (by omega)).trans ((st_hi (by omega)).trans ((st_hi (by omega)).trans ((hi a ha)))))))
set_option maxRecDepth 8000 in
theorem c_X6_bring_386 {l : Launch} {D : va_G} {B : Nat} {cy : Nat → ClassId} {M : Mem} (h0 : M.1 135 0 = 0) (h1 : M.1 44 0 = 0) (h2 : M.1 136 1 = 0) (h3 : M.1 137 1 = 0) (h4 : M.1 138 0 = 0) (h5 : M.1 138 1 = 0) (h6 : M.1 138 2 = 0) (h7 : M.1 138 3 = 0) (h8 : M.1 44 1 = 0) (h9 : M.1 44 2 = 0) (h10 : M.1 44 3 = 0) (h11 : M.1 140 0 = 0) (h12 : M.1 22 2 = 0) : Cv l D B cy yX6_bring cX6_bring 11 2 48 [.ref (B + 135), .ref (B + 22), .ref (B + 44), .int 1] M (fun M1 => M1.1 136 1 = 3 ∧ M1.1 137 1 = 0 ∧ ∀ a, 146 ≤ a → M1.1 a = M.1 a) := by
  refine s_any (by decide) (Nat.le_of_ble_eq_true rfl) ?_
  intro p e s m below meth c ls F hr hlocks w hl
  have F : CallFix p m c cX6_bring 11 s _ TB RX6 := F
  have hx := F.1
  have hb := F.2.1
  have hl : lv_has ls 11 [(0, .ref (B + 135)), (1, .ref (B + 22)), (2, .ref (B + 44)), (3, .int 1)] := hl
  refine lv_iload_n hx hb dX6_bring_0 rfl (lv_at hl 3 rfl) ?_
  refine lv_if_lt (tgt := 21) hx hb dX6_bring_1 (by decide) (fun c1 => absurd c1 (by decide)) (fun _ => ?_)
  refine lv_iload_n hx hb dX6_bring_4 rfl (lv_at hl 3 rfl) ?_
  refine lv_bipush (v := 6) hx hb dX6_bring_5 (by decide) ?_
  refine lv_icmp_gt (tgt := 21) hx hb dX6_bring_7 (by decide) (fun c1 => absurd c1 (by decide)) (fun _ => ?_)
  refine lv_aload_n hx hb dX6_bring_10 rfl (lv_at hl 0 rfl) ?_
  refine f_6_0 F w (a := 135) rfl tb_107 dX6_bring_11 ?_
  refine r_val (v := 0) (h0) ?_
  refine lv_iload_n hx hb dX6_bring_14 rfl (lv_at hl 3 rfl) ?_
  refine lv_ishr hx hb dX6_bring_15 ?_
  refine r_val (v := 0) (by decide) ?_
  refine lv_iconst (v := 1) hx hb dX6_bring_16 (by decide) ?_
  refine lv_iand hx hb dX6_bring_17 ?_
  refine r_val (v := 0) (by decide) ?_
  refine lv_if_eq (tgt := 22) hx hb dX6_bring_18 (by decide) (fun _ => ?_) (fun c1 => absurd c1 (by decide))
  refine lv_iconst (v := 1) hx hb dX6_bring_22 (by decide) ?_
  refine lv_istore (lv' := [(4, .int 1), (0, .ref (B + 135)), (1, .ref (B + 22)), (2, .ref (B + 44)), (3, .int 1)]) hx hb dX6_bring_23 hl (by decide) rfl (fun ls hl => ?_)
  refine lv_iconst (v := 0) hx hb dX6_bring_25 (by decide) ?_
  refine lv_istore (lv' := [(5, .int 0), (4, .int 1), (0, .ref (B + 135)), (1, .ref (B + 22)), (2, .ref (B + 44)), (3, .int 1)]) hx hb dX6_bring_26 hl (by decide) rfl (fun ls hl => ?_)
  refine lv_iload hx hb dX6_bring_28 (lv_at hl 0 rfl) ?_
  refine lv_iload_n hx hb dX6_bring_30 rfl (lv_at hl 5 rfl) ?_
  refine lv_icmp_ge (tgt := 46) hx hb dX6_bring_31 (by decide) (fun c1 => absurd c1 (by decide)) (fun _ => ?_)
  refine lv_iload hx hb dX6_bring_34 (lv_at hl 1 rfl) ?_
  refine lv_iconst (v := 3) hx hb dX6_bring_36 (by decide) ?_
  refine lv_imul hx hb dX6_bring_37 ?_
  refine r_val (v := 3) (by decide) ?_
  refine lv_istore (lv' := [(4, .int 3), (5, .int 0), (0, .ref (B + 135)), (1, .ref (B + 22)), (2, .ref (B + 44)), (3, .int 1)]) hx hb dX6_bring_38 hl (by decide) rfl (fun ls hl => ?_)
  refine lv_iinc (v := 1) (lv' := [(5, .int 1), (4, .int 3), (0, .ref (B + 135)), (1, .ref (B + 22)), (2, .ref (B + 44)), (3, .int 1)]) hx hb dX6_bring_40 hl (k := 1) rfl (by decide) (by decide) rfl (fun ls hl => ?_)
  refine lv_goto (tgt := 28) hx hb dX6_bring_43 (by decide) ?_
  refine lv_iload hx hb dX6_bring_28 (lv_at hl 0 rfl) ?_
  refine lv_iload_n hx hb dX6_bring_30 rfl (lv_at hl 5 rfl) ?_
  refine lv_icmp_ge (tgt := 46) hx hb dX6_bring_31 (by decide) (fun _ => ?_) (fun c1 => absurd c1 (by decide))
  refine lv_aload_n hx hb dX6_bring_46 rfl (lv_at hl 4 rfl) ?_
  refine x_Vl F w (As := []) (rest := []) (a := 44) (by decide) (sh_9 rfl _ _) rfl (c_X9_kindsRead_345 (h1)) gv_X6_29 hv_X9_kindsRead ⟨Nat.le_of_ble_eq_true rfl, Nat.le_of_ble_eq_true rfl⟩ hl.1 rfl (Nat.le_of_ble_eq_true rfl) ⟨Nat.zero_le _, Nat.zero_le _⟩ dX6_bring_47 (fun H locs w => ?_)
  refine lv_lstore (lv' := [(5, .long 0), (4, .int 3), (0, .ref (B + 135)), (1, .ref (B + 22)), (2, .ref (B + 44)), (3, .int 1)]) hx hb dX6_bring_50 hl (by decide) rfl (fun ls hl => ?_)
  refine lv_aload_n hx hb dX6_bring_52 rfl (lv_at hl 4 rfl) ?_
  refine x_Vl F w (As := []) (rest := []) (a := 44) (by decide) (sh_9 rfl _ _) rfl (c_X9_linesRead_346 (h1)) gv_X6_33 hv_X9_linesRead ⟨Nat.le_of_ble_eq_true rfl, Nat.le_of_ble_eq_true rfl⟩ hl.1 rfl (Nat.le_of_ble_eq_true rfl) ⟨Nat.zero_le _, Nat.zero_le _⟩ dX6_bring_53 (fun H locs w => ?_)
  refine lv_lstore (lv' := [(7, .long 0), (5, .long 0), (4, .int 3), (0, .ref (B + 135)), (1, .ref (B + 22)), (2, .ref (B + 44)), (3, .int 1)]) hx hb dX6_bring_56 hl (by decide) rfl (fun ls hl => ?_)
  refine lv_aload_n hx hb dX6_bring_58 rfl (lv_at hl 3 rfl) ?_
  refine f_6_1 F w (a := 135) rfl tb_108 dX6_bring_59 ?_
  refine lv_iload_n hx hb dX6_bring_62 rfl (lv_at hl 6 rfl) ?_
  refine lv_iconst (v := 0) hx hb dX6_bring_63 (by decide) ?_
  refine g_iast F w (a := 136) rfl (j := 1) ⟨by decide, by decide⟩ (by decide) dX6_bring_64 (fun H locs w => ?_)
  rw [st_same (h2)] at w
  refine lv_aload_n hx hb dX6_bring_65 rfl (lv_at hl 3 rfl) ?_
  refine f_6_2 F w (a := 135) rfl tb_109 dX6_bring_66 ?_
  refine lv_iload_n hx hb dX6_bring_69 rfl (lv_at hl 6 rfl) ?_
  refine lv_bipush (v := (-2)) hx hb dX6_bring_70 (by decide) ?_
  refine g_iast F w (a := 137) rfl (j := 1) ⟨by decide, by decide⟩ (by decide) dX6_bring_72 (fun H locs w => ?_)
  refine lv_iconst (v := 0) hx hb dX6_bring_73 (by decide) ?_
  refine lv_istore (lv' := [(9, .int 0), (7, .long 0), (5, .long 0), (4, .int 3), (0, .ref (B + 135)), (1, .ref (B + 22)), (2, .ref (B + 44)), (3, .int 1)]) hx hb dX6_bring_74 hl (by decide) rfl (fun ls hl => ?_)
  refine lv_iload hx hb dX6_bring_76 (lv_at hl 0 rfl) ?_
  refine lv_iload hx hb dX6_bring_78 (lv_at hl 3 rfl) ?_
  refine lv_icmp_ge (tgt := 199) hx hb dX6_bring_80 (by decide) (fun c1 => absurd c1 (by decide)) (fun _ => ?_)
  refine lv_aload_n hx hb dX6_bring_83 rfl (lv_at hl 4 rfl) ?_
  refine lv_aload_n hx hb dX6_bring_84 rfl (lv_at hl 5 rfl) ?_
  refine f_0_4 F w (a := 22) rfl tb_556 dX6_bring_85 ?_
  refine lv_iload_n hx hb dX6_bring_88 rfl (lv_at hl 7 rfl) ?_
  refine lv_iload hx hb dX6_bring_89 (lv_at hl 0 rfl) ?_
  refine k_Vv F w (As := [.ref (B + 44), .int 1, .int 0]) (rest := []) (a := 135) (by decide) (sh_6 rfl _ _) rfl (c_X6_layRow_380 ((st_ne (by decide)).trans h4) ((st_ne (by decide)).trans h5) ((st_ne (by decide)).trans h6) ((st_ne (by decide)).trans h7) ((st_ne (by decide)).trans h8) ((st_ne (by decide)).trans h9) ((st_ne (by decide)).trans h10) ((st_ne (by decide)).trans h11)) gv_X6_41 hv_X6_layRow ⟨Nat.le_of_ble_eq_true rfl, Nat.le_of_ble_eq_true rfl⟩ hl.1 rfl (Nat.le_of_ble_eq_true rfl) ⟨Nat.zero_le _, Nat.zero_le _⟩ dX6_bring_91 (fun M1 H locs hp w => ?_)
  obtain ⟨f21, hf⟩ := hp
  rw [hf] at w
  clear hf
  refine lv_iconst (v := 0) hx hb dX6_bring_94 (by decide) ?_
  refine lv_istore (lv' := [(10, .int 0), (9, .int 0), (7, .long 0), (5, .long 0), (4, .int 3), (0, .ref (B + 135)), (1, .ref (B + 22)), (2, .ref (B + 44)), (3, .int 1)]) hx hb dX6_bring_95 hl (by decide) rfl (fun ls hl => ?_)
  refine lv_iload hx hb dX6_bring_97 (lv_at hl 0 rfl) ?_
  refine lv_aload_n hx hb dX6_bring_99 rfl (lv_at hl 6 rfl) ?_
  refine f_0_2 F w (a := 22) rfl tb_562 dX6_bring_100 ?_
  refine r_val (v := 0) ((sA_ne (by decide)).trans ((st_ne (by decide)).trans ((st_ne (by decide)).trans h12))) ?_
  refine lv_icmp_ge (tgt := 131) hx hb dX6_bring_103 (by decide) (fun _ => ?_) (fun c1 => absurd c1 (by decide))
  refine lv_aload_n hx hb dX6_bring_131 rfl (lv_at hl 5 rfl) ?_
  refine f_6_3 F w (a := 135) rfl tb_111 dX6_bring_132 ?_
  refine x_Vl F w (As := []) (rest := []) (a := 138) (by decide) (sh_9 rfl _ _) rfl (c_X9_kindsRead_381 ((sA_ne (by decide)).trans st_at) ((sA_ne (by decide)).trans ((st_ne (by decide)).trans ((st_ne (by decide)).trans h11)))) gv_X6_29 hv_X9_kindsRead ⟨Nat.le_of_ble_eq_true rfl, Nat.le_of_ble_eq_true rfl⟩ hl.1 rfl (Nat.le_of_ble_eq_true rfl) ⟨Nat.zero_le _, Nat.zero_le _⟩ dX6_bring_135 (fun H locs w => ?_)
  refine lv_lload hx hb dX6_bring_138 (lv_at hl 3 rfl) ?_
  refine W.lcmp hx hb dX6_bring_140 ?_
  refine r_val (v := 0) (by decide) ?_
  refine lv_if_ne (tgt := 193) hx hb dX6_bring_141 (by decide) (fun c1 => absurd c1 (by decide)) (fun _ => ?_)
  refine lv_aload_n hx hb dX6_bring_144 rfl (lv_at hl 5 rfl) ?_
  refine f_6_3 F w (a := 135) rfl tb_111 dX6_bring_145 ?_
  refine x_Vl F w (As := []) (rest := []) (a := 138) (by decide) (sh_9 rfl _ _) rfl (c_X9_linesRead_382 ((sA_ne (by decide)).trans st_at) ((sA_ne (by decide)).trans ((st_ne (by decide)).trans ((st_ne (by decide)).trans h11)))) gv_X6_33 hv_X9_linesRead ⟨Nat.le_of_ble_eq_true rfl, Nat.le_of_ble_eq_true rfl⟩ hl.1 rfl (Nat.le_of_ble_eq_true rfl) ⟨Nat.zero_le _, Nat.zero_le _⟩ dX6_bring_148 (fun H locs w => ?_)
  refine lv_lload hx hb dX6_bring_151 (lv_at hl 2 rfl) ?_
  refine W.lcmp hx hb dX6_bring_153 ?_
  refine r_val (v := 0) (by decide) ?_
  refine lv_if_ne (tgt := 193) hx hb dX6_bring_154 (by decide) (fun c1 => absurd c1 (by decide)) (fun _ => ?_)
  refine lv_aload_n hx hb dX6_bring_157 rfl (lv_at hl 5 rfl) ?_
  refine f_6_2 F w (a := 135) rfl tb_109 dX6_bring_158 ?_
  refine lv_iload_n hx hb dX6_bring_161 rfl (lv_at hl 8 rfl) ?_
  refine lv_aload_n hx hb dX6_bring_162 rfl (lv_at hl 5 rfl) ?_
  refine f_6_1 F w (a := 135) rfl tb_108 dX6_bring_163 ?_
  refine lv_iload_n hx hb dX6_bring_166 rfl (lv_at hl 8 rfl) ?_
  refine g_iald F w (a := 136) rfl (j := 1) ⟨by decide, by decide⟩ (by decide) dX6_bring_167 ?_
  refine r_val (v := 0) ((sA_ne (by decide)).trans ((st_ne (by decide)).trans ((st_ne (by decide)).trans h2))) ?_
  refine lv_if_ne (tgt := 176) hx hb dX6_bring_168 (by decide) (fun c1 => absurd c1 (by decide)) (fun _ => ?_)
  refine lv_iload hx hb dX6_bring_171 (lv_at hl 1 rfl) ?_
  refine lv_goto (tgt := 182) hx hb dX6_bring_173 (by decide) ?_
  refine g_iast F w (a := 137) rfl (j := 1) ⟨by decide, by decide⟩ (by decide) dX6_bring_182 (fun H locs w => ?_)
  refine lv_aload_n hx hb dX6_bring_183 rfl (lv_at hl 5 rfl) ?_
  refine f_6_1 F w (a := 135) rfl tb_108 dX6_bring_184 ?_
  refine lv_iload_n hx hb dX6_bring_187 rfl (lv_at hl 8 rfl) ?_
  refine lv_dup2_11 hx hb dX6_bring_188 rfl rfl ?_
  refine g_iald F w (a := 136) rfl (j := 1) ⟨by decide, by decide⟩ (by decide) dX6_bring_189 ?_
  refine r_val (v := 0) ((st_ne (by decide)).trans ((sA_ne (by decide)).trans ((st_ne (by decide)).trans ((st_ne (by decide)).trans h2)))) ?_
  refine lv_iconst (v := 1) hx hb dX6_bring_190 (by decide) ?_
  refine lv_iadd hx hb dX6_bring_191 ?_
  refine r_val (v := 1) (by decide) ?_
  refine g_iast F w (a := 136) rfl (j := 1) ⟨by decide, by decide⟩ (by decide) dX6_bring_192 (fun H locs w => ?_)
  refine lv_iinc (v := 1) (lv' := [(9, .int 1), (10, .int 0), (7, .long 0), (5, .long 0), (4, .int 3), (0, .ref (B + 135)), (1, .ref (B + 22)), (2, .ref (B + 44)), (3, .int 1)]) hx hb dX6_bring_193 hl (k := 1) rfl (by decide) (by decide) rfl (fun ls hl => ?_)
  refine lv_goto (tgt := 76) hx hb dX6_bring_196 (by decide) ?_
  exact lp_X6_bring_386 F hr hlocks 2 1 (by decide) (by decide) _ H locs ls w (show lv_has ls 11 [(9, .int 1), (7, .long 0), (5, .long 0), (4, .int 3), (0, .ref (B + 135)), (1, .ref (B + 22)), (2, .ref (B + 44)), (3, .int 1)] from lv_sub hl [0, 2, 3, 4, 5, 6, 7, 8] rfl) (st_at) ((st_ne (by decide)).trans ((st_ne (by decide)).trans ((sA_ne (by decide)).trans st_at))) ((st_ne (by decide)).trans ((st_ne (by decide)).trans ((sA_ne (by decide)).trans ((st_ne (by decide)).trans ((st_ne (by decide)).trans h5))))) ((st_ne (by decide)).trans ((st_ne (by decide)).trans ((sA_ne (by decide)).trans ((st_ne (by decide)).trans ((st_ne (by decide)).trans h6))))) ((st_ne (by decide)).trans ((st_ne (by decide)).trans ((sA_ne (by decide)).trans ((st_ne (by decide)).trans ((st_ne (by decide)).trans h7))))) ((st_ne (by decide)).trans ((st_ne (by decide)).trans ((sA_ne (by decide)).trans ((st_ne (by decide)).trans ((st_ne (by decide)).trans h8))))) ((st_ne (by decide)).trans ((st_ne (by decide)).trans ((sA_ne (by decide)).trans ((st_ne (by decide)).trans ((st_ne (by decide)).trans h9))))) ((st_ne (by decide)).trans ((st_ne (by decide)).trans ((sA_ne (by decide)).trans ((st_ne (by decide)).trans ((st_ne (by decide)).trans h10))))) ((st_ne (by decide)).trans ((st_ne (by decide)).trans ((sA_ne (by decide)).trans ((st_ne (by decide)).trans ((st_ne (by decide)).trans h11))))) ((st_ne (by decide)).trans ((st_ne (by decide)).trans ((sA_ne (by decide)).trans ((st_ne (by decide)).trans ((st_ne (by decide)).trans h12))))) ((st_ne (by decide)).trans st_at) ((st_ne (by decide)).trans ((st_ne (by decide)).trans ((sA_ne (by decide)).trans ((st_ne (by decide)).trans ((st_ne (by decide)).trans h0))))) (fun a ha => (st_hi (by omega)).trans ((st_hi (by omega)).trans ((sA_hi (by omega)).trans ((st_hi (by omega)).trans ((st_hi (by omega)).trans rfl)))))
set_option maxRecDepth 4000 in
theorem c_X11_sources_387 {l : Launch} {D : va_G} {B : Nat} {cy : Nat → ClassId} {M : Mem} (h0 : M.1 22 2 = 0) (h1 : M.1 22 7 = 0) (h2 : M.1 135 0 = 0) (h3 : M.1 44 0 = 0) (h4 : M.1 136 1 = 0) (h5 : M.1 137 1 = 0) (h6 : M.1 138 0 = 0) (h7 : M.1 138 1 = 0) (h8 : M.1 138 2 = 0) (h9 : M.1 138 3 = 0) (h10 : M.1 44 1 = 0) (h11 : M.1 44 2 = 0) (h12 : M.1 44 3 = 0) (h13 : M.1 140 0 = 0) : Ci l D B cy yX11_sources cX11_sources 2 (some .int) 3 78 [.ref (B + 0), .int 1] M (fun r Mx => r = 3 ∧ ∀ a, 146 ≤ a → Mx.1 a = M.1 a) := by
  refine s_any (by decide) (Nat.le_of_ble_eq_true rfl) ?_
  intro p e s m below meth c ls F hr hlocks w hl
  have F : CallFix p m c cX11_sources 2 s _ TB RX11 := F
  have hx := F.1
  have hb := F.2.1
  have hl : lv_has ls 2 [(0, .ref (B + 0)), (1, .int 1)] := hl
  refine lv_iload_n hx hb dX11_sources_0 rfl (lv_at hl 1 rfl) ?_
  refine lv_if_lt (tgt := 10) hx hb dX11_sources_1 (by decide) (fun c1 => absurd c1 (by decide)) (fun _ => ?_)
  refine lv_iload_n hx hb dX11_sources_4 rfl (lv_at hl 1 rfl) ?_
  refine lv_bipush (v := 6) hx hb dX11_sources_5 (by decide) ?_
  refine lv_icmp_le (tgt := 12) hx hb dX11_sources_7 (by decide) (fun _ => ?_) (fun c1 => absurd c1 (by decide))
  refine lv_aload_n hx hb dX11_sources_12 rfl (lv_at hl 0 rfl) ?_
  refine f_11_7 F w (a := 0) rfl tb_113 dX11_sources_13 ?_
  refine lv_aload_n hx hb dX11_sources_16 rfl (lv_at hl 0 rfl) ?_
  refine f_11_3 F w (a := 0) rfl tb_73 dX11_sources_17 ?_
  refine lv_aload_n hx hb dX11_sources_20 rfl (lv_at hl 0 rfl) ?_
  refine f_11_3 F w (a := 0) rfl tb_73 dX11_sources_21 ?_
  refine lv_aload_n hx hb dX11_sources_24 rfl (lv_at hl 0 rfl) ?_
  refine f_11_3 F w (a := 0) rfl tb_73 dX11_sources_25 ?_
  refine f_0_2 F w (a := 22) rfl tb_216 dX11_sources_28 ?_
  refine r_val (v := 0) (h0) ?_
  refine x_Vr F w (As := [.int 0]) (rest := [.ref (B + 22), .ref (B + 135)]) (a := 22) (by decide) (sh_0 rfl _ _) rfl (c_X0_stageOf_207 (h0) (h1)) gv_X11_196 hv_X0_stageOf ⟨Nat.le_of_ble_eq_true rfl, Nat.le_of_ble_eq_true rfl⟩ hl.1 rfl (Nat.le_of_ble_eq_true rfl) ⟨Nat.zero_le _, Nat.zero_le _⟩ dX11_sources_31 (fun H locs w => ?_)
  refine lv_iload_n hx hb dX11_sources_34 rfl (lv_at hl 1 rfl) ?_
  refine k_Vv F w (As := [.ref (B + 22), .ref (B + 44), .int 1]) (rest := []) (a := 135) (by decide) (sh_6 rfl _ _) rfl (c_X6_bring_386 (h2) (h3) (h4) (h5) (h6) (h7) (h8) (h9) (h10) (h11) (h12) (h13) (h0)) gv_X11_285 hv_X6_bring ⟨Nat.le_of_ble_eq_true rfl, Nat.le_of_ble_eq_true rfl⟩ hl.1 rfl (Nat.le_of_ble_eq_true rfl) ⟨Nat.zero_le _, Nat.zero_le _⟩ dX11_sources_35 (fun M1 H locs hp w => ?_)
  obtain ⟨e0, e1, e9⟩ := hp
  refine lv_aload_n hx hb dX11_sources_38 rfl (lv_at hl 0 rfl) ?_
  refine f_11_7 F w (a := 0) rfl tb_113 dX11_sources_39 ?_
  refine f_6_1 F w (a := 135) rfl tb_566 dX11_sources_42 ?_
  refine lv_iload_n hx hb dX11_sources_45 rfl (lv_at hl 1 rfl) ?_
  refine g_iald F w (a := 136) rfl (j := 1) ⟨by decide, by decide⟩ (by decide) dX11_sources_46 ?_
  refine r_val (v := 3) (e0) ?_
  exact e_i F w hr hlocks ⟨rfl, fun a ha => ((e9 a ha).trans (rfl))⟩ dX11_sources_47
set_option maxRecDepth 4000 in
theorem c_X12_in_388 {l : Launch} {D : va_G} {B : Nat} {cy : Nat → ClassId} {M : Mem} : Ci l D B cy yX12_in cX12_in 3 (some .boolean) 0 0 [.int 1, .int 0, .int 6] M (fun r M1 => r = 1 ∧ M1 = M) := by
  refine s_any (by decide) (Nat.le_of_ble_eq_true rfl) ?_
  intro p e s m below meth c ls F hr hlocks w hl
  have F : CallFix p m c cX12_in 3 s _ TB RX12 := F
  have hx := F.1
  have hb := F.2.1
  have hl : lv_has ls 3 [(0, .int 1), (1, .int 0), (2, .int 6)] := hl
  refine lv_iload_n hx hb dX12_in_0 rfl (lv_at hl 0 rfl) ?_
  refine lv_iload_n hx hb dX12_in_1 rfl (lv_at hl 1 rfl) ?_
  refine lv_icmp_lt (tgt := 14) hx hb dX12_in_2 (by decide) (fun c1 => absurd c1 (by decide)) (fun _ => ?_)
  refine lv_iload_n hx hb dX12_in_5 rfl (lv_at hl 0 rfl) ?_
  refine lv_iload_n hx hb dX12_in_6 rfl (lv_at hl 2 rfl) ?_
  refine lv_icmp_gt (tgt := 14) hx hb dX12_in_7 (by decide) (fun c1 => absurd c1 (by decide)) (fun _ => ?_)
  refine lv_iconst (v := 1) hx hb dX12_in_10 (by decide) ?_
  refine lv_goto (tgt := 15) hx hb dX12_in_11 (by decide) ?_
  exact e_z F w hr hlocks (by decide) ⟨rfl, rfl⟩ dX12_in_15
theorem dX12_sourcesBy_19 : decode cX12_sourcesBy 19 = .ok (.iload_n 2, 1) := by decide +kernel
theorem dX12_sourcesBy_20 : decode cX12_sourcesBy 20 = .ok (.iconst 3, 1) := by decide +kernel
theorem dX12_sourcesBy_21 : decode cX12_sourcesBy 21 = .ok (.imul, 1) := by decide +kernel
theorem dX12_sourcesBy_22 : decode cX12_sourcesBy 22 = .ok (.istore_n 2, 1) := by decide +kernel
theorem dX12_sourcesBy_23 : decode cX12_sourcesBy 23 = .ok (.iinc 3 1, 3) := by decide +kernel
theorem dX12_sourcesBy_26 : decode cX12_sourcesBy 26 = .ok (.goto (-12), 3) := by decide +kernel
theorem dX12_sourcesBy_70 : decode cX12_sourcesBy 70 = .ok (.iload 5, 2) := by decide +kernel
theorem dX12_sourcesBy_72 : decode cX12_sourcesBy 72 = .ok (.iconst 3, 1) := by decide +kernel
theorem dX12_sourcesBy_73 : decode cX12_sourcesBy 73 = .ok (.idiv, 1) := by decide +kernel
theorem dX12_sourcesBy_74 : decode cX12_sourcesBy 74 = .ok (.istore 5, 2) := by decide +kernel
theorem dX12_sourcesBy_76 : decode cX12_sourcesBy 76 = .ok (.aload_n 0, 1) := by decide +kernel
theorem dX12_sourcesBy_77 : decode cX12_sourcesBy 77 = .ok (.getfield 17, 3) := by decide +kernel
theorem dX12_sourcesBy_80 : decode cX12_sourcesBy 80 = .ok (.iload 6, 2) := by decide +kernel
theorem dX12_sourcesBy_82 : decode cX12_sourcesBy 82 = .ok (.iload 4, 2) := by decide +kernel
theorem dX12_sourcesBy_84 : decode cX12_sourcesBy 84 = .ok (.iload 5, 2) := by decide +kernel
theorem dX12_sourcesBy_86 : decode cX12_sourcesBy 86 = .ok (.idiv, 1) := by decide +kernel
theorem dX12_sourcesBy_87 : decode cX12_sourcesBy 87 = .ok (.iconst 3, 1) := by decide +kernel
theorem dX12_sourcesBy_88 : decode cX12_sourcesBy 88 = .ok (.irem, 1) := by decide +kernel
theorem dX12_sourcesBy_89 : decode cX12_sourcesBy 89 = .ok (.invokestatic 112, 3) := by decide +kernel
set_option maxRecDepth 4000 in
theorem c_X12_insert_389 {l : Launch} {D : va_G} {B : Nat} {cy : Nat → ClassId} {M : Mem} (h0 : M.1 148 0 = 0) (h1 : M.1 148 1 = 0) (h2 : M.1 148 13 = 0) : Cv l D B cy yX12_insert cX12_insert 4 0 0 [.ref (B + 148), .int 0, .int 0] M (fun M1 => M1 = (st M 148 0 1)) := by
  refine s_any (by decide) (Nat.le_of_ble_eq_true rfl) ?_
  intro p e s m below meth c ls F hr hlocks w hl
  have F : CallFix p m c cX12_insert 4 s _ TB RX12 := F
  have hx := F.1
  have hb := F.2.1
  have hl : lv_has ls 4 [(0, .ref (B + 148)), (1, .int 0), (2, .int 0)] := hl
  refine lv_aload_n hx hb dX12_insert_0 rfl (lv_at hl 0 rfl) ?_
  refine lv_iconst (v := 0) hx hb dX12_insert_1 (by decide) ?_
  refine g_iald F w (a := 148) rfl (j := 0) ⟨by decide, by decide⟩ (by decide) dX12_insert_2 ?_
  refine r_val (v := 0) (h0) ?_
  refine lv_istore_n (lv' := [(3, .int 0), (0, .ref (B + 148)), (1, .int 0), (2, .int 0)]) hx hb dX12_insert_3 rfl hl (by decide) rfl (fun ls hl => ?_)
  refine lv_iload_n hx hb dX12_insert_4 rfl (lv_at hl 0 rfl) ?_
  refine lv_iload_n hx hb dX12_insert_5 rfl (lv_at hl 2 rfl) ?_
  refine lv_icmp_le (tgt := 41) hx hb dX12_insert_6 (by decide) (fun _ => ?_) (fun c1 => absurd c1 (by decide))
  refine lv_aload_n hx hb dX12_insert_41 rfl (lv_at hl 1 rfl) ?_
  refine lv_iconst (v := 1) hx hb dX12_insert_42 (by decide) ?_
  refine lv_iload_n hx hb dX12_insert_43 rfl (lv_at hl 2 rfl) ?_
  refine lv_iadd hx hb dX12_insert_44 ?_
  refine r_val (v := 1) (by decide) ?_
  refine lv_iload_n hx hb dX12_insert_45 rfl (lv_at hl 3 rfl) ?_
  refine g_iast F w (a := 148) rfl (j := 1) ⟨by decide, by decide⟩ (by decide) dX12_insert_46 (fun H locs w => ?_)
  rw [st_same (h1)] at w
  refine lv_aload_n hx hb dX12_insert_47 rfl (lv_at hl 1 rfl) ?_
  refine lv_bipush (v := 13) hx hb dX12_insert_48 (by decide) ?_
  refine lv_iload_n hx hb dX12_insert_50 rfl (lv_at hl 2 rfl) ?_
  refine lv_iadd hx hb dX12_insert_51 ?_
  refine r_val (v := 13) (by decide) ?_
  refine lv_iconst (v := 0) hx hb dX12_insert_52 (by decide) ?_
  refine g_iast F w (a := 148) rfl (j := 13) ⟨by decide, by decide⟩ (by decide) dX12_insert_53 (fun H locs w => ?_)
  rw [st_same (h2)] at w
  refine lv_aload_n hx hb dX12_insert_54 rfl (lv_at hl 1 rfl) ?_
  refine lv_iconst (v := 0) hx hb dX12_insert_55 (by decide) ?_
  refine lv_dup2_11 hx hb dX12_insert_56 rfl rfl ?_
  refine g_iald F w (a := 148) rfl (j := 0) ⟨by decide, by decide⟩ (by decide) dX12_insert_57 ?_
  refine r_val (v := 0) (h0) ?_
  refine lv_iconst (v := 1) hx hb dX12_insert_58 (by decide) ?_
  refine lv_iadd hx hb dX12_insert_59 ?_
  refine r_val (v := 1) (by decide) ?_
  refine g_iast F w (a := 148) rfl (j := 0) ⟨by decide, by decide⟩ (by decide) dX12_insert_60 (fun H locs w => ?_)
  exact e_v F w hr hlocks rfl dX12_insert_61
theorem dX12_sourcesBy_92 : decode cX12_sourcesBy 92 = .ok (.iinc 6 1, 3) := by decide +kernel
theorem dX12_sourcesBy_95 : decode cX12_sourcesBy 95 = .ok (.goto (-31), 3) := by decide +kernel
set_option maxRecDepth 4000 in
theorem c_X12_copy_390 {l : Launch} {D : va_G} {B : Nat} {cy : Nat → ClassId} {M : Mem} (h0 : M.1 147 0 = 0) (h1 : M.1 147 1 = 0) (h2 : M.1 147 2 = 0) (h3 : M.1 147 3 = 0) (h4 : M.1 147 4 = 0) (h5 : M.1 147 5 = 0) (h6 : M.1 147 6 = 0) (h7 : M.1 147 7 = 0) (h8 : M.1 147 8 = 0) (h9 : M.1 147 9 = 0) (h10 : M.1 147 10 = 0) (h11 : M.1 147 11 = 0) (h12 : M.1 147 12 = 0) (h13 : M.1 147 13 = 0) (h14 : M.1 147 14 = 0) (h15 : M.1 147 15 = 0) (h16 : M.1 147 16 = 0) (h17 : M.1 147 17 = 0) (h18 : M.1 147 18 = 0) (h19 : M.1 147 19 = 0) (h20 : M.1 147 20 = 0) (h21 : M.1 147 21 = 0) (h22 : M.1 147 22 = 0) (h23 : M.1 147 23 = 0) (h24 : M.1 147 24 = 0) (h25 : M.1 147 25 = 0) (h26 : M.1 147 26 = 0) (h27 : M.1 147 27 = 0) : Cv l D B cy yX12_copy cX12_copy 3 0 0 [.ref (B + 148), .ref (B + 147)] M (fun M1 => M1 = (st (st (st (st (st (st (st (st (st (st (st (st (st (st (st (st (st (st (st (st (st (st (st (st (st (st (st (st M 148 0 0) 148 1 0) 148 2 0) 148 3 0) 148 4 0) 148 5 0) 148 6 0) 148 7 0) 148 8 0) 148 9 0) 148 10 0) 148 11 0) 148 12 0) 148 13 0) 148 14 0) 148 15 0) 148 16 0) 148 17 0) 148 18 0) 148 19 0) 148 20 0) 148 21 0) 148 22 0) 148 23 0) 148 24 0) 148 25 0) 148 26 0) 148 27 0)) := by
  refine s_any (by decide) (Nat.le_of_ble_eq_true rfl) ?_
  intro p e s m below meth c ls F hr hlocks w hl
  have F : CallFix p m c cX12_copy 3 s _ TB RX12 := F
  have hx := F.1
  have hb := F.2.1
  have hl : lv_has ls 3 [(0, .ref (B + 148)), (1, .ref (B + 147))] := hl
  refine lv_iconst (v := 0) hx hb dX12_copy_0 (by decide) ?_
  refine lv_istore_n (lv' := [(2, .int 0), (0, .ref (B + 148)), (1, .ref (B + 147))]) hx hb dX12_copy_1 rfl hl (by decide) rfl (fun ls hl => ?_)
  refine lv_iload_n hx hb dX12_copy_2 rfl (lv_at hl 0 rfl) ?_
  refine lv_bipush (v := 28) hx hb dX12_copy_3 (by decide) ?_
  refine lv_icmp_ge (tgt := 20) hx hb dX12_copy_5 (by decide) (fun c1 => absurd c1 (by decide)) (fun _ => ?_)
  refine lv_aload_n hx hb dX12_copy_8 rfl (lv_at hl 1 rfl) ?_
  refine lv_iload_n hx hb dX12_copy_9 rfl (lv_at hl 0 rfl) ?_
  refine lv_aload_n hx hb dX12_copy_10 rfl (lv_at hl 2 rfl) ?_
  refine lv_iload_n hx hb dX12_copy_11 rfl (lv_at hl 0 rfl) ?_
  refine g_iald F w (a := 147) rfl (j := 0) ⟨by decide, by decide⟩ (by decide) dX12_copy_12 ?_
  refine r_val (v := 0) (h0) ?_
  refine g_iast F w (a := 148) rfl (j := 0) ⟨by decide, by decide⟩ (by decide) dX12_copy_13 (fun H locs w => ?_)
  refine lv_iinc (v := 1) (lv' := [(2, .int 1), (0, .ref (B + 148)), (1, .ref (B + 147))]) hx hb dX12_copy_14 hl (k := 0) rfl (by decide) (by decide) rfl (fun ls hl => ?_)
  refine lv_goto (tgt := 2) hx hb dX12_copy_17 (by decide) ?_
  refine lv_iload_n hx hb dX12_copy_2 rfl (lv_at hl 0 rfl) ?_
  refine lv_bipush (v := 28) hx hb dX12_copy_3 (by decide) ?_
  refine lv_icmp_ge (tgt := 20) hx hb dX12_copy_5 (by decide) (fun c1 => absurd c1 (by decide)) (fun _ => ?_)
  refine lv_aload_n hx hb dX12_copy_8 rfl (lv_at hl 1 rfl) ?_
  refine lv_iload_n hx hb dX12_copy_9 rfl (lv_at hl 0 rfl) ?_
  refine lv_aload_n hx hb dX12_copy_10 rfl (lv_at hl 2 rfl) ?_
  refine lv_iload_n hx hb dX12_copy_11 rfl (lv_at hl 0 rfl) ?_
  refine g_iald F w (a := 147) rfl (j := 1) ⟨by decide, by decide⟩ (by decide) dX12_copy_12 ?_
  refine r_val (v := 0) ((st_ne (by decide)).trans h1) ?_
  refine g_iast F w (a := 148) rfl (j := 1) ⟨by decide, by decide⟩ (by decide) dX12_copy_13 (fun H locs w => ?_)
  refine lv_iinc (v := 2) (lv' := [(2, .int 2), (0, .ref (B + 148)), (1, .ref (B + 147))]) hx hb dX12_copy_14 hl (k := 0) rfl (by decide) (by decide) rfl (fun ls hl => ?_)
  refine lv_goto (tgt := 2) hx hb dX12_copy_17 (by decide) ?_
  refine lv_iload_n hx hb dX12_copy_2 rfl (lv_at hl 0 rfl) ?_
  refine lv_bipush (v := 28) hx hb dX12_copy_3 (by decide) ?_
  refine lv_icmp_ge (tgt := 20) hx hb dX12_copy_5 (by decide) (fun c1 => absurd c1 (by decide)) (fun _ => ?_)
  refine lv_aload_n hx hb dX12_copy_8 rfl (lv_at hl 1 rfl) ?_
  refine lv_iload_n hx hb dX12_copy_9 rfl (lv_at hl 0 rfl) ?_
  refine lv_aload_n hx hb dX12_copy_10 rfl (lv_at hl 2 rfl) ?_
  refine lv_iload_n hx hb dX12_copy_11 rfl (lv_at hl 0 rfl) ?_
  refine g_iald F w (a := 147) rfl (j := 2) ⟨by decide, by decide⟩ (by decide) dX12_copy_12 ?_
  refine r_val (v := 0) ((st_ne (by decide)).trans ((st_ne (by decide)).trans h2)) ?_
  refine g_iast F w (a := 148) rfl (j := 2) ⟨by decide, by decide⟩ (by decide) dX12_copy_13 (fun H locs w => ?_)
  refine lv_iinc (v := 3) (lv' := [(2, .int 3), (0, .ref (B + 148)), (1, .ref (B + 147))]) hx hb dX12_copy_14 hl (k := 0) rfl (by decide) (by decide) rfl (fun ls hl => ?_)
  refine lv_goto (tgt := 2) hx hb dX12_copy_17 (by decide) ?_
  refine lv_iload_n hx hb dX12_copy_2 rfl (lv_at hl 0 rfl) ?_
  refine lv_bipush (v := 28) hx hb dX12_copy_3 (by decide) ?_
  refine lv_icmp_ge (tgt := 20) hx hb dX12_copy_5 (by decide) (fun c1 => absurd c1 (by decide)) (fun _ => ?_)
  refine lv_aload_n hx hb dX12_copy_8 rfl (lv_at hl 1 rfl) ?_
  refine lv_iload_n hx hb dX12_copy_9 rfl (lv_at hl 0 rfl) ?_
  refine lv_aload_n hx hb dX12_copy_10 rfl (lv_at hl 2 rfl) ?_
  refine lv_iload_n hx hb dX12_copy_11 rfl (lv_at hl 0 rfl) ?_
  refine g_iald F w (a := 147) rfl (j := 3) ⟨by decide, by decide⟩ (by decide) dX12_copy_12 ?_
  refine r_val (v := 0) ((st_ne (by decide)).trans ((st_ne (by decide)).trans ((st_ne (by decide)).trans h3))) ?_
  refine g_iast F w (a := 148) rfl (j := 3) ⟨by decide, by decide⟩ (by decide) dX12_copy_13 (fun H locs w => ?_)
  refine lv_iinc (v := 4) (lv' := [(2, .int 4), (0, .ref (B + 148)), (1, .ref (B + 147))]) hx hb dX12_copy_14 hl (k := 0) rfl (by decide) (by decide) rfl (fun ls hl => ?_)
  refine lv_goto (tgt := 2) hx hb dX12_copy_17 (by decide) ?_
  refine lv_iload_n hx hb dX12_copy_2 rfl (lv_at hl 0 rfl) ?_
  refine lv_bipush (v := 28) hx hb dX12_copy_3 (by decide) ?_
  refine lv_icmp_ge (tgt := 20) hx hb dX12_copy_5 (by decide) (fun c1 => absurd c1 (by decide)) (fun _ => ?_)
  refine lv_aload_n hx hb dX12_copy_8 rfl (lv_at hl 1 rfl) ?_
  refine lv_iload_n hx hb dX12_copy_9 rfl (lv_at hl 0 rfl) ?_
  refine lv_aload_n hx hb dX12_copy_10 rfl (lv_at hl 2 rfl) ?_
  refine lv_iload_n hx hb dX12_copy_11 rfl (lv_at hl 0 rfl) ?_
  refine g_iald F w (a := 147) rfl (j := 4) ⟨by decide, by decide⟩ (by decide) dX12_copy_12 ?_
  refine r_val (v := 0) ((st_ne (by decide)).trans ((st_ne (by decide)).trans ((st_ne (by decide)).trans ((st_ne (by decide)).trans h4)))) ?_
  refine g_iast F w (a := 148) rfl (j := 4) ⟨by decide, by decide⟩ (by decide) dX12_copy_13 (fun H locs w => ?_)
  refine lv_iinc (v := 5) (lv' := [(2, .int 5), (0, .ref (B + 148)), (1, .ref (B + 147))]) hx hb dX12_copy_14 hl (k := 0) rfl (by decide) (by decide) rfl (fun ls hl => ?_)
  refine lv_goto (tgt := 2) hx hb dX12_copy_17 (by decide) ?_
  refine lv_iload_n hx hb dX12_copy_2 rfl (lv_at hl 0 rfl) ?_
  refine lv_bipush (v := 28) hx hb dX12_copy_3 (by decide) ?_
  refine lv_icmp_ge (tgt := 20) hx hb dX12_copy_5 (by decide) (fun c1 => absurd c1 (by decide)) (fun _ => ?_)
  refine lv_aload_n hx hb dX12_copy_8 rfl (lv_at hl 1 rfl) ?_
  refine lv_iload_n hx hb dX12_copy_9 rfl (lv_at hl 0 rfl) ?_
  refine lv_aload_n hx hb dX12_copy_10 rfl (lv_at hl 2 rfl) ?_
  refine lv_iload_n hx hb dX12_copy_11 rfl (lv_at hl 0 rfl) ?_
  refine g_iald F w (a := 147) rfl (j := 5) ⟨by decide, by decide⟩ (by decide) dX12_copy_12 ?_
  refine r_val (v := 0) ((st_ne (by decide)).trans ((st_ne (by decide)).trans ((st_ne (by decide)).trans ((st_ne (by decide)).trans ((st_ne (by decide)).trans h5))))) ?_
  refine g_iast F w (a := 148) rfl (j := 5) ⟨by decide, by decide⟩ (by decide) dX12_copy_13 (fun H locs w => ?_)
  refine lv_iinc (v := 6) (lv' := [(2, .int 6), (0, .ref (B + 148)), (1, .ref (B + 147))]) hx hb dX12_copy_14 hl (k := 0) rfl (by decide) (by decide) rfl (fun ls hl => ?_)
  refine lv_goto (tgt := 2) hx hb dX12_copy_17 (by decide) ?_
  refine lv_iload_n hx hb dX12_copy_2 rfl (lv_at hl 0 rfl) ?_
  refine lv_bipush (v := 28) hx hb dX12_copy_3 (by decide) ?_
  refine lv_icmp_ge (tgt := 20) hx hb dX12_copy_5 (by decide) (fun c1 => absurd c1 (by decide)) (fun _ => ?_)
  refine lv_aload_n hx hb dX12_copy_8 rfl (lv_at hl 1 rfl) ?_
  refine lv_iload_n hx hb dX12_copy_9 rfl (lv_at hl 0 rfl) ?_
  refine lv_aload_n hx hb dX12_copy_10 rfl (lv_at hl 2 rfl) ?_
  refine lv_iload_n hx hb dX12_copy_11 rfl (lv_at hl 0 rfl) ?_
  refine g_iald F w (a := 147) rfl (j := 6) ⟨by decide, by decide⟩ (by decide) dX12_copy_12 ?_
  refine r_val (v := 0) ((st_ne (by decide)).trans ((st_ne (by decide)).trans ((st_ne (by decide)).trans ((st_ne (by decide)).trans ((st_ne (by decide)).trans ((st_ne (by decide)).trans h6)))))) ?_
  refine g_iast F w (a := 148) rfl (j := 6) ⟨by decide, by decide⟩ (by decide) dX12_copy_13 (fun H locs w => ?_)
  refine lv_iinc (v := 7) (lv' := [(2, .int 7), (0, .ref (B + 148)), (1, .ref (B + 147))]) hx hb dX12_copy_14 hl (k := 0) rfl (by decide) (by decide) rfl (fun ls hl => ?_)
  refine lv_goto (tgt := 2) hx hb dX12_copy_17 (by decide) ?_
  refine lv_iload_n hx hb dX12_copy_2 rfl (lv_at hl 0 rfl) ?_
  refine lv_bipush (v := 28) hx hb dX12_copy_3 (by decide) ?_
  refine lv_icmp_ge (tgt := 20) hx hb dX12_copy_5 (by decide) (fun c1 => absurd c1 (by decide)) (fun _ => ?_)
  refine lv_aload_n hx hb dX12_copy_8 rfl (lv_at hl 1 rfl) ?_
  refine lv_iload_n hx hb dX12_copy_9 rfl (lv_at hl 0 rfl) ?_
  refine lv_aload_n hx hb dX12_copy_10 rfl (lv_at hl 2 rfl) ?_
  refine lv_iload_n hx hb dX12_copy_11 rfl (lv_at hl 0 rfl) ?_
  refine g_iald F w (a := 147) rfl (j := 7) ⟨by decide, by decide⟩ (by decide) dX12_copy_12 ?_
  refine r_val (v := 0) ((st_ne (by decide)).trans ((st_ne (by decide)).trans ((st_ne (by decide)).trans ((st_ne (by decide)).trans ((st_ne (by decide)).trans ((st_ne (by decide)).trans ((st_ne (by decide)).trans h7))))))) ?_
  refine g_iast F w (a := 148) rfl (j := 7) ⟨by decide, by decide⟩ (by decide) dX12_copy_13 (fun H locs w => ?_)
  refine lv_iinc (v := 8) (lv' := [(2, .int 8), (0, .ref (B + 148)), (1, .ref (B + 147))]) hx hb dX12_copy_14 hl (k := 0) rfl (by decide) (by decide) rfl (fun ls hl => ?_)
  refine lv_goto (tgt := 2) hx hb dX12_copy_17 (by decide) ?_
  refine lv_iload_n hx hb dX12_copy_2 rfl (lv_at hl 0 rfl) ?_
  refine lv_bipush (v := 28) hx hb dX12_copy_3 (by decide) ?_
  refine lv_icmp_ge (tgt := 20) hx hb dX12_copy_5 (by decide) (fun c1 => absurd c1 (by decide)) (fun _ => ?_)
  refine lv_aload_n hx hb dX12_copy_8 rfl (lv_at hl 1 rfl) ?_
  refine lv_iload_n hx hb dX12_copy_9 rfl (lv_at hl 0 rfl) ?_
  refine lv_aload_n hx hb dX12_copy_10 rfl (lv_at hl 2 rfl) ?_
  refine lv_iload_n hx hb dX12_copy_11 rfl (lv_at hl 0 rfl) ?_
  refine g_iald F w (a := 147) rfl (j := 8) ⟨by decide, by decide⟩ (by decide) dX12_copy_12 ?_
  refine r_val (v := 0) ((st_ne (by decide)).trans ((st_ne (by decide)).trans ((st_ne (by decide)).trans ((st_ne (by decide)).trans ((st_ne (by decide)).trans ((st_ne (by decide)).trans ((st_ne (by decide)).trans ((st_ne (by decide)).trans h8)))))))) ?_
  refine g_iast F w (a := 148) rfl (j := 8) ⟨by decide, by decide⟩ (by decide) dX12_copy_13 (fun H locs w => ?_)
  refine lv_iinc (v := 9) (lv' := [(2, .int 9), (0, .ref (B + 148)), (1, .ref (B + 147))]) hx hb dX12_copy_14 hl (k := 0) rfl (by decide) (by decide) rfl (fun ls hl => ?_)
  refine lv_goto (tgt := 2) hx hb dX12_copy_17 (by decide) ?_
  refine lv_iload_n hx hb dX12_copy_2 rfl (lv_at hl 0 rfl) ?_
  refine lv_bipush (v := 28) hx hb dX12_copy_3 (by decide) ?_
  refine lv_icmp_ge (tgt := 20) hx hb dX12_copy_5 (by decide) (fun c1 => absurd c1 (by decide)) (fun _ => ?_)
  refine lv_aload_n hx hb dX12_copy_8 rfl (lv_at hl 1 rfl) ?_
  refine lv_iload_n hx hb dX12_copy_9 rfl (lv_at hl 0 rfl) ?_
  refine lv_aload_n hx hb dX12_copy_10 rfl (lv_at hl 2 rfl) ?_
  refine lv_iload_n hx hb dX12_copy_11 rfl (lv_at hl 0 rfl) ?_
  refine g_iald F w (a := 147) rfl (j := 9) ⟨by decide, by decide⟩ (by decide) dX12_copy_12 ?_
  refine r_val (v := 0) ((st_ne (by decide)).trans ((st_ne (by decide)).trans ((st_ne (by decide)).trans ((st_ne (by decide)).trans ((st_ne (by decide)).trans ((st_ne (by decide)).trans ((st_ne (by decide)).trans ((st_ne (by decide)).trans ((st_ne (by decide)).trans h9))))))))) ?_
  refine g_iast F w (a := 148) rfl (j := 9) ⟨by decide, by decide⟩ (by decide) dX12_copy_13 (fun H locs w => ?_)
  refine lv_iinc (v := 10) (lv' := [(2, .int 10), (0, .ref (B + 148)), (1, .ref (B + 147))]) hx hb dX12_copy_14 hl (k := 0) rfl (by decide) (by decide) rfl (fun ls hl => ?_)
  refine lv_goto (tgt := 2) hx hb dX12_copy_17 (by decide) ?_
  refine lv_iload_n hx hb dX12_copy_2 rfl (lv_at hl 0 rfl) ?_
  refine lv_bipush (v := 28) hx hb dX12_copy_3 (by decide) ?_
  refine lv_icmp_ge (tgt := 20) hx hb dX12_copy_5 (by decide) (fun c1 => absurd c1 (by decide)) (fun _ => ?_)
  refine lv_aload_n hx hb dX12_copy_8 rfl (lv_at hl 1 rfl) ?_
  refine lv_iload_n hx hb dX12_copy_9 rfl (lv_at hl 0 rfl) ?_
  refine lv_aload_n hx hb dX12_copy_10 rfl (lv_at hl 2 rfl) ?_
  refine lv_iload_n hx hb dX12_copy_11 rfl (lv_at hl 0 rfl) ?_
  refine g_iald F w (a := 147) rfl (j := 10) ⟨by decide, by decide⟩ (by decide) dX12_copy_12 ?_
  refine r_val (v := 0) ((st_ne (by decide)).trans ((st_ne (by decide)).trans ((st_ne (by decide)).trans ((st_ne (by decide)).trans ((st_ne (by decide)).trans ((st_ne (by decide)).trans ((st_ne (by decide)).trans ((st_ne (by decide)).trans ((st_ne (by decide)).trans ((st_ne (by decide)).trans h10)))))))))) ?_
  refine g_iast F w (a := 148) rfl (j := 10) ⟨by decide, by decide⟩ (by decide) dX12_copy_13 (fun H locs w => ?_)
  refine lv_iinc (v := 11) (lv' := [(2, .int 11), (0, .ref (B + 148)), (1, .ref (B + 147))]) hx hb dX12_copy_14 hl (k := 0) rfl (by decide) (by decide) rfl (fun ls hl => ?_)
  refine lv_goto (tgt := 2) hx hb dX12_copy_17 (by decide) ?_
  refine lv_iload_n hx hb dX12_copy_2 rfl (lv_at hl 0 rfl) ?_
  refine lv_bipush (v := 28) hx hb dX12_copy_3 (by decide) ?_
  refine lv_icmp_ge (tgt := 20) hx hb dX12_copy_5 (by decide) (fun c1 => absurd c1 (by decide)) (fun _ => ?_)
  refine lv_aload_n hx hb dX12_copy_8 rfl (lv_at hl 1 rfl) ?_
  refine lv_iload_n hx hb dX12_copy_9 rfl (lv_at hl 0 rfl) ?_
  refine lv_aload_n hx hb dX12_copy_10 rfl (lv_at hl 2 rfl) ?_
  refine lv_iload_n hx hb dX12_copy_11 rfl (lv_at hl 0 rfl) ?_
  refine g_iald F w (a := 147) rfl (j := 11) ⟨by decide, by decide⟩ (by decide) dX12_copy_12 ?_
  refine r_val (v := 0) ((st_ne (by decide)).trans ((st_ne (by decide)).trans ((st_ne (by decide)).trans ((st_ne (by decide)).trans ((st_ne (by decide)).trans ((st_ne (by decide)).trans ((st_ne (by decide)).trans ((st_ne (by decide)).trans ((st_ne (by decide)).trans ((st_ne (by decide)).trans ((st_ne (by decide)).trans h11))))))))))) ?_
  refine g_iast F w (a := 148) rfl (j := 11) ⟨by decide, by decide⟩ (by decide) dX12_copy_13 (fun H locs w => ?_)
  refine lv_iinc (v := 12) (lv' := [(2, .int 12), (0, .ref (B + 148)), (1, .ref (B + 147))]) hx hb dX12_copy_14 hl (k := 0) rfl (by decide) (by decide) rfl (fun ls hl => ?_)
  refine lv_goto (tgt := 2) hx hb dX12_copy_17 (by decide) ?_
  refine lv_iload_n hx hb dX12_copy_2 rfl (lv_at hl 0 rfl) ?_
  refine lv_bipush (v := 28) hx hb dX12_copy_3 (by decide) ?_
  refine lv_icmp_ge (tgt := 20) hx hb dX12_copy_5 (by decide) (fun c1 => absurd c1 (by decide)) (fun _ => ?_)
  refine lv_aload_n hx hb dX12_copy_8 rfl (lv_at hl 1 rfl) ?_
  refine lv_iload_n hx hb dX12_copy_9 rfl (lv_at hl 0 rfl) ?_
  refine lv_aload_n hx hb dX12_copy_10 rfl (lv_at hl 2 rfl) ?_
  refine lv_iload_n hx hb dX12_copy_11 rfl (lv_at hl 0 rfl) ?_
  refine g_iald F w (a := 147) rfl (j := 12) ⟨by decide, by decide⟩ (by decide) dX12_copy_12 ?_
  refine r_val (v := 0) ((st_ne (by decide)).trans ((st_ne (by decide)).trans ((st_ne (by decide)).trans ((st_ne (by decide)).trans ((st_ne (by decide)).trans ((st_ne (by decide)).trans ((st_ne (by decide)).trans ((st_ne (by decide)).trans ((st_ne (by decide)).trans ((st_ne (by decide)).trans ((st_ne (by decide)).trans ((st_ne (by decide)).trans h12)))))))))))) ?_
  refine g_iast F w (a := 148) rfl (j := 12) ⟨by decide, by decide⟩ (by decide) dX12_copy_13 (fun H locs w => ?_)
  refine lv_iinc (v := 13) (lv' := [(2, .int 13), (0, .ref (B + 148)), (1, .ref (B + 147))]) hx hb dX12_copy_14 hl (k := 0) rfl (by decide) (by decide) rfl (fun ls hl => ?_)
  refine lv_goto (tgt := 2) hx hb dX12_copy_17 (by decide) ?_
  refine lv_iload_n hx hb dX12_copy_2 rfl (lv_at hl 0 rfl) ?_
  refine lv_bipush (v := 28) hx hb dX12_copy_3 (by decide) ?_
  refine lv_icmp_ge (tgt := 20) hx hb dX12_copy_5 (by decide) (fun c1 => absurd c1 (by decide)) (fun _ => ?_)
  refine lv_aload_n hx hb dX12_copy_8 rfl (lv_at hl 1 rfl) ?_
  refine lv_iload_n hx hb dX12_copy_9 rfl (lv_at hl 0 rfl) ?_
  refine lv_aload_n hx hb dX12_copy_10 rfl (lv_at hl 2 rfl) ?_
  refine lv_iload_n hx hb dX12_copy_11 rfl (lv_at hl 0 rfl) ?_
  refine g_iald F w (a := 147) rfl (j := 13) ⟨by decide, by decide⟩ (by decide) dX12_copy_12 ?_
  refine r_val (v := 0) ((st_ne (by decide)).trans ((st_ne (by decide)).trans ((st_ne (by decide)).trans ((st_ne (by decide)).trans ((st_ne (by decide)).trans ((st_ne (by decide)).trans ((st_ne (by decide)).trans ((st_ne (by decide)).trans ((st_ne (by decide)).trans ((st_ne (by decide)).trans ((st_ne (by decide)).trans ((st_ne (by decide)).trans ((st_ne (by decide)).trans h13))))))))))))) ?_
  refine g_iast F w (a := 148) rfl (j := 13) ⟨by decide, by decide⟩ (by decide) dX12_copy_13 (fun H locs w => ?_)
  refine lv_iinc (v := 14) (lv' := [(2, .int 14), (0, .ref (B + 148)), (1, .ref (B + 147))]) hx hb dX12_copy_14 hl (k := 0) rfl (by decide) (by decide) rfl (fun ls hl => ?_)
  refine lv_goto (tgt := 2) hx hb dX12_copy_17 (by decide) ?_
  refine lv_iload_n hx hb dX12_copy_2 rfl (lv_at hl 0 rfl) ?_
  refine lv_bipush (v := 28) hx hb dX12_copy_3 (by decide) ?_
  refine lv_icmp_ge (tgt := 20) hx hb dX12_copy_5 (by decide) (fun c1 => absurd c1 (by decide)) (fun _ => ?_)
  refine lv_aload_n hx hb dX12_copy_8 rfl (lv_at hl 1 rfl) ?_
  refine lv_iload_n hx hb dX12_copy_9 rfl (lv_at hl 0 rfl) ?_
  refine lv_aload_n hx hb dX12_copy_10 rfl (lv_at hl 2 rfl) ?_
  refine lv_iload_n hx hb dX12_copy_11 rfl (lv_at hl 0 rfl) ?_
  refine g_iald F w (a := 147) rfl (j := 14) ⟨by decide, by decide⟩ (by decide) dX12_copy_12 ?_
  refine r_val (v := 0) ((st_ne (by decide)).trans ((st_ne (by decide)).trans ((st_ne (by decide)).trans ((st_ne (by decide)).trans ((st_ne (by decide)).trans ((st_ne (by decide)).trans ((st_ne (by decide)).trans ((st_ne (by decide)).trans ((st_ne (by decide)).trans ((st_ne (by decide)).trans ((st_ne (by decide)).trans ((st_ne (by decide)).trans ((st_ne (by decide)).trans ((st_ne (by decide)).trans h14)))))))))))))) ?_
  refine g_iast F w (a := 148) rfl (j := 14) ⟨by decide, by decide⟩ (by decide) dX12_copy_13 (fun H locs w => ?_)
  refine lv_iinc (v := 15) (lv' := [(2, .int 15), (0, .ref (B + 148)), (1, .ref (B + 147))]) hx hb dX12_copy_14 hl (k := 0) rfl (by decide) (by decide) rfl (fun ls hl => ?_)
  refine lv_goto (tgt := 2) hx hb dX12_copy_17 (by decide) ?_
  refine lv_iload_n hx hb dX12_copy_2 rfl (lv_at hl 0 rfl) ?_
  refine lv_bipush (v := 28) hx hb dX12_copy_3 (by decide) ?_
  refine lv_icmp_ge (tgt := 20) hx hb dX12_copy_5 (by decide) (fun c1 => absurd c1 (by decide)) (fun _ => ?_)
  refine lv_aload_n hx hb dX12_copy_8 rfl (lv_at hl 1 rfl) ?_
  refine lv_iload_n hx hb dX12_copy_9 rfl (lv_at hl 0 rfl) ?_
  refine lv_aload_n hx hb dX12_copy_10 rfl (lv_at hl 2 rfl) ?_
  refine lv_iload_n hx hb dX12_copy_11 rfl (lv_at hl 0 rfl) ?_
  refine g_iald F w (a := 147) rfl (j := 15) ⟨by decide, by decide⟩ (by decide) dX12_copy_12 ?_
  refine r_val (v := 0) ((st_ne (by decide)).trans ((st_ne (by decide)).trans ((st_ne (by decide)).trans ((st_ne (by decide)).trans ((st_ne (by decide)).trans ((st_ne (by decide)).trans ((st_ne (by decide)).trans ((st_ne (by decide)).trans ((st_ne (by decide)).trans ((st_ne (by decide)).trans ((st_ne (by decide)).trans ((st_ne (by decide)).trans ((st_ne (by decide)).trans ((st_ne (by decide)).trans ((st_ne (by decide)).trans h15))))))))))))))) ?_
  refine g_iast F w (a := 148) rfl (j := 15) ⟨by decide, by decide⟩ (by decide) dX12_copy_13 (fun H locs w => ?_)
  refine lv_iinc (v := 16) (lv' := [(2, .int 16), (0, .ref (B + 148)), (1, .ref (B + 147))]) hx hb dX12_copy_14 hl (k := 0) rfl (by decide) (by decide) rfl (fun ls hl => ?_)
  refine lv_goto (tgt := 2) hx hb dX12_copy_17 (by decide) ?_
  refine lv_iload_n hx hb dX12_copy_2 rfl (lv_at hl 0 rfl) ?_
  refine lv_bipush (v := 28) hx hb dX12_copy_3 (by decide) ?_
  refine lv_icmp_ge (tgt := 20) hx hb dX12_copy_5 (by decide) (fun c1 => absurd c1 (by decide)) (fun _ => ?_)
  refine lv_aload_n hx hb dX12_copy_8 rfl (lv_at hl 1 rfl) ?_
  refine lv_iload_n hx hb dX12_copy_9 rfl (lv_at hl 0 rfl) ?_
  refine lv_aload_n hx hb dX12_copy_10 rfl (lv_at hl 2 rfl) ?_
  refine lv_iload_n hx hb dX12_copy_11 rfl (lv_at hl 0 rfl) ?_
  refine g_iald F w (a := 147) rfl (j := 16) ⟨by decide, by decide⟩ (by decide) dX12_copy_12 ?_
  refine r_val (v := 0) ((st_ne (by decide)).trans ((st_ne (by decide)).trans ((st_ne (by decide)).trans ((st_ne (by decide)).trans ((st_ne (by decide)).trans ((st_ne (by decide)).trans ((st_ne (by decide)).trans ((st_ne (by decide)).trans ((st_ne (by decide)).trans ((st_ne (by decide)).trans ((st_ne (by decide)).trans ((st_ne (by decide)).trans ((st_ne (by decide)).trans ((st_ne (by decide)).trans ((st_ne (by decide)).trans ((st_ne (by decide)).trans h16)))))))))))))))) ?_
  refine g_iast F w (a := 148) rfl (j := 16) ⟨by decide, by decide⟩ (by decide) dX12_copy_13 (fun H locs w => ?_)
  refine lv_iinc (v := 17) (lv' := [(2, .int 17), (0, .ref (B + 148)), (1, .ref (B + 147))]) hx hb dX12_copy_14 hl (k := 0) rfl (by decide) (by decide) rfl (fun ls hl => ?_)
  refine lv_goto (tgt := 2) hx hb dX12_copy_17 (by decide) ?_
  refine lv_iload_n hx hb dX12_copy_2 rfl (lv_at hl 0 rfl) ?_
  refine lv_bipush (v := 28) hx hb dX12_copy_3 (by decide) ?_
  refine lv_icmp_ge (tgt := 20) hx hb dX12_copy_5 (by decide) (fun c1 => absurd c1 (by decide)) (fun _ => ?_)
  refine lv_aload_n hx hb dX12_copy_8 rfl (lv_at hl 1 rfl) ?_
  refine lv_iload_n hx hb dX12_copy_9 rfl (lv_at hl 0 rfl) ?_
  refine lv_aload_n hx hb dX12_copy_10 rfl (lv_at hl 2 rfl) ?_
  refine lv_iload_n hx hb dX12_copy_11 rfl (lv_at hl 0 rfl) ?_
  refine g_iald F w (a := 147) rfl (j := 17) ⟨by decide, by decide⟩ (by decide) dX12_copy_12 ?_
  refine r_val (v := 0) ((st_ne (by decide)).trans ((st_ne (by decide)).trans ((st_ne (by decide)).trans ((st_ne (by decide)).trans ((st_ne (by decide)).trans ((st_ne (by decide)).trans ((st_ne (by decide)).trans ((st_ne (by decide)).trans ((st_ne (by decide)).trans ((st_ne (by decide)).trans ((st_ne (by decide)).trans ((st_ne (by decide)).trans ((st_ne (by decide)).trans ((st_ne (by decide)).trans ((st_ne (by decide)).trans ((st_ne (by decide)).trans ((st_ne (by decide)).trans h17))))))))))))))))) ?_
  refine g_iast F w (a := 148) rfl (j := 17) ⟨by decide, by decide⟩ (by decide) dX12_copy_13 (fun H locs w => ?_)
  refine lv_iinc (v := 18) (lv' := [(2, .int 18), (0, .ref (B + 148)), (1, .ref (B + 147))]) hx hb dX12_copy_14 hl (k := 0) rfl (by decide) (by decide) rfl (fun ls hl => ?_)
  refine lv_goto (tgt := 2) hx hb dX12_copy_17 (by decide) ?_
  refine lv_iload_n hx hb dX12_copy_2 rfl (lv_at hl 0 rfl) ?_
  refine lv_bipush (v := 28) hx hb dX12_copy_3 (by decide) ?_
  refine lv_icmp_ge (tgt := 20) hx hb dX12_copy_5 (by decide) (fun c1 => absurd c1 (by decide)) (fun _ => ?_)
  refine lv_aload_n hx hb dX12_copy_8 rfl (lv_at hl 1 rfl) ?_
  refine lv_iload_n hx hb dX12_copy_9 rfl (lv_at hl 0 rfl) ?_
  refine lv_aload_n hx hb dX12_copy_10 rfl (lv_at hl 2 rfl) ?_
  refine lv_iload_n hx hb dX12_copy_11 rfl (lv_at hl 0 rfl) ?_
  refine g_iald F w (a := 147) rfl (j := 18) ⟨by decide, by decide⟩ (by decide) dX12_copy_12 ?_
  refine r_val (v := 0) ((st_ne (by decide)).trans ((st_ne (by decide)).trans ((st_ne (by decide)).trans ((st_ne (by decide)).trans ((st_ne (by decide)).trans ((st_ne (by decide)).trans ((st_ne (by decide)).trans ((st_ne (by decide)).trans ((st_ne (by decide)).trans ((st_ne (by decide)).trans ((st_ne (by decide)).trans ((st_ne (by decide)).trans ((st_ne (by decide)).trans ((st_ne (by decide)).trans ((st_ne (by decide)).trans ((st_ne (by decide)).trans ((st_ne (by decide)).trans ((st_ne (by decide)).trans h18)))))))))))))))))) ?_
  refine g_iast F w (a := 148) rfl (j := 18) ⟨by decide, by decide⟩ (by decide) dX12_copy_13 (fun H locs w => ?_)
  refine lv_iinc (v := 19) (lv' := [(2, .int 19), (0, .ref (B + 148)), (1, .ref (B + 147))]) hx hb dX12_copy_14 hl (k := 0) rfl (by decide) (by decide) rfl (fun ls hl => ?_)
  refine lv_goto (tgt := 2) hx hb dX12_copy_17 (by decide) ?_
  refine lv_iload_n hx hb dX12_copy_2 rfl (lv_at hl 0 rfl) ?_
  refine lv_bipush (v := 28) hx hb dX12_copy_3 (by decide) ?_
  refine lv_icmp_ge (tgt := 20) hx hb dX12_copy_5 (by decide) (fun c1 => absurd c1 (by decide)) (fun _ => ?_)
  refine lv_aload_n hx hb dX12_copy_8 rfl (lv_at hl 1 rfl) ?_
  refine lv_iload_n hx hb dX12_copy_9 rfl (lv_at hl 0 rfl) ?_
  refine lv_aload_n hx hb dX12_copy_10 rfl (lv_at hl 2 rfl) ?_
  refine lv_iload_n hx hb dX12_copy_11 rfl (lv_at hl 0 rfl) ?_
  refine g_iald F w (a := 147) rfl (j := 19) ⟨by decide, by decide⟩ (by decide) dX12_copy_12 ?_
  refine r_val (v := 0) ((st_ne (by decide)).trans ((st_ne (by decide)).trans ((st_ne (by decide)).trans ((st_ne (by decide)).trans ((st_ne (by decide)).trans ((st_ne (by decide)).trans ((st_ne (by decide)).trans ((st_ne (by decide)).trans ((st_ne (by decide)).trans ((st_ne (by decide)).trans ((st_ne (by decide)).trans ((st_ne (by decide)).trans ((st_ne (by decide)).trans ((st_ne (by decide)).trans ((st_ne (by decide)).trans ((st_ne (by decide)).trans ((st_ne (by decide)).trans ((st_ne (by decide)).trans ((st_ne (by decide)).trans h19))))))))))))))))))) ?_
  refine g_iast F w (a := 148) rfl (j := 19) ⟨by decide, by decide⟩ (by decide) dX12_copy_13 (fun H locs w => ?_)
  refine lv_iinc (v := 20) (lv' := [(2, .int 20), (0, .ref (B + 148)), (1, .ref (B + 147))]) hx hb dX12_copy_14 hl (k := 0) rfl (by decide) (by decide) rfl (fun ls hl => ?_)
  refine lv_goto (tgt := 2) hx hb dX12_copy_17 (by decide) ?_
  refine lv_iload_n hx hb dX12_copy_2 rfl (lv_at hl 0 rfl) ?_
  refine lv_bipush (v := 28) hx hb dX12_copy_3 (by decide) ?_
  refine lv_icmp_ge (tgt := 20) hx hb dX12_copy_5 (by decide) (fun c1 => absurd c1 (by decide)) (fun _ => ?_)
  refine lv_aload_n hx hb dX12_copy_8 rfl (lv_at hl 1 rfl) ?_
  refine lv_iload_n hx hb dX12_copy_9 rfl (lv_at hl 0 rfl) ?_
  refine lv_aload_n hx hb dX12_copy_10 rfl (lv_at hl 2 rfl) ?_
  refine lv_iload_n hx hb dX12_copy_11 rfl (lv_at hl 0 rfl) ?_
  refine g_iald F w (a := 147) rfl (j := 20) ⟨by decide, by decide⟩ (by decide) dX12_copy_12 ?_
  refine r_val (v := 0) ((st_ne (by decide)).trans ((st_ne (by decide)).trans ((st_ne (by decide)).trans ((st_ne (by decide)).trans ((st_ne (by decide)).trans ((st_ne (by decide)).trans ((st_ne (by decide)).trans ((st_ne (by decide)).trans ((st_ne (by decide)).trans ((st_ne (by decide)).trans ((st_ne (by decide)).trans ((st_ne (by decide)).trans ((st_ne (by decide)).trans ((st_ne (by decide)).trans ((st_ne (by decide)).trans ((st_ne (by decide)).trans ((st_ne (by decide)).trans ((st_ne (by decide)).trans ((st_ne (by decide)).trans ((st_ne (by decide)).trans h20)))))))))))))))))))) ?_
  refine g_iast F w (a := 148) rfl (j := 20) ⟨by decide, by decide⟩ (by decide) dX12_copy_13 (fun H locs w => ?_)
  refine lv_iinc (v := 21) (lv' := [(2, .int 21), (0, .ref (B + 148)), (1, .ref (B + 147))]) hx hb dX12_copy_14 hl (k := 0) rfl (by decide) (by decide) rfl (fun ls hl => ?_)
  refine lv_goto (tgt := 2) hx hb dX12_copy_17 (by decide) ?_
  refine lv_iload_n hx hb dX12_copy_2 rfl (lv_at hl 0 rfl) ?_
  refine lv_bipush (v := 28) hx hb dX12_copy_3 (by decide) ?_
  refine lv_icmp_ge (tgt := 20) hx hb dX12_copy_5 (by decide) (fun c1 => absurd c1 (by decide)) (fun _ => ?_)
  refine lv_aload_n hx hb dX12_copy_8 rfl (lv_at hl 1 rfl) ?_
  refine lv_iload_n hx hb dX12_copy_9 rfl (lv_at hl 0 rfl) ?_
  refine lv_aload_n hx hb dX12_copy_10 rfl (lv_at hl 2 rfl) ?_
  refine lv_iload_n hx hb dX12_copy_11 rfl (lv_at hl 0 rfl) ?_
  refine g_iald F w (a := 147) rfl (j := 21) ⟨by decide, by decide⟩ (by decide) dX12_copy_12 ?_
  refine r_val (v := 0) ((st_ne (by decide)).trans ((st_ne (by decide)).trans ((st_ne (by decide)).trans ((st_ne (by decide)).trans ((st_ne (by decide)).trans ((st_ne (by decide)).trans ((st_ne (by decide)).trans ((st_ne (by decide)).trans ((st_ne (by decide)).trans ((st_ne (by decide)).trans ((st_ne (by decide)).trans ((st_ne (by decide)).trans ((st_ne (by decide)).trans ((st_ne (by decide)).trans ((st_ne (by decide)).trans ((st_ne (by decide)).trans ((st_ne (by decide)).trans ((st_ne (by decide)).trans ((st_ne (by decide)).trans ((st_ne (by decide)).trans ((st_ne (by decide)).trans h21))))))))))))))))))))) ?_
  refine g_iast F w (a := 148) rfl (j := 21) ⟨by decide, by decide⟩ (by decide) dX12_copy_13 (fun H locs w => ?_)
  refine lv_iinc (v := 22) (lv' := [(2, .int 22), (0, .ref (B + 148)), (1, .ref (B + 147))]) hx hb dX12_copy_14 hl (k := 0) rfl (by decide) (by decide) rfl (fun ls hl => ?_)
  refine lv_goto (tgt := 2) hx hb dX12_copy_17 (by decide) ?_
  refine lv_iload_n hx hb dX12_copy_2 rfl (lv_at hl 0 rfl) ?_
  refine lv_bipush (v := 28) hx hb dX12_copy_3 (by decide) ?_
  refine lv_icmp_ge (tgt := 20) hx hb dX12_copy_5 (by decide) (fun c1 => absurd c1 (by decide)) (fun _ => ?_)
  refine lv_aload_n hx hb dX12_copy_8 rfl (lv_at hl 1 rfl) ?_
  refine lv_iload_n hx hb dX12_copy_9 rfl (lv_at hl 0 rfl) ?_
  refine lv_aload_n hx hb dX12_copy_10 rfl (lv_at hl 2 rfl) ?_
  refine lv_iload_n hx hb dX12_copy_11 rfl (lv_at hl 0 rfl) ?_
  refine g_iald F w (a := 147) rfl (j := 22) ⟨by decide, by decide⟩ (by decide) dX12_copy_12 ?_
  refine r_val (v := 0) ((st_ne (by decide)).trans ((st_ne (by decide)).trans ((st_ne (by decide)).trans ((st_ne (by decide)).trans ((st_ne (by decide)).trans ((st_ne (by decide)).trans ((st_ne (by decide)).trans ((st_ne (by decide)).trans ((st_ne (by decide)).trans ((st_ne (by decide)).trans ((st_ne (by decide)).trans ((st_ne (by decide)).trans ((st_ne (by decide)).trans ((st_ne (by decide)).trans ((st_ne (by decide)).trans ((st_ne (by decide)).trans ((st_ne (by decide)).trans ((st_ne (by decide)).trans ((st_ne (by decide)).trans ((st_ne (by decide)).trans ((st_ne (by decide)).trans ((st_ne (by decide)).trans h22)))))))))))))))))))))) ?_
  refine g_iast F w (a := 148) rfl (j := 22) ⟨by decide, by decide⟩ (by decide) dX12_copy_13 (fun H locs w => ?_)
  refine lv_iinc (v := 23) (lv' := [(2, .int 23), (0, .ref (B + 148)), (1, .ref (B + 147))]) hx hb dX12_copy_14 hl (k := 0) rfl (by decide) (by decide) rfl (fun ls hl => ?_)
  refine lv_goto (tgt := 2) hx hb dX12_copy_17 (by decide) ?_
  refine lv_iload_n hx hb dX12_copy_2 rfl (lv_at hl 0 rfl) ?_
  refine lv_bipush (v := 28) hx hb dX12_copy_3 (by decide) ?_
  refine lv_icmp_ge (tgt := 20) hx hb dX12_copy_5 (by decide) (fun c1 => absurd c1 (by decide)) (fun _ => ?_)
  refine lv_aload_n hx hb dX12_copy_8 rfl (lv_at hl 1 rfl) ?_
  refine lv_iload_n hx hb dX12_copy_9 rfl (lv_at hl 0 rfl) ?_
  refine lv_aload_n hx hb dX12_copy_10 rfl (lv_at hl 2 rfl) ?_
  refine lv_iload_n hx hb dX12_copy_11 rfl (lv_at hl 0 rfl) ?_
  refine g_iald F w (a := 147) rfl (j := 23) ⟨by decide, by decide⟩ (by decide) dX12_copy_12 ?_
  refine r_val (v := 0) ((st_ne (by decide)).trans ((st_ne (by decide)).trans ((st_ne (by decide)).trans ((st_ne (by decide)).trans ((st_ne (by decide)).trans ((st_ne (by decide)).trans ((st_ne (by decide)).trans ((st_ne (by decide)).trans ((st_ne (by decide)).trans ((st_ne (by decide)).trans ((st_ne (by decide)).trans ((st_ne (by decide)).trans ((st_ne (by decide)).trans ((st_ne (by decide)).trans ((st_ne (by decide)).trans ((st_ne (by decide)).trans ((st_ne (by decide)).trans ((st_ne (by decide)).trans ((st_ne (by decide)).trans ((st_ne (by decide)).trans ((st_ne (by decide)).trans ((st_ne (by decide)).trans ((st_ne (by decide)).trans h23))))))))))))))))))))))) ?_
  refine g_iast F w (a := 148) rfl (j := 23) ⟨by decide, by decide⟩ (by decide) dX12_copy_13 (fun H locs w => ?_)
  refine lv_iinc (v := 24) (lv' := [(2, .int 24), (0, .ref (B + 148)), (1, .ref (B + 147))]) hx hb dX12_copy_14 hl (k := 0) rfl (by decide) (by decide) rfl (fun ls hl => ?_)
  refine lv_goto (tgt := 2) hx hb dX12_copy_17 (by decide) ?_
  refine lv_iload_n hx hb dX12_copy_2 rfl (lv_at hl 0 rfl) ?_
  refine lv_bipush (v := 28) hx hb dX12_copy_3 (by decide) ?_
  refine lv_icmp_ge (tgt := 20) hx hb dX12_copy_5 (by decide) (fun c1 => absurd c1 (by decide)) (fun _ => ?_)
  refine lv_aload_n hx hb dX12_copy_8 rfl (lv_at hl 1 rfl) ?_
  refine lv_iload_n hx hb dX12_copy_9 rfl (lv_at hl 0 rfl) ?_
  refine lv_aload_n hx hb dX12_copy_10 rfl (lv_at hl 2 rfl) ?_
  refine lv_iload_n hx hb dX12_copy_11 rfl (lv_at hl 0 rfl) ?_
  refine g_iald F w (a := 147) rfl (j := 24) ⟨by decide, by decide⟩ (by decide) dX12_copy_12 ?_
  refine r_val (v := 0) ((st_ne (by decide)).trans ((st_ne (by decide)).trans ((st_ne (by decide)).trans ((st_ne (by decide)).trans ((st_ne (by decide)).trans ((st_ne (by decide)).trans ((st_ne (by decide)).trans ((st_ne (by decide)).trans ((st_ne (by decide)).trans ((st_ne (by decide)).trans ((st_ne (by decide)).trans ((st_ne (by decide)).trans ((st_ne (by decide)).trans ((st_ne (by decide)).trans ((st_ne (by decide)).trans ((st_ne (by decide)).trans ((st_ne (by decide)).trans ((st_ne (by decide)).trans ((st_ne (by decide)).trans ((st_ne (by decide)).trans ((st_ne (by decide)).trans ((st_ne (by decide)).trans ((st_ne (by decide)).trans ((st_ne (by decide)).trans h24)))))))))))))))))))))))) ?_
  refine g_iast F w (a := 148) rfl (j := 24) ⟨by decide, by decide⟩ (by decide) dX12_copy_13 (fun H locs w => ?_)
  refine lv_iinc (v := 25) (lv' := [(2, .int 25), (0, .ref (B + 148)), (1, .ref (B + 147))]) hx hb dX12_copy_14 hl (k := 0) rfl (by decide) (by decide) rfl (fun ls hl => ?_)
  refine lv_goto (tgt := 2) hx hb dX12_copy_17 (by decide) ?_
  refine lv_iload_n hx hb dX12_copy_2 rfl (lv_at hl 0 rfl) ?_
  refine lv_bipush (v := 28) hx hb dX12_copy_3 (by decide) ?_
  refine lv_icmp_ge (tgt := 20) hx hb dX12_copy_5 (by decide) (fun c1 => absurd c1 (by decide)) (fun _ => ?_)
  refine lv_aload_n hx hb dX12_copy_8 rfl (lv_at hl 1 rfl) ?_
  refine lv_iload_n hx hb dX12_copy_9 rfl (lv_at hl 0 rfl) ?_
  refine lv_aload_n hx hb dX12_copy_10 rfl (lv_at hl 2 rfl) ?_
  refine lv_iload_n hx hb dX12_copy_11 rfl (lv_at hl 0 rfl) ?_
  refine g_iald F w (a := 147) rfl (j := 25) ⟨by decide, by decide⟩ (by decide) dX12_copy_12 ?_
  refine r_val (v := 0) ((st_ne (by decide)).trans ((st_ne (by decide)).trans ((st_ne (by decide)).trans ((st_ne (by decide)).trans ((st_ne (by decide)).trans ((st_ne (by decide)).trans ((st_ne (by decide)).trans ((st_ne (by decide)).trans ((st_ne (by decide)).trans ((st_ne (by decide)).trans ((st_ne (by decide)).trans ((st_ne (by decide)).trans ((st_ne (by decide)).trans ((st_ne (by decide)).trans ((st_ne (by decide)).trans ((st_ne (by decide)).trans ((st_ne (by decide)).trans ((st_ne (by decide)).trans ((st_ne (by decide)).trans ((st_ne (by decide)).trans ((st_ne (by decide)).trans ((st_ne (by decide)).trans ((st_ne (by decide)).trans ((st_ne (by decide)).trans ((st_ne (by decide)).trans h25))))))))))))))))))))))))) ?_
  refine g_iast F w (a := 148) rfl (j := 25) ⟨by decide, by decide⟩ (by decide) dX12_copy_13 (fun H locs w => ?_)
  refine lv_iinc (v := 26) (lv' := [(2, .int 26), (0, .ref (B + 148)), (1, .ref (B + 147))]) hx hb dX12_copy_14 hl (k := 0) rfl (by decide) (by decide) rfl (fun ls hl => ?_)
  refine lv_goto (tgt := 2) hx hb dX12_copy_17 (by decide) ?_
  refine lv_iload_n hx hb dX12_copy_2 rfl (lv_at hl 0 rfl) ?_
  refine lv_bipush (v := 28) hx hb dX12_copy_3 (by decide) ?_
  refine lv_icmp_ge (tgt := 20) hx hb dX12_copy_5 (by decide) (fun c1 => absurd c1 (by decide)) (fun _ => ?_)
  refine lv_aload_n hx hb dX12_copy_8 rfl (lv_at hl 1 rfl) ?_
  refine lv_iload_n hx hb dX12_copy_9 rfl (lv_at hl 0 rfl) ?_
  refine lv_aload_n hx hb dX12_copy_10 rfl (lv_at hl 2 rfl) ?_
  refine lv_iload_n hx hb dX12_copy_11 rfl (lv_at hl 0 rfl) ?_
  refine g_iald F w (a := 147) rfl (j := 26) ⟨by decide, by decide⟩ (by decide) dX12_copy_12 ?_
  refine r_val (v := 0) ((st_ne (by decide)).trans ((st_ne (by decide)).trans ((st_ne (by decide)).trans ((st_ne (by decide)).trans ((st_ne (by decide)).trans ((st_ne (by decide)).trans ((st_ne (by decide)).trans ((st_ne (by decide)).trans ((st_ne (by decide)).trans ((st_ne (by decide)).trans ((st_ne (by decide)).trans ((st_ne (by decide)).trans ((st_ne (by decide)).trans ((st_ne (by decide)).trans ((st_ne (by decide)).trans ((st_ne (by decide)).trans ((st_ne (by decide)).trans ((st_ne (by decide)).trans ((st_ne (by decide)).trans ((st_ne (by decide)).trans ((st_ne (by decide)).trans ((st_ne (by decide)).trans ((st_ne (by decide)).trans ((st_ne (by decide)).trans ((st_ne (by decide)).trans ((st_ne (by decide)).trans h26)))))))))))))))))))))))))) ?_
  refine g_iast F w (a := 148) rfl (j := 26) ⟨by decide, by decide⟩ (by decide) dX12_copy_13 (fun H locs w => ?_)
  refine lv_iinc (v := 27) (lv' := [(2, .int 27), (0, .ref (B + 148)), (1, .ref (B + 147))]) hx hb dX12_copy_14 hl (k := 0) rfl (by decide) (by decide) rfl (fun ls hl => ?_)
  refine lv_goto (tgt := 2) hx hb dX12_copy_17 (by decide) ?_
  refine lv_iload_n hx hb dX12_copy_2 rfl (lv_at hl 0 rfl) ?_
  refine lv_bipush (v := 28) hx hb dX12_copy_3 (by decide) ?_
  refine lv_icmp_ge (tgt := 20) hx hb dX12_copy_5 (by decide) (fun c1 => absurd c1 (by decide)) (fun _ => ?_)
  refine lv_aload_n hx hb dX12_copy_8 rfl (lv_at hl 1 rfl) ?_
  refine lv_iload_n hx hb dX12_copy_9 rfl (lv_at hl 0 rfl) ?_
  refine lv_aload_n hx hb dX12_copy_10 rfl (lv_at hl 2 rfl) ?_
  refine lv_iload_n hx hb dX12_copy_11 rfl (lv_at hl 0 rfl) ?_
  refine g_iald F w (a := 147) rfl (j := 27) ⟨by decide, by decide⟩ (by decide) dX12_copy_12 ?_
  refine r_val (v := 0) ((st_ne (by decide)).trans ((st_ne (by decide)).trans ((st_ne (by decide)).trans ((st_ne (by decide)).trans ((st_ne (by decide)).trans ((st_ne (by decide)).trans ((st_ne (by decide)).trans ((st_ne (by decide)).trans ((st_ne (by decide)).trans ((st_ne (by decide)).trans ((st_ne (by decide)).trans ((st_ne (by decide)).trans ((st_ne (by decide)).trans ((st_ne (by decide)).trans ((st_ne (by decide)).trans ((st_ne (by decide)).trans ((st_ne (by decide)).trans ((st_ne (by decide)).trans ((st_ne (by decide)).trans ((st_ne (by decide)).trans ((st_ne (by decide)).trans ((st_ne (by decide)).trans ((st_ne (by decide)).trans ((st_ne (by decide)).trans ((st_ne (by decide)).trans ((st_ne (by decide)).trans ((st_ne (by decide)).trans h27))))))))))))))))))))))))))) ?_
  refine g_iast F w (a := 148) rfl (j := 27) ⟨by decide, by decide⟩ (by decide) dX12_copy_13 (fun H locs w => ?_)
  refine lv_iinc (v := 28) (lv' := [(2, .int 28), (0, .ref (B + 148)), (1, .ref (B + 147))]) hx hb dX12_copy_14 hl (k := 0) rfl (by decide) (by decide) rfl (fun ls hl => ?_)
  refine lv_goto (tgt := 2) hx hb dX12_copy_17 (by decide) ?_
  refine lv_iload_n hx hb dX12_copy_2 rfl (lv_at hl 0 rfl) ?_
  refine lv_bipush (v := 28) hx hb dX12_copy_3 (by decide) ?_
  refine lv_icmp_ge (tgt := 20) hx hb dX12_copy_5 (by decide) (fun _ => ?_) (fun c1 => absurd c1 (by decide))
  exact e_v F w hr hlocks rfl dX12_copy_20
set_option maxRecDepth 4000 in
theorem c_X12_insert_391 {l : Launch} {D : va_G} {B : Nat} {cy : Nat → ClassId} {M : Mem} {p2 : Int32} (h0 : M.1 148 0 = 0) (h1 : M.1 148 13 = 0) : Cv l D B cy yX12_insert cX12_insert 4 0 0 [.ref (B + 148), .int 0, .int p2] M (fun M1 => M1 = (st (st M 148 1 p2) 148 0 1)) := by
  refine s_any (by decide) (Nat.le_of_ble_eq_true rfl) ?_
  intro p e s m below meth c ls F hr hlocks w hl
  have F : CallFix p m c cX12_insert 4 s _ TB RX12 := F
  have hx := F.1
  have hb := F.2.1
  have hl : lv_has ls 4 [(0, .ref (B + 148)), (1, .int 0), (2, .int p2)] := hl
  refine lv_aload_n hx hb dX12_insert_0 rfl (lv_at hl 0 rfl) ?_
  refine lv_iconst (v := 0) hx hb dX12_insert_1 (by decide) ?_
  refine g_iald F w (a := 148) rfl (j := 0) ⟨by decide, by decide⟩ (by decide) dX12_insert_2 ?_
  refine r_val (v := 0) (h0) ?_
  refine lv_istore_n (lv' := [(3, .int 0), (0, .ref (B + 148)), (1, .int 0), (2, .int p2)]) hx hb dX12_insert_3 rfl hl (by decide) rfl (fun ls hl => ?_)
  refine lv_iload_n hx hb dX12_insert_4 rfl (lv_at hl 0 rfl) ?_
  refine lv_iload_n hx hb dX12_insert_5 rfl (lv_at hl 2 rfl) ?_
  refine lv_icmp_le (tgt := 41) hx hb dX12_insert_6 (by decide) (fun _ => ?_) (fun c1 => absurd c1 (by decide))
  refine lv_aload_n hx hb dX12_insert_41 rfl (lv_at hl 1 rfl) ?_
  refine lv_iconst (v := 1) hx hb dX12_insert_42 (by decide) ?_
  refine lv_iload_n hx hb dX12_insert_43 rfl (lv_at hl 2 rfl) ?_
  refine lv_iadd hx hb dX12_insert_44 ?_
  refine r_val (v := 1) (by decide) ?_
  refine lv_iload_n hx hb dX12_insert_45 rfl (lv_at hl 3 rfl) ?_
  refine g_iast F w (a := 148) rfl (j := 1) ⟨by decide, by decide⟩ (by decide) dX12_insert_46 (fun H locs w => ?_)
  refine lv_aload_n hx hb dX12_insert_47 rfl (lv_at hl 1 rfl) ?_
  refine lv_bipush (v := 13) hx hb dX12_insert_48 (by decide) ?_
  refine lv_iload_n hx hb dX12_insert_50 rfl (lv_at hl 2 rfl) ?_
  refine lv_iadd hx hb dX12_insert_51 ?_
  refine r_val (v := 13) (by decide) ?_
  refine lv_iconst (v := 0) hx hb dX12_insert_52 (by decide) ?_
  refine g_iast F w (a := 148) rfl (j := 13) ⟨by decide, by decide⟩ (by decide) dX12_insert_53 (fun H locs w => ?_)
  rw [st_same ((st_ne (by decide)).trans h1)] at w
  refine lv_aload_n hx hb dX12_insert_54 rfl (lv_at hl 1 rfl) ?_
  refine lv_iconst (v := 0) hx hb dX12_insert_55 (by decide) ?_
  refine lv_dup2_11 hx hb dX12_insert_56 rfl rfl ?_
  refine g_iald F w (a := 148) rfl (j := 0) ⟨by decide, by decide⟩ (by decide) dX12_insert_57 ?_
  refine r_val (v := 0) ((st_ne (by decide)).trans h0) ?_
  refine lv_iconst (v := 1) hx hb dX12_insert_58 (by decide) ?_
  refine lv_iadd hx hb dX12_insert_59 ?_
  refine r_val (v := 1) (by decide) ?_
  refine g_iast F w (a := 148) rfl (j := 0) ⟨by decide, by decide⟩ (by decide) dX12_insert_60 (fun H locs w => ?_)
  exact e_v F w hr hlocks rfl dX12_insert_61
set_option maxRecDepth 8000 in
theorem bd_X12_sourcesBy_392 {p : Program} {l : Launch} {e : Env} {s : State} {m : MethodId} {args : Array Value} {below : List Frame} {meth : Method} {c : Code} {D : va_G} {B : Nat} {cy : Nat → ClassId} {H H0 : Heap} {locs : List Loc} {Q : State → Prop} {ls : Array Slot} {M : Mem} {k : Nat} (F : CallFix p m c cX12_sourcesBy 7 s args TB RX12) (w : Wd D B cy s H0 M H locs) (hl : lv_has ls 7 [(4, .int (nI k)), (3, .int (nI k)), (2, .int 3), (0, .ref (B + 146)), (1, .int 1)]) (h0 : ¬ 3 ≤ (nI k)) (h1 : M.1 147 0 = 0) (h2 : M.1 147 1 = 0) (h3 : M.1 147 2 = 0) (h4 : M.1 147 3 = 0) (h5 : M.1 147 4 = 0) (h6 : M.1 147 5 = 0) (h7 : M.1 147 6 = 0) (h8 : M.1 147 7 = 0) (h9 : M.1 147 8 = 0) (h10 : M.1 147 9 = 0) (h11 : M.1 147 10 = 0) (h12 : M.1 147 11 = 0) (h13 : M.1 147 12 = 0) (h14 : M.1 147 13 = 0) (h15 : M.1 147 14 = 0) (h16 : M.1 147 15 = 0) (h17 : M.1 147 16 = 0) (h18 : M.1 147 17 = 0) (h19 : M.1 147 18 = 0) (h20 : M.1 147 19 = 0) (h21 : M.1 147 20 = 0) (h22 : M.1 147 21 = 0) (h23 : M.1 147 22 = 0) (h24 : M.1 147 23 = 0) (h25 : M.1 147 24 = 0) (h26 : M.1 147 25 = 0) (h27 : M.1 147 26 = 0) (h28 : M.1 147 27 = 0) (h29 : M.1 146 5 = 0) (h30 : ¬ (nI k) = 0) (kk : ∀ (H1 : Heap) (locs1 : List Loc) (ls1 : Array Slot), Wd D B cy s H0 (st (st (st (st (st (st (st (st (st (st (st (st (st (st (st (st (st (st (st (st (st (st (st (st (st (st (st (st (st (st M 148 0 0) 148 1 0) 148 2 0) 148 3 0) 148 4 0) 148 5 0) 148 6 0) 148 7 0) 148 8 0) 148 9 0) 148 10 0) 148 11 0) 148 12 0) 148 13 0) 148 14 0) 148 15 0) 148 16 0) 148 17 0) 148 18 0) 148 19 0) 148 20 0) 148 21 0) 148 22 0) 148 23 0) 148 24 0) 148 25 0) 148 26 0) 148 27 0) 148 1 ((((nI k) / 1) - ((nI k) / 1) / 3 * 3))) 148 0 1) H1 locs1 → lv_has ls1 7 [(4, .int ((nI k) + 1)), (3, .int ((nI k) + 1)), (2, .int 3), (0, .ref (B + 146)), (1, .int 1)] → W p l e (rmm 3 66) s m args below meth c H1 locs1 0 0 Q (F0 m 34 ls1 [])) : W p l e (rmm 3 66) s m args below meth c H locs 0 0 Q (F0 m 34 ls []) := by
  have hx := F.1
  have hb := F.2.1
  refine lv_iload hx hb dX12_sourcesBy_34 (lv_at hl 0 rfl) ?_
  refine lv_iload_n hx hb dX12_sourcesBy_36 rfl (lv_at hl 2 rfl) ?_
  refine lv_icmp_ge (tgt := 152) hx hb dX12_sourcesBy_37 (by decide) (fun c1 => absurd c1 h0) (fun _ => ?_)
  refine lv_aload_n hx hb dX12_sourcesBy_40 rfl (lv_at hl 3 rfl) ?_
  refine f_12_2 F w (a := 146) rfl tb_127 dX12_sourcesBy_41 ?_
  refine lv_aload_n hx hb dX12_sourcesBy_44 rfl (lv_at hl 3 rfl) ?_
  refine f_12_1 F w (a := 146) rfl tb_126 dX12_sourcesBy_45 ?_
  refine x_Sv F w (As := [.ref (B + 148), .ref (B + 147)]) (rest := []) (c_X12_copy_390 (h1) (h2) (h3) (h4) (h5) (h6) (h7) (h8) (h9) (h10) (h11) (h12) (h13) (h14) (h15) (h16) (h17) (h18) (h19) (h20) (h21) (h22) (h23) (h24) (h25) (h26) (h27) (h28)) gs_X12_162 hs_X12_copy ⟨Nat.le_of_ble_eq_true rfl, Nat.le_of_ble_eq_true rfl⟩ hl.1 rfl (Nat.le_of_ble_eq_true rfl) ⟨Nat.zero_le _, Nat.zero_le _⟩ dX12_sourcesBy_48 (fun H locs w => ?_)
  refine lv_aload_n hx hb dX12_sourcesBy_51 rfl (lv_at hl 3 rfl) ?_
  refine f_12_2 F w (a := 146) rfl tb_127 dX12_sourcesBy_52 ?_
  refine lv_iconst (v := 0) hx hb dX12_sourcesBy_55 (by decide) ?_
  refine lv_iconst (v := 0) hx hb dX12_sourcesBy_56 (by decide) ?_
  refine g_iast F w (a := 148) rfl (j := 0) ⟨by decide, by decide⟩ (by decide) dX12_sourcesBy_57 (fun H locs w => ?_)
  rw [st_same ((st_ne (by decide)).trans ((st_ne (by decide)).trans ((st_ne (by decide)).trans ((st_ne (by decide)).trans ((st_ne (by decide)).trans ((st_ne (by decide)).trans ((st_ne (by decide)).trans ((st_ne (by decide)).trans ((st_ne (by decide)).trans ((st_ne (by decide)).trans ((st_ne (by decide)).trans ((st_ne (by decide)).trans ((st_ne (by decide)).trans ((st_ne (by decide)).trans ((st_ne (by decide)).trans ((st_ne (by decide)).trans ((st_ne (by decide)).trans ((st_ne (by decide)).trans ((st_ne (by decide)).trans ((st_ne (by decide)).trans ((st_ne (by decide)).trans ((st_ne (by decide)).trans ((st_ne (by decide)).trans ((st_ne (by decide)).trans ((st_ne (by decide)).trans ((st_ne (by decide)).trans ((st_ne (by decide)).trans st_at)))))))))))))))))))))))))))] at w
  refine lv_iload_n hx hb dX12_sourcesBy_58 rfl (lv_at hl 2 rfl) ?_
  refine lv_istore (lv' := [(5, .int 3), (4, .int (nI k)), (3, .int (nI k)), (2, .int 3), (0, .ref (B + 146)), (1, .int 1)]) hx hb dX12_sourcesBy_59 hl (by decide) rfl (fun ls hl => ?_)
  refine lv_iconst (v := 0) hx hb dX12_sourcesBy_61 (by decide) ?_
  refine lv_istore (lv' := [(6, .int 0), (5, .int 3), (4, .int (nI k)), (3, .int (nI k)), (2, .int 3), (0, .ref (B + 146)), (1, .int 1)]) hx hb dX12_sourcesBy_62 hl (by decide) rfl (fun ls hl => ?_)
  refine lv_iload hx hb dX12_sourcesBy_64 (lv_at hl 0 rfl) ?_
  refine lv_iload_n hx hb dX12_sourcesBy_66 rfl (lv_at hl 6 rfl) ?_
  refine lv_icmp_ge (tgt := 98) hx hb dX12_sourcesBy_67 (by decide) (fun c1 => absurd c1 (by decide)) (fun _ => ?_)
  refine lv_iload hx hb dX12_sourcesBy_70 (lv_at hl 1 rfl) ?_
  refine lv_iconst (v := 3) hx hb dX12_sourcesBy_72 (by decide) ?_
  refine lv_idiv hx hb dX12_sourcesBy_73 (by decide) ?_
  refine r_val (v := 1) (by decide) ?_
  refine lv_istore (lv' := [(5, .int 1), (6, .int 0), (4, .int (nI k)), (3, .int (nI k)), (2, .int 3), (0, .ref (B + 146)), (1, .int 1)]) hx hb dX12_sourcesBy_74 hl (by decide) rfl (fun ls hl => ?_)
  refine lv_aload_n hx hb dX12_sourcesBy_76 rfl (lv_at hl 5 rfl) ?_
  refine f_12_2 F w (a := 146) rfl tb_127 dX12_sourcesBy_77 ?_
  refine lv_iload hx hb dX12_sourcesBy_80 (lv_at hl 1 rfl) ?_
  refine lv_iload hx hb dX12_sourcesBy_82 (lv_at hl 2 rfl) ?_
  refine lv_iload hx hb dX12_sourcesBy_84 (lv_at hl 0 rfl) ?_
  refine lv_idiv hx hb dX12_sourcesBy_86 (by decide) ?_
  refine lv_iconst (v := 3) hx hb dX12_sourcesBy_87 (by decide) ?_
  refine lv_irem hx hb dX12_sourcesBy_88 (by decide) ?_
  refine x_Sv F w (As := [.ref (B + 148), .int 0, .int (((nI k) / 1) - ((nI k) / 1) / 3 * 3)]) (rest := []) (c_X12_insert_391 ((st_ne (by decide)).trans ((st_ne (by decide)).trans ((st_ne (by decide)).trans ((st_ne (by decide)).trans ((st_ne (by decide)).trans ((st_ne (by decide)).trans ((st_ne (by decide)).trans ((st_ne (by decide)).trans ((st_ne (by decide)).trans ((st_ne (by decide)).trans ((st_ne (by decide)).trans ((st_ne (by decide)).trans ((st_ne (by decide)).trans ((st_ne (by decide)).trans ((st_ne (by decide)).trans ((st_ne (by decide)).trans ((st_ne (by decide)).trans ((st_ne (by decide)).trans ((st_ne (by decide)).trans ((st_ne (by decide)).trans ((st_ne (by decide)).trans ((st_ne (by decide)).trans ((st_ne (by decide)).trans ((st_ne (by decide)).trans ((st_ne (by decide)).trans ((st_ne (by decide)).trans ((st_ne (by decide)).trans st_at))))))))))))))))))))))))))) ((st_ne (by decide)).trans ((st_ne (by decide)).trans ((st_ne (by decide)).trans ((st_ne (by decide)).trans ((st_ne (by decide)).trans ((st_ne (by decide)).trans ((st_ne (by decide)).trans ((st_ne (by decide)).trans ((st_ne (by decide)).trans ((st_ne (by decide)).trans ((st_ne (by decide)).trans ((st_ne (by decide)).trans ((st_ne (by decide)).trans ((st_ne (by decide)).trans st_at))))))))))))))) gs_X12_112 hs_X12_insert ⟨Nat.le_of_ble_eq_true rfl, Nat.le_of_ble_eq_true rfl⟩ hl.1 rfl (Nat.le_of_ble_eq_true rfl) ⟨Nat.zero_le _, Nat.zero_le _⟩ dX12_sourcesBy_89 (fun H locs w => ?_)
  refine lv_iinc (v := 1) (lv' := [(6, .int 1), (5, .int 1), (4, .int (nI k)), (3, .int (nI k)), (2, .int 3), (0, .ref (B + 146)), (1, .int 1)]) hx hb dX12_sourcesBy_92 hl (k := 1) rfl (by decide) (by decide) rfl (fun ls hl => ?_)
  refine lv_goto (tgt := 64) hx hb dX12_sourcesBy_95 (by decide) ?_
  refine lv_iload hx hb dX12_sourcesBy_64 (lv_at hl 0 rfl) ?_
  refine lv_iload_n hx hb dX12_sourcesBy_66 rfl (lv_at hl 6 rfl) ?_
  refine lv_icmp_ge (tgt := 98) hx hb dX12_sourcesBy_67 (by decide) (fun _ => ?_) (fun c1 => absurd c1 (by decide))
  refine lv_iconst (v := 0) hx hb dX12_sourcesBy_98 (by decide) ?_
  refine lv_istore (lv' := [(6, .int 0), (5, .int 1), (4, .int (nI k)), (3, .int (nI k)), (2, .int 3), (0, .ref (B + 146)), (1, .int 1)]) hx hb dX12_sourcesBy_99 hl (by decide) rfl (fun ls hl => ?_)
  refine lv_iload hx hb dX12_sourcesBy_101 (lv_at hl 0 rfl) ?_
  refine lv_aload_n hx hb dX12_sourcesBy_103 rfl (lv_at hl 5 rfl) ?_
  refine f_12_5 F w (a := 146) rfl tb_227 dX12_sourcesBy_104 ?_
  refine r_val (v := 0) ((st_ne (by decide)).trans ((st_ne (by decide)).trans ((st_ne (by decide)).trans ((st_ne (by decide)).trans ((st_ne (by decide)).trans ((st_ne (by decide)).trans ((st_ne (by decide)).trans ((st_ne (by decide)).trans ((st_ne (by decide)).trans ((st_ne (by decide)).trans ((st_ne (by decide)).trans ((st_ne (by decide)).trans ((st_ne (by decide)).trans ((st_ne (by decide)).trans ((st_ne (by decide)).trans ((st_ne (by decide)).trans ((st_ne (by decide)).trans ((st_ne (by decide)).trans ((st_ne (by decide)).trans ((st_ne (by decide)).trans ((st_ne (by decide)).trans ((st_ne (by decide)).trans ((st_ne (by decide)).trans ((st_ne (by decide)).trans ((st_ne (by decide)).trans ((st_ne (by decide)).trans ((st_ne (by decide)).trans ((st_ne (by decide)).trans ((st_ne (by decide)).trans ((st_ne (by decide)).trans h29)))))))))))))))))))))))))))))) ?_
  refine lv_icmp_ge (tgt := 123) hx hb dX12_sourcesBy_107 (by decide) (fun _ => ?_) (fun c1 => absurd c1 (by decide))
  refine lv_aload_n hx hb dX12_sourcesBy_123 rfl (lv_at hl 5 rfl) ?_
  refine x_Vi F w (As := []) (rest := []) (a := 146) (by decide) (sh_12 rfl _ _) rfl (c_X12_isDue_357 ((st_ne (by decide)).trans ((st_ne (by decide)).trans ((st_ne (by decide)).trans ((st_ne (by decide)).trans st_at))))) gv_X12_306 hv_X12_isDue ⟨Nat.le_of_ble_eq_true rfl, Nat.le_of_ble_eq_true rfl⟩ hl.1 rfl (Nat.le_of_ble_eq_true rfl) ⟨Nat.zero_le _, Nat.zero_le _⟩ dX12_sourcesBy_124 (fun H locs w => ?_)
  refine lv_if_ne (tgt := 133) hx hb dX12_sourcesBy_127 (by decide) (fun _ => ?_) (fun c1 => absurd c1 (by decide))
  refine lv_iload_n hx hb dX12_sourcesBy_133 rfl (lv_at hl 3 rfl) ?_
  refine lv_if_ne (tgt := 143) hx hb dX12_sourcesBy_134 (by decide) (fun _ => ?_) (fun c1 => absurd c1 h30)
  refine lv_iinc (v := ((nI k) + 1)) (lv' := [(3, .int ((nI k) + 1)), (6, .int 0), (5, .int 1), (4, .int (nI k)), (2, .int 3), (0, .ref (B + 146)), (1, .int 1)]) hx hb dX12_sourcesBy_143 hl (k := 3) rfl rfl (by decide) rfl (fun ls hl => ?_)
  refine lv_iinc (v := ((nI k) + 1)) (lv' := [(4, .int ((nI k) + 1)), (3, .int ((nI k) + 1)), (6, .int 0), (5, .int 1), (2, .int 3), (0, .ref (B + 146)), (1, .int 1)]) hx hb dX12_sourcesBy_146 hl (k := 3) rfl rfl (by decide) rfl (fun ls hl => ?_)
  refine lv_goto (tgt := 34) hx hb dX12_sourcesBy_149 (by decide) ?_
  exact kk _ _ _ w (lv_sub hl [0, 1, 4, 5, 6] rfl)
set_option maxRecDepth 8000 in
theorem ex_X12_sourcesBy_392 {p : Program} {l : Launch} {e : Env} {s : State} {m : MethodId} {args : Array Value} {below : List Frame} {meth : Method} {c : Code} {D : va_G} {B : Nat} {cy : Nat → ClassId} {H : Heap} {locs : List Loc} {ls : Array Slot} {M : Mem} {post : Int32 → Mem → Prop} (F : CallFix p m c cX12_sourcesBy 7 s args TB RX12) (hr : meth.sig.returnType = (some .int)) (hlocks : meth.locks = false) (w : Wd D B cy s s.heap M H locs) (hl : lv_has ls 7 [(4, .int 3), (3, .int 3), (2, .int 3), (0, .ref (B + 146)), (1, .int 1)]) (hp : post 3 M) : W p l e (rmm 3 66) s m args below meth c H locs 0 0 (MQ below (va_Qi post (fun M1 t => Wp D B cy M1 t) (fun q => B ≤ q)) args s 0 0 (fun q => B ≤ q)) (F0 m 34 ls []) := by
  have hx := F.1
  have hb := F.2.1
  refine lv_iload hx hb dX12_sourcesBy_34 (lv_at hl 0 rfl) ?_
  refine lv_iload_n hx hb dX12_sourcesBy_36 rfl (lv_at hl 2 rfl) ?_
  refine lv_icmp_ge (tgt := 152) hx hb dX12_sourcesBy_37 (by decide) (fun _ => ?_) (fun c1 => absurd c1 (by decide))
  refine lv_iload_n hx hb dX12_sourcesBy_152 rfl (lv_at hl 1 rfl) ?_
  exact e_i F w hr hlocks hp dX12_sourcesBy_153
set_option maxRecDepth 8000 in
theorem lp_X12_sourcesBy_392 {p : Program} {l : Launch} {e : Env} {s : State} {m : MethodId} {args : Array Value} {below : List Frame} {meth : Method} {c : Code} {D : va_G} {B : Nat} {cy : Nat → ClassId} (F : CallFix p m c cX12_sourcesBy 7 s args TB RX12) (hr : meth.sig.returnType = (some .int)) (hlocks : meth.locks = false) : ∀ (n k : Nat), n + k = 3 → 1 ≤ k → ∀ (M : Mem) (H : Heap) (locs : List Loc) (ls : Array Slot), Wd D B cy s s.heap M H locs → lv_has ls 7 [(4, .int (nI k)), (3, .int (nI k)), (2, .int 3), (0, .ref (B + 146)), (1, .int 1)] → (M.1 147 0 = 0) → (M.1 147 1 = 0) → (M.1 147 2 = 0) → (M.1 147 3 = 0) → (M.1 147 4 = 0) → (M.1 147 5 = 0) → (M.1 147 6 = 0) → (M.1 147 7 = 0) → (M.1 147 8 = 0) → (M.1 147 9 = 0) → (M.1 147 10 = 0) → (M.1 147 11 = 0) → (M.1 147 12 = 0) → (M.1 147 13 = 0) → (M.1 147 14 = 0) → (M.1 147 15 = 0) → (M.1 147 16 = 0) → (M.1 147 17 = 0) → (M.1 147 18 = 0) → (M.1 147 19 = 0) → (M.1 147 20 = 0) → (M.1 147 21 = 0) → (M.1 147 22 = 0) → (M.1 147 23 = 0) → (M.1 147 24 = 0) → (M.1 147 25 = 0) → (M.1 147 26 = 0) → (M.1 147 27 = 0) → (M.1 146 5 = 0) → (M.1 146 26 = 0) → W p l e (rmm 3 66) s m args below meth c H locs 0 0 (MQ below (va_Qi (fun r M1 => r = 3 ∧ M1.1 146 26 = 0) (fun M1 t => Wp D B cy M1 t) (fun q => B ≤ q)) args s 0 0 (fun q => B ≤ q)) (F0 m 34 ls []) := by
  intro n
  induction n with
  | zero =>
    intro k hk h1 M H locs ls w hl h0 h1 h2 h3 h4 h5 h6 h7 h8 h9 h10 h11 h12 h13 h14 h15 h16 h17 h18 h19 h20 h21 h22 h23 h24 h25 h26 h27 h28 h29
    have hk : k = 3 := by omega
    subst hk
    exact ex_X12_sourcesBy_392 (post := fun r M1 => r = 3 ∧ M1.1 146 26 = 0) F hr hlocks w hl  ⟨rfl, h29⟩
  | succ n ih =>
    intro k hk h1 M H locs ls w hl h0 h1 h2 h3 h4 h5 h6 h7 h8 h9 h10 h11 h12 h13 h14 h15 h16 h17 h18 h19 h20 h21 h22 h23 h24 h25 h26 h27 h28 h29
    exact bd_X12_sourcesBy_392 F w hl (show ¬ nI 3 ≤ nI k from nI_ge (by omega) (by decide)) h0 h1 h2 h3 h4 h5 h6 h7 h8 h9 h10 h11 h12 h13 h14 h15 h16 h17 h18 h19 h20 h21 h22 h23 h24 h25 h26 h27 h28 (nI_ne0 (by omega) (by omega)) (fun H1 locs1 ls1 w1 hl1 => ih (k + 1) (by omega) (by omega) _ H1 locs1 ls1 w1 (by rw [nI_1] at hl1; exact hl1) ((st_ne (by decide)).trans ((st_ne (by decide)).trans ((st_ne (by decide)).trans ((st_ne (by decide)).trans ((st_ne (by decide)).trans ((st_ne (by decide)).trans ((st_ne (by decide)).trans ((st_ne (by decide)).trans ((st_ne (by decide)).trans ((st_ne (by decide)).trans ((st_ne (by decide)).trans ((st_ne (by decide)).trans ((st_ne (by decide)).trans ((st_ne (by decide)).trans ((st_ne (by decide)).trans ((st_ne (by decide)).trans ((st_ne (by decide)).trans ((st_ne (by decide)).trans ((st_ne (by decide)).trans ((st_ne (by decide)).trans ((st_ne (by decide)).trans ((st_ne (by decide)).trans ((st_ne (by decide)).trans ((st_ne (by decide)).trans ((st_ne (by decide)).trans ((st_ne (by decide)).trans ((st_ne (by decide)).trans ((st_ne (by decide)).trans ((st_ne (by decide)).trans ((st_ne (by decide)).trans h0)))))))))))))))))))))))))))))) ((st_ne (by decide)).trans ((st_ne (by decide)).trans ((st_ne (by decide)).trans ((st_ne (by decide)).trans ((st_ne (by decide)).trans ((st_ne (by decide)).trans ((st_ne (by decide)).trans ((st_ne (by decide)).trans ((st_ne (by decide)).trans ((st_ne (by decide)).trans ((st_ne (by decide)).trans ((st_ne (by decide)).trans ((st_ne (by decide)).trans ((st_ne (by decide)).trans ((st_ne (by decide)).trans ((st_ne (by decide)).trans ((st_ne (by decide)).trans ((st_ne (by decide)).trans ((st_ne (by decide)).trans ((st_ne (by decide)).trans ((st_ne (by decide)).trans ((st_ne (by decide)).trans ((st_ne (by decide)).trans ((st_ne (by decide)).trans ((st_ne (by decide)).trans ((st_ne (by decide)).trans ((st_ne (by decide)).trans ((st_ne (by decide)).trans ((st_ne (by decide)).trans ((st_ne (by decide)).trans h1)))))))))))))))))))))))))))))) ((st_ne (by decide)).trans ((st_ne (by decide)).trans ((st_ne (by decide)).trans ((st_ne (by decide)).trans ((st_ne (by decide)).trans ((st_ne (by decide)).trans ((st_ne (by decide)).trans ((st_ne (by decide)).trans ((st_ne (by decide)).trans ((st_ne (by decide)).trans ((st_ne (by decide)).trans ((st_ne (by decide)).trans ((st_ne (by decide)).trans ((st_ne (by decide)).trans ((st_ne (by decide)).trans ((st_ne (by decide)).trans ((st_ne (by decide)).trans ((st_ne (by decide)).trans ((st_ne (by decide)).trans ((st_ne (by decide)).trans ((st_ne (by decide)).trans ((st_ne (by decide)).trans ((st_ne (by decide)).trans ((st_ne (by decide)).trans ((st_ne (by decide)).trans ((st_ne (by decide)).trans ((st_ne (by decide)).trans ((st_ne (by decide)).trans ((st_ne (by decide)).trans ((st_ne (by decide)).trans h2)))))))))))))))))))))))))))))) ((st_ne (by decide)).trans ((st_ne (by decide)).trans ((st_ne (by decide)).trans ((st_ne (by decide)).trans ((st_ne (by decide)).trans ((st_ne (by decide)).trans ((st_ne (by decide)).trans ((st_ne (by decide)).trans ((st_ne (by decide)).trans ((st_ne (by decide)).trans ((st_ne (by decide)).trans ((st_ne (by decide)).trans ((st_ne (by decide)).trans ((st_ne (by decide)).trans ((st_ne (by decide)).trans ((st_ne (by decide)).trans ((st_ne (by decide)).trans ((st_ne (by decide)).trans ((st_ne (by decide)).trans ((st_ne (by decide)).trans ((st_ne (by decide)).trans ((st_ne (by decide)).trans ((st_ne (by decide)).trans ((st_ne (by decide)).trans ((st_ne (by decide)).trans ((st_ne (by decide)).trans ((st_ne (by decide)).trans ((st_ne (by decide)).trans ((st_ne (by decide)).trans ((st_ne (by decide)).trans h3)))))))))))))))))))))))))))))) ((st_ne (by decide)).trans ((st_ne (by decide)).trans ((st_ne (by decide)).trans ((st_ne (by decide)).trans ((st_ne (by decide)).trans ((st_ne (by decide)).trans ((st_ne (by decide)).trans ((st_ne (by decide)).trans ((st_ne (by decide)).trans ((st_ne (by decide)).trans ((st_ne (by decide)).trans ((st_ne (by decide)).trans ((st_ne (by decide)).trans ((st_ne (by decide)).trans ((st_ne (by decide)).trans ((st_ne (by decide)).trans ((st_ne (by decide)).trans ((st_ne (by decide)).trans ((st_ne (by decide)).trans ((st_ne (by decide)).trans ((st_ne (by decide)).trans ((st_ne (by decide)).trans ((st_ne (by decide)).trans ((st_ne (by decide)).trans ((st_ne (by decide)).trans ((st_ne (by decide)).trans ((st_ne (by decide)).trans ((st_ne (by decide)).trans ((st_ne (by decide)).trans ((st_ne (by decide)).trans h4)))))))))))))))))))))))))))))) ((st_ne (by decide)).trans ((st_ne (by decide)).trans ((st_ne (by decide)).trans ((st_ne (by decide)).trans ((st_ne (by decide)).trans ((st_ne (by decide)).trans ((st_ne (by decide)).trans ((st_ne (by decide)).trans ((st_ne (by decide)).trans ((st_ne (by decide)).trans ((st_ne (by decide)).trans ((st_ne (by decide)).trans ((st_ne (by decide)).trans ((st_ne (by decide)).trans ((st_ne (by decide)).trans ((st_ne (by decide)).trans ((st_ne (by decide)).trans ((st_ne (by decide)).trans ((st_ne (by decide)).trans ((st_ne (by decide)).trans ((st_ne (by decide)).trans ((st_ne (by decide)).trans ((st_ne (by decide)).trans ((st_ne (by decide)).trans ((st_ne (by decide)).trans ((st_ne (by decide)).trans ((st_ne (by decide)).trans ((st_ne (by decide)).trans ((st_ne (by decide)).trans ((st_ne (by decide)).trans h5)))))))))))))))))))))))))))))) ((st_ne (by decide)).trans ((st_ne (by decide)).trans ((st_ne (by decide)).trans ((st_ne (by decide)).trans ((st_ne (by decide)).trans ((st_ne (by decide)).trans ((st_ne (by decide)).trans ((st_ne (by decide)).trans ((st_ne (by decide)).trans ((st_ne (by decide)).trans ((st_ne (by decide)).trans ((st_ne (by decide)).trans ((st_ne (by decide)).trans ((st_ne (by decide)).trans ((st_ne (by decide)).trans ((st_ne (by decide)).trans ((st_ne (by decide)).trans ((st_ne (by decide)).trans ((st_ne (by decide)).trans ((st_ne (by decide)).trans ((st_ne (by decide)).trans ((st_ne (by decide)).trans ((st_ne (by decide)).trans ((st_ne (by decide)).trans ((st_ne (by decide)).trans ((st_ne (by decide)).trans ((st_ne (by decide)).trans ((st_ne (by decide)).trans ((st_ne (by decide)).trans ((st_ne (by decide)).trans h6)))))))))))))))))))))))))))))) ((st_ne (by decide)).trans ((st_ne (by decide)).trans ((st_ne (by decide)).trans ((st_ne (by decide)).trans ((st_ne (by decide)).trans ((st_ne (by decide)).trans ((st_ne (by decide)).trans ((st_ne (by decide)).trans ((st_ne (by decide)).trans ((st_ne (by decide)).trans ((st_ne (by decide)).trans ((st_ne (by decide)).trans ((st_ne (by decide)).trans ((st_ne (by decide)).trans ((st_ne (by decide)).trans ((st_ne (by decide)).trans ((st_ne (by decide)).trans ((st_ne (by decide)).trans ((st_ne (by decide)).trans ((st_ne (by decide)).trans ((st_ne (by decide)).trans ((st_ne (by decide)).trans ((st_ne (by decide)).trans ((st_ne (by decide)).trans ((st_ne (by decide)).trans ((st_ne (by decide)).trans ((st_ne (by decide)).trans ((st_ne (by decide)).trans ((st_ne (by decide)).trans ((st_ne (by decide)).trans h7)))))))))))))))))))))))))))))) ((st_ne (by decide)).trans ((st_ne (by decide)).trans ((st_ne (by decide)).trans ((st_ne (by decide)).trans ((st_ne (by decide)).trans ((st_ne (by decide)).trans ((st_ne (by decide)).trans ((st_ne (by decide)).trans ((st_ne (by decide)).trans ((st_ne (by decide)).trans ((st_ne (by decide)).trans ((st_ne (by decide)).trans ((st_ne (by decide)).trans ((st_ne (by decide)).trans ((st_ne (by decide)).trans ((st_ne (by decide)).trans ((st_ne (by decide)).trans ((st_ne (by decide)).trans ((st_ne (by decide)).trans ((st_ne (by decide)).trans ((st_ne (by decide)).trans ((st_ne (by decide)).trans ((st_ne (by decide)).trans ((st_ne (by decide)).trans ((st_ne (by decide)).trans ((st_ne (by decide)).trans ((st_ne (by decide)).trans ((st_ne (by decide)).trans ((st_ne (by decide)).trans ((st_ne (by decide)).trans h8)))))))))))))))))))))))))))))) ((st_ne (by decide)).trans ((st_ne (by decide)).trans ((st_ne (by decide)).trans ((st_ne (by decide)).trans ((st_ne (by decide)).trans ((st_ne (by decide)).trans ((st_ne (by decide)).trans ((st_ne (by decide)).trans ((st_ne (by decide)).trans ((st_ne (by decide)).trans ((st_ne (by decide)).trans ((st_ne (by decide)).trans ((st_ne (by decide)).trans ((st_ne (by decide)).trans ((st_ne (by decide)).trans ((st_ne (by decide)).trans ((st_ne (by decide)).trans ((st_ne (by decide)).trans ((st_ne (by decide)).trans ((st_ne (by decide)).trans ((st_ne (by decide)).trans ((st_ne (by decide)).trans ((st_ne (by decide)).trans ((st_ne (by decide)).trans ((st_ne (by decide)).trans ((st_ne (by decide)).trans ((st_ne (by decide)).trans ((st_ne (by decide)).trans ((st_ne (by decide)).trans ((st_ne (by decide)).trans h9)))))))))))))))))))))))))))))) ((st_ne (by decide)).trans ((st_ne (by decide)).trans ((st_ne (by decide)).trans ((st_ne (by decide)).trans ((st_ne (by decide)).trans ((st_ne (by decide)).trans ((st_ne (by decide)).trans ((st_ne (by decide)).trans ((st_ne (by decide)).trans ((st_ne (by decide)).trans ((st_ne (by decide)).trans ((st_ne (by decide)).trans ((st_ne (by decide)).trans ((st_ne (by decide)).trans ((st_ne (by decide)).trans ((st_ne (by decide)).trans ((st_ne (by decide)).trans ((st_ne (by decide)).trans ((st_ne (by decide)).trans ((st_ne (by decide)).trans ((st_ne (by decide)).trans ((st_ne (by decide)).trans ((st_ne (by decide)).trans ((st_ne (by decide)).trans ((st_ne (by decide)).trans ((st_ne (by decide)).trans ((st_ne (by decide)).trans ((st_ne (by decide)).trans ((st_ne (by decide)).trans ((st_ne (by decide)).trans h10)))))))))))))))))))))))))))))) ((st_ne (by decide)).trans ((st_ne (by decide)).trans ((st_ne (by decide)).trans ((st_ne (by decide)).trans ((st_ne (by decide)).trans ((st_ne (by decide)).trans ((st_ne (by decide)).trans ((st_ne (by decide)).trans ((st_ne (by decide)).trans ((st_ne (by decide)).trans ((st_ne (by decide)).trans ((st_ne (by decide)).trans ((st_ne (by decide)).trans ((st_ne (by decide)).trans ((st_ne (by decide)).trans ((st_ne (by decide)).trans ((st_ne (by decide)).trans ((st_ne (by decide)).trans ((st_ne (by decide)).trans ((st_ne (by decide)).trans ((st_ne (by decide)).trans ((st_ne (by decide)).trans ((st_ne (by decide)).trans ((st_ne (by decide)).trans ((st_ne (by decide)).trans ((st_ne (by decide)).trans ((st_ne (by decide)).trans ((st_ne (by decide)).trans ((st_ne (by decide)).trans ((st_ne (by decide)).trans h11)))))))))))))))))))))))))))))) ((st_ne (by decide)).trans ((st_ne (by decide)).trans ((st_ne (by decide)).trans ((st_ne (by decide)).trans ((st_ne (by decide)).trans ((st_ne (by decide)).trans ((st_ne (by decide)).trans ((st_ne (by decide)).trans ((st_ne (by decide)).trans ((st_ne (by decide)).trans ((st_ne (by decide)).trans ((st_ne (by decide)).trans ((st_ne (by decide)).trans ((st_ne (by decide)).trans ((st_ne (by decide)).trans ((st_ne (by decide)).trans ((st_ne (by decide)).trans ((st_ne (by decide)).trans ((st_ne (by decide)).trans ((st_ne (by decide)).trans ((st_ne (by decide)).trans ((st_ne (by decide)).trans ((st_ne (by decide)).trans ((st_ne (by decide)).trans ((st_ne (by decide)).trans ((st_ne (by decide)).trans ((st_ne (by decide)).trans ((st_ne (by decide)).trans ((st_ne (by decide)).trans ((st_ne (by decide)).trans h12)))))))))))))))))))))))))))))) ((st_ne (by decide)).trans ((st_ne (by decide)).trans ((st_ne (by decide)).trans ((st_ne (by decide)).trans ((st_ne (by decide)).trans ((st_ne (by decide)).trans ((st_ne (by decide)).trans ((st_ne (by decide)).trans ((st_ne (by decide)).trans ((st_ne (by decide)).trans ((st_ne (by decide)).trans ((st_ne (by decide)).trans ((st_ne (by decide)).trans ((st_ne (by decide)).trans ((st_ne (by decide)).trans ((st_ne (by decide)).trans ((st_ne (by decide)).trans ((st_ne (by decide)).trans ((st_ne (by decide)).trans ((st_ne (by decide)).trans ((st_ne (by decide)).trans ((st_ne (by decide)).trans ((st_ne (by decide)).trans ((st_ne (by decide)).trans ((st_ne (by decide)).trans ((st_ne (by decide)).trans ((st_ne (by decide)).trans ((st_ne (by decide)).trans ((st_ne (by decide)).trans ((st_ne (by decide)).trans h13)))))))))))))))))))))))))))))) ((st_ne (by decide)).trans ((st_ne (by decide)).trans ((st_ne (by decide)).trans ((st_ne (by decide)).trans ((st_ne (by decide)).trans ((st_ne (by decide)).trans ((st_ne (by decide)).trans ((st_ne (by decide)).trans ((st_ne (by decide)).trans ((st_ne (by decide)).trans ((st_ne (by decide)).trans ((st_ne (by decide)).trans ((st_ne (by decide)).trans ((st_ne (by decide)).trans ((st_ne (by decide)).trans ((st_ne (by decide)).trans ((st_ne (by decide)).trans ((st_ne (by decide)).trans ((st_ne (by decide)).trans ((st_ne (by decide)).trans ((st_ne (by decide)).trans ((st_ne (by decide)).trans ((st_ne (by decide)).trans ((st_ne (by decide)).trans ((st_ne (by decide)).trans ((st_ne (by decide)).trans ((st_ne (by decide)).trans ((st_ne (by decide)).trans ((st_ne (by decide)).trans ((st_ne (by decide)).trans h14)))))))))))))))))))))))))))))) ((st_ne (by decide)).trans ((st_ne (by decide)).trans ((st_ne (by decide)).trans ((st_ne (by decide)).trans ((st_ne (by decide)).trans ((st_ne (by decide)).trans ((st_ne (by decide)).trans ((st_ne (by decide)).trans ((st_ne (by decide)).trans ((st_ne (by decide)).trans ((st_ne (by decide)).trans ((st_ne (by decide)).trans ((st_ne (by decide)).trans ((st_ne (by decide)).trans ((st_ne (by decide)).trans ((st_ne (by decide)).trans ((st_ne (by decide)).trans ((st_ne (by decide)).trans ((st_ne (by decide)).trans ((st_ne (by decide)).trans ((st_ne (by decide)).trans ((st_ne (by decide)).trans ((st_ne (by decide)).trans ((st_ne (by decide)).trans ((st_ne (by decide)).trans ((st_ne (by decide)).trans ((st_ne (by decide)).trans ((st_ne (by decide)).trans ((st_ne (by decide)).trans ((st_ne (by decide)).trans h15)))))))))))))))))))))))))))))) ((st_ne (by decide)).trans ((st_ne (by decide)).trans ((st_ne (by decide)).trans ((st_ne (by decide)).trans ((st_ne (by decide)).trans ((st_ne (by decide)).trans ((st_ne (by decide)).trans ((st_ne (by decide)).trans ((st_ne (by decide)).trans ((st_ne (by decide)).trans ((st_ne (by decide)).trans ((st_ne (by decide)).trans ((st_ne (by decide)).trans ((st_ne (by decide)).trans ((st_ne (by decide)).trans ((st_ne (by decide)).trans ((st_ne (by decide)).trans ((st_ne (by decide)).trans ((st_ne (by decide)).trans ((st_ne (by decide)).trans ((st_ne (by decide)).trans ((st_ne (by decide)).trans ((st_ne (by decide)).trans ((st_ne (by decide)).trans ((st_ne (by decide)).trans ((st_ne (by decide)).trans ((st_ne (by decide)).trans ((st_ne (by decide)).trans ((st_ne (by decide)).trans ((st_ne (by decide)).trans h16)))))))))))))))))))))))))))))) ((st_ne (by decide)).trans ((st_ne (by decide)).trans ((st_ne (by decide)).trans ((st_ne (by decide)).trans ((st_ne (by decide)).trans ((st_ne (by decide)).trans ((st_ne (by decide)).trans ((st_ne (by decide)).trans ((st_ne (by decide)).trans ((st_ne (by decide)).trans ((st_ne (by decide)).trans ((st_ne (by decide)).trans ((st_ne (by decide)).trans ((st_ne (by decide)).trans ((st_ne (by decide)).trans ((st_ne (by decide)).trans ((st_ne (by decide)).trans ((st_ne (by decide)).trans ((st_ne (by decide)).trans ((st_ne (by decide)).trans ((st_ne (by decide)).trans ((st_ne (by decide)).trans ((st_ne (by decide)).trans ((st_ne (by decide)).trans ((st_ne (by decide)).trans ((st_ne (by decide)).trans ((st_ne (by decide)).trans ((st_ne (by decide)).trans ((st_ne (by decide)).trans ((st_ne (by decide)).trans h17)))))))))))))))))))))))))))))) ((st_ne (by decide)).trans ((st_ne (by decide)).trans ((st_ne (by decide)).trans ((st_ne (by decide)).trans ((st_ne (by decide)).trans ((st_ne (by decide)).trans ((st_ne (by decide)).trans ((st_ne (by decide)).trans ((st_ne (by decide)).trans ((st_ne (by decide)).trans ((st_ne (by decide)).trans ((st_ne (by decide)).trans ((st_ne (by decide)).trans ((st_ne (by decide)).trans ((st_ne (by decide)).trans ((st_ne (by decide)).trans ((st_ne (by decide)).trans ((st_ne (by decide)).trans ((st_ne (by decide)).trans ((st_ne (by decide)).trans ((st_ne (by decide)).trans ((st_ne (by decide)).trans ((st_ne (by decide)).trans ((st_ne (by decide)).trans ((st_ne (by decide)).trans ((st_ne (by decide)).trans ((st_ne (by decide)).trans ((st_ne (by decide)).trans ((st_ne (by decide)).trans ((st_ne (by decide)).trans h18)))))))))))))))))))))))))))))) ((st_ne (by decide)).trans ((st_ne (by decide)).trans ((st_ne (by decide)).trans ((st_ne (by decide)).trans ((st_ne (by decide)).trans ((st_ne (by decide)).trans ((st_ne (by decide)).trans ((st_ne (by decide)).trans ((st_ne (by decide)).trans ((st_ne (by decide)).trans ((st_ne (by decide)).trans ((st_ne (by decide)).trans ((st_ne (by decide)).trans ((st_ne (by decide)).trans ((st_ne (by decide)).trans ((st_ne (by decide)).trans ((st_ne (by decide)).trans ((st_ne (by decide)).trans ((st_ne (by decide)).trans ((st_ne (by decide)).trans ((st_ne (by decide)).trans ((st_ne (by decide)).trans ((st_ne (by decide)).trans ((st_ne (by decide)).trans ((st_ne (by decide)).trans ((st_ne (by decide)).trans ((st_ne (by decide)).trans ((st_ne (by decide)).trans ((st_ne (by decide)).trans ((st_ne (by decide)).trans h19)))))))))))))))))))))))))))))) ((st_ne (by decide)).trans ((st_ne (by decide)).trans ((st_ne (by decide)).trans ((st_ne (by decide)).trans ((st_ne (by decide)).trans ((st_ne (by decide)).trans ((st_ne (by decide)).trans ((st_ne (by decide)).trans ((st_ne (by decide)).trans ((st_ne (by decide)).trans ((st_ne (by decide)).trans ((st_ne (by decide)).trans ((st_ne (by decide)).trans ((st_ne (by decide)).trans ((st_ne (by decide)).trans ((st_ne (by decide)).trans ((st_ne (by decide)).trans ((st_ne (by decide)).trans ((st_ne (by decide)).trans ((st_ne (by decide)).trans ((st_ne (by decide)).trans ((st_ne (by decide)).trans ((st_ne (by decide)).trans ((st_ne (by decide)).trans ((st_ne (by decide)).trans ((st_ne (by decide)).trans ((st_ne (by decide)).trans ((st_ne (by decide)).trans ((st_ne (by decide)).trans ((st_ne (by decide)).trans h20)))))))))))))))))))))))))))))) ((st_ne (by decide)).trans ((st_ne (by decide)).trans ((st_ne (by decide)).trans ((st_ne (by decide)).trans ((st_ne (by decide)).trans ((st_ne (by decide)).trans ((st_ne (by decide)).trans ((st_ne (by decide)).trans ((st_ne (by decide)).trans ((st_ne (by decide)).trans ((st_ne (by decide)).trans ((st_ne (by decide)).trans ((st_ne (by decide)).trans ((st_ne (by decide)).trans ((st_ne (by decide)).trans ((st_ne (by decide)).trans ((st_ne (by decide)).trans ((st_ne (by decide)).trans ((st_ne (by decide)).trans ((st_ne (by decide)).trans ((st_ne (by decide)).trans ((st_ne (by decide)).trans ((st_ne (by decide)).trans ((st_ne (by decide)).trans ((st_ne (by decide)).trans ((st_ne (by decide)).trans ((st_ne (by decide)).trans ((st_ne (by decide)).trans ((st_ne (by decide)).trans ((st_ne (by decide)).trans h21)))))))))))))))))))))))))))))) ((st_ne (by decide)).trans ((st_ne (by decide)).trans ((st_ne (by decide)).trans ((st_ne (by decide)).trans ((st_ne (by decide)).trans ((st_ne (by decide)).trans ((st_ne (by decide)).trans ((st_ne (by decide)).trans ((st_ne (by decide)).trans ((st_ne (by decide)).trans ((st_ne (by decide)).trans ((st_ne (by decide)).trans ((st_ne (by decide)).trans ((st_ne (by decide)).trans ((st_ne (by decide)).trans ((st_ne (by decide)).trans ((st_ne (by decide)).trans ((st_ne (by decide)).trans ((st_ne (by decide)).trans ((st_ne (by decide)).trans ((st_ne (by decide)).trans ((st_ne (by decide)).trans ((st_ne (by decide)).trans ((st_ne (by decide)).trans ((st_ne (by decide)).trans ((st_ne (by decide)).trans ((st_ne (by decide)).trans ((st_ne (by decide)).trans ((st_ne (by decide)).trans ((st_ne (by decide)).trans h22)))))))))))))))))))))))))))))) ((st_ne (by decide)).trans ((st_ne (by decide)).trans ((st_ne (by decide)).trans ((st_ne (by decide)).trans ((st_ne (by decide)).trans ((st_ne (by decide)).trans ((st_ne (by decide)).trans ((st_ne (by decide)).trans ((st_ne (by decide)).trans ((st_ne (by decide)).trans ((st_ne (by decide)).trans ((st_ne (by decide)).trans ((st_ne (by decide)).trans ((st_ne (by decide)).trans ((st_ne (by decide)).trans ((st_ne (by decide)).trans ((st_ne (by decide)).trans ((st_ne (by decide)).trans ((st_ne (by decide)).trans ((st_ne (by decide)).trans ((st_ne (by decide)).trans ((st_ne (by decide)).trans ((st_ne (by decide)).trans ((st_ne (by decide)).trans ((st_ne (by decide)).trans ((st_ne (by decide)).trans ((st_ne (by decide)).trans ((st_ne (by decide)).trans ((st_ne (by decide)).trans ((st_ne (by decide)).trans h23)))))))))))))))))))))))))))))) ((st_ne (by decide)).trans ((st_ne (by decide)).trans ((st_ne (by decide)).trans ((st_ne (by decide)).trans ((st_ne (by decide)).trans ((st_ne (by decide)).trans ((st_ne (by decide)).trans ((st_ne (by decide)).trans ((st_ne (by decide)).trans ((st_ne (by decide)).trans ((st_ne (by decide)).trans ((st_ne (by decide)).trans ((st_ne (by decide)).trans ((st_ne (by decide)).trans ((st_ne (by decide)).trans ((st_ne (by decide)).trans ((st_ne (by decide)).trans ((st_ne (by decide)).trans ((st_ne (by decide)).trans ((st_ne (by decide)).trans ((st_ne (by decide)).trans ((st_ne (by decide)).trans ((st_ne (by decide)).trans ((st_ne (by decide)).trans ((st_ne (by decide)).trans ((st_ne (by decide)).trans ((st_ne (by decide)).trans ((st_ne (by decide)).trans ((st_ne (by decide)).trans ((st_ne (by decide)).trans h24)))))))))))))))))))))))))))))) ((st_ne (by decide)).trans ((st_ne (by decide)).trans ((st_ne (by decide)).trans ((st_ne (by decide)).trans ((st_ne (by decide)).trans ((st_ne (by decide)).trans ((st_ne (by decide)).trans ((st_ne (by decide)).trans ((st_ne (by decide)).trans ((st_ne (by decide)).trans ((st_ne (by decide)).trans ((st_ne (by decide)).trans ((st_ne (by decide)).trans ((st_ne (by decide)).trans ((st_ne (by decide)).trans ((st_ne (by decide)).trans ((st_ne (by decide)).trans ((st_ne (by decide)).trans ((st_ne (by decide)).trans ((st_ne (by decide)).trans ((st_ne (by decide)).trans ((st_ne (by decide)).trans ((st_ne (by decide)).trans ((st_ne (by decide)).trans ((st_ne (by decide)).trans ((st_ne (by decide)).trans ((st_ne (by decide)).trans ((st_ne (by decide)).trans ((st_ne (by decide)).trans ((st_ne (by decide)).trans h25)))))))))))))))))))))))))))))) ((st_ne (by decide)).trans ((st_ne (by decide)).trans ((st_ne (by decide)).trans ((st_ne (by decide)).trans ((st_ne (by decide)).trans ((st_ne (by decide)).trans ((st_ne (by decide)).trans ((st_ne (by decide)).trans ((st_ne (by decide)).trans ((st_ne (by decide)).trans ((st_ne (by decide)).trans ((st_ne (by decide)).trans ((st_ne (by decide)).trans ((st_ne (by decide)).trans ((st_ne (by decide)).trans ((st_ne (by decide)).trans ((st_ne (by decide)).trans ((st_ne (by decide)).trans ((st_ne (by decide)).trans ((st_ne (by decide)).trans ((st_ne (by decide)).trans ((st_ne (by decide)).trans ((st_ne (by decide)).trans ((st_ne (by decide)).trans ((st_ne (by decide)).trans ((st_ne (by decide)).trans ((st_ne (by decide)).trans ((st_ne (by decide)).trans ((st_ne (by decide)).trans ((st_ne (by decide)).trans h26)))))))))))))))))))))))))))))) ((st_ne (by decide)).trans ((st_ne (by decide)).trans ((st_ne (by decide)).trans ((st_ne (by decide)).trans ((st_ne (by decide)).trans ((st_ne (by decide)).trans ((st_ne (by decide)).trans ((st_ne (by decide)).trans ((st_ne (by decide)).trans ((st_ne (by decide)).trans ((st_ne (by decide)).trans ((st_ne (by decide)).trans ((st_ne (by decide)).trans ((st_ne (by decide)).trans ((st_ne (by decide)).trans ((st_ne (by decide)).trans ((st_ne (by decide)).trans ((st_ne (by decide)).trans ((st_ne (by decide)).trans ((st_ne (by decide)).trans ((st_ne (by decide)).trans ((st_ne (by decide)).trans ((st_ne (by decide)).trans ((st_ne (by decide)).trans ((st_ne (by decide)).trans ((st_ne (by decide)).trans ((st_ne (by decide)).trans ((st_ne (by decide)).trans ((st_ne (by decide)).trans ((st_ne (by decide)).trans h27)))))))))))))))))))))))))))))) ((st_ne (by decide)).trans ((st_ne (by decide)).trans ((st_ne (by decide)).trans ((st_ne (by decide)).trans ((st_ne (by decide)).trans ((st_ne (by decide)).trans ((st_ne (by decide)).trans ((st_ne (by decide)).trans ((st_ne (by decide)).trans ((st_ne (by decide)).trans ((st_ne (by decide)).trans ((st_ne (by decide)).trans ((st_ne (by decide)).trans ((st_ne (by decide)).trans ((st_ne (by decide)).trans ((st_ne (by decide)).trans ((st_ne (by decide)).trans ((st_ne (by decide)).trans ((st_ne (by decide)).trans ((st_ne (by decide)).trans ((st_ne (by decide)).trans ((st_ne (by decide)).trans ((st_ne (by decide)).trans ((st_ne (by decide)).trans ((st_ne (by decide)).trans ((st_ne (by decide)).trans ((st_ne (by decide)).trans ((st_ne (by decide)).trans ((st_ne (by decide)).trans ((st_ne (by decide)).trans h28)))))))))))))))))))))))))))))) ((st_ne (by decide)).trans ((st_ne (by decide)).trans ((st_ne (by decide)).trans ((st_ne (by decide)).trans ((st_ne (by decide)).trans ((st_ne (by decide)).trans ((st_ne (by decide)).trans ((st_ne (by decide)).trans ((st_ne (by decide)).trans ((st_ne (by decide)).trans ((st_ne (by decide)).trans ((st_ne (by decide)).trans ((st_ne (by decide)).trans ((st_ne (by decide)).trans ((st_ne (by decide)).trans ((st_ne (by decide)).trans ((st_ne (by decide)).trans ((st_ne (by decide)).trans ((st_ne (by decide)).trans ((st_ne (by decide)).trans ((st_ne (by decide)).trans ((st_ne (by decide)).trans ((st_ne (by decide)).trans ((st_ne (by decide)).trans ((st_ne (by decide)).trans ((st_ne (by decide)).trans ((st_ne (by decide)).trans ((st_ne (by decide)).trans ((st_ne (by decide)).trans ((st_ne (by decide)).trans h29)))))))))))))))))))))))))))))))
set_option maxRecDepth 8000 in
theorem c_X12_sourcesBy_392 {l : Launch} {D : va_G} {B : Nat} {cy : Nat → ClassId} {M : Mem} (h0 : M.1 146 5 = 0) (h1 : M.1 147 0 = 0) (h2 : M.1 148 0 = 0) (h3 : M.1 147 1 = 0) (h4 : M.1 148 1 = 0) (h5 : M.1 147 2 = 0) (h6 : M.1 148 2 = 0) (h7 : M.1 147 3 = 0) (h8 : M.1 148 3 = 0) (h9 : M.1 147 4 = 0) (h10 : M.1 148 4 = 0) (h11 : M.1 147 5 = 0) (h12 : M.1 148 5 = 0) (h13 : M.1 147 6 = 0) (h14 : M.1 148 6 = 0) (h15 : M.1 147 7 = 0) (h16 : M.1 148 7 = 0) (h17 : M.1 147 8 = 0) (h18 : M.1 148 8 = 0) (h19 : M.1 147 9 = 0) (h20 : M.1 148 9 = 0) (h21 : M.1 147 10 = 0) (h22 : M.1 148 10 = 0) (h23 : M.1 147 11 = 0) (h24 : M.1 148 11 = 0) (h25 : M.1 147 12 = 0) (h26 : M.1 148 12 = 0) (h27 : M.1 147 13 = 0) (h28 : M.1 148 13 = 0) (h29 : M.1 147 14 = 0) (h30 : M.1 148 14 = 0) (h31 : M.1 147 15 = 0) (h32 : M.1 148 15 = 0) (h33 : M.1 147 16 = 0) (h34 : M.1 148 16 = 0) (h35 : M.1 147 17 = 0) (h36 : M.1 148 17 = 0) (h37 : M.1 147 18 = 0) (h38 : M.1 148 18 = 0) (h39 : M.1 147 19 = 0) (h40 : M.1 148 19 = 0) (h41 : M.1 147 20 = 0) (h42 : M.1 148 20 = 0) (h43 : M.1 147 21 = 0) (h44 : M.1 148 21 = 0) (h45 : M.1 147 22 = 0) (h46 : M.1 148 22 = 0) (h47 : M.1 147 23 = 0) (h48 : M.1 148 23 = 0) (h49 : M.1 147 24 = 0) (h50 : M.1 148 24 = 0) (h51 : M.1 147 25 = 0) (h52 : M.1 148 25 = 0) (h53 : M.1 147 26 = 0) (h54 : M.1 148 26 = 0) (h55 : M.1 147 27 = 0) (h56 : M.1 148 27 = 0) (h57 : M.1 157 0 = 0) (h58 : M.1 157 1 = 0) (h59 : M.1 157 2 = 0) (h60 : M.1 157 3 = 0) (h61 : M.1 157 4 = 0) (h62 : M.1 157 5 = 0) (h63 : M.1 157 6 = 0) (h64 : M.1 157 7 = 0) (h65 : M.1 157 8 = 0) (h66 : M.1 157 9 = 0) (h67 : M.1 157 10 = 0) (h68 : M.1 157 11 = 0) (h69 : M.1 146 26 = 0) : Ci l D B cy yX12_sourcesBy cX12_sourcesBy 7 (some .int) 3 66 [.ref (B + 146), .int 1] M (fun r M1 => r = 3 ∧ M1.1 146 26 = 0) := by
  refine s_any (by decide) (Nat.le_of_ble_eq_true rfl) ?_
  intro p e s m below meth c ls F hr hlocks w hl
  have F : CallFix p m c cX12_sourcesBy 7 s _ TB RX12 := F
  have hx := F.1
  have hb := F.2.1
  have hl : lv_has ls 7 [(0, .ref (B + 146)), (1, .int 1)] := hl
  refine lv_aload_n hx hb dX12_sourcesBy_0 rfl (lv_at hl 0 rfl) ?_
  refine x_Vv F w (As := []) (rest := []) (a := 146) (by decide) (sh_12 rfl _ _) rfl (c_X12_laysDue_340 (h0) (h1) (h2) (h3) (h4) (h5) (h6) (h7) (h8) (h9) (h10) (h11) (h12) (h13) (h14) (h15) (h16) (h17) (h18) (h19) (h20) (h21) (h22) (h23) (h24) (h25) (h26) (h27) (h28) (h29) (h30) (h31) (h32) (h33) (h34) (h35) (h36) (h37) (h38) (h39) (h40) (h41) (h42) (h43) (h44) (h45) (h46) (h47) (h48) (h49) (h50) (h51) (h52) (h53) (h54) (h55) (h56) (h57) (h58) (h59) (h60) (h61) (h62) (h63) (h64) (h65) (h66) (h67) (h68)) gv_X12_303 hv_X12_laysDue ⟨Nat.le_of_ble_eq_true rfl, Nat.le_of_ble_eq_true rfl⟩ hl.1 rfl (Nat.le_of_ble_eq_true rfl) ⟨Nat.zero_le _, Nat.zero_le _⟩ dX12_sourcesBy_1 (fun H locs w => ?_)
  refine lv_aload_n hx hb dX12_sourcesBy_4 rfl (lv_at hl 0 rfl) ?_
  refine lv_bipush (v := (-2)) hx hb dX12_sourcesBy_5 (by decide) ?_
  refine u_12_26 F w (a := 146) rfl tb_567 dX12_sourcesBy_7 (fun H locs w => ?_)
  refine lv_iconst (v := 1) hx hb dX12_sourcesBy_10 (by decide) ?_
  refine lv_istore_n (lv' := [(2, .int 1), (0, .ref (B + 146)), (1, .int 1)]) hx hb dX12_sourcesBy_11 rfl hl (by decide) rfl (fun ls hl => ?_)
  refine lv_iconst (v := 0) hx hb dX12_sourcesBy_12 (by decide) ?_
  refine lv_istore_n (lv' := [(3, .int 0), (2, .int 1), (0, .ref (B + 146)), (1, .int 1)]) hx hb dX12_sourcesBy_13 rfl hl (by decide) rfl (fun ls hl => ?_)
  refine lv_iload_n hx hb dX12_sourcesBy_14 rfl (lv_at hl 0 rfl) ?_
  refine lv_iload_n hx hb dX12_sourcesBy_15 rfl (lv_at hl 3 rfl) ?_
  refine lv_icmp_ge (tgt := 29) hx hb dX12_sourcesBy_16 (by decide) (fun c1 => absurd c1 (by decide)) (fun _ => ?_)
  refine lv_iload_n hx hb dX12_sourcesBy_19 rfl (lv_at hl 1 rfl) ?_
  refine lv_iconst (v := 3) hx hb dX12_sourcesBy_20 (by decide) ?_
  refine lv_imul hx hb dX12_sourcesBy_21 ?_
  refine r_val (v := 3) (by decide) ?_
  refine lv_istore_n (lv' := [(2, .int 3), (3, .int 0), (0, .ref (B + 146)), (1, .int 1)]) hx hb dX12_sourcesBy_22 rfl hl (by decide) rfl (fun ls hl => ?_)
  refine lv_iinc (v := 1) (lv' := [(3, .int 1), (2, .int 3), (0, .ref (B + 146)), (1, .int 1)]) hx hb dX12_sourcesBy_23 hl (k := 1) rfl (by decide) (by decide) rfl (fun ls hl => ?_)
  refine lv_goto (tgt := 14) hx hb dX12_sourcesBy_26 (by decide) ?_
  refine lv_iload_n hx hb dX12_sourcesBy_14 rfl (lv_at hl 0 rfl) ?_
  refine lv_iload_n hx hb dX12_sourcesBy_15 rfl (lv_at hl 3 rfl) ?_
  refine lv_icmp_ge (tgt := 29) hx hb dX12_sourcesBy_16 (by decide) (fun _ => ?_) (fun c1 => absurd c1 (by decide))
  refine lv_iconst (v := 0) hx hb dX12_sourcesBy_29 (by decide) ?_
  refine lv_istore_n (lv' := [(3, .int 0), (2, .int 3), (0, .ref (B + 146)), (1, .int 1)]) hx hb dX12_sourcesBy_30 rfl hl (by decide) rfl (fun ls hl => ?_)
  refine lv_iconst (v := 0) hx hb dX12_sourcesBy_31 (by decide) ?_
  refine lv_istore (lv' := [(4, .int 0), (3, .int 0), (2, .int 3), (0, .ref (B + 146)), (1, .int 1)]) hx hb dX12_sourcesBy_32 hl (by decide) rfl (fun ls hl => ?_)
  refine lv_iload hx hb dX12_sourcesBy_34 (lv_at hl 0 rfl) ?_
  refine lv_iload_n hx hb dX12_sourcesBy_36 rfl (lv_at hl 2 rfl) ?_
  refine lv_icmp_ge (tgt := 152) hx hb dX12_sourcesBy_37 (by decide) (fun c1 => absurd c1 (by decide)) (fun _ => ?_)
  refine lv_aload_n hx hb dX12_sourcesBy_40 rfl (lv_at hl 3 rfl) ?_
  refine f_12_2 F w (a := 146) rfl tb_127 dX12_sourcesBy_41 ?_
  refine lv_aload_n hx hb dX12_sourcesBy_44 rfl (lv_at hl 3 rfl) ?_
  refine f_12_1 F w (a := 146) rfl tb_126 dX12_sourcesBy_45 ?_
  refine x_Sv F w (As := [.ref (B + 148), .ref (B + 147)]) (rest := []) (c_X12_copy_211 ((st_ne (by decide)).trans h1) ((st_ne (by decide)).trans h2) ((st_ne (by decide)).trans h3) ((st_ne (by decide)).trans h4) ((st_ne (by decide)).trans h5) ((st_ne (by decide)).trans h6) ((st_ne (by decide)).trans h7) ((st_ne (by decide)).trans h8) ((st_ne (by decide)).trans h9) ((st_ne (by decide)).trans h10) ((st_ne (by decide)).trans h11) ((st_ne (by decide)).trans h12) ((st_ne (by decide)).trans h13) ((st_ne (by decide)).trans h14) ((st_ne (by decide)).trans h15) ((st_ne (by decide)).trans h16) ((st_ne (by decide)).trans h17) ((st_ne (by decide)).trans h18) ((st_ne (by decide)).trans h19) ((st_ne (by decide)).trans h20) ((st_ne (by decide)).trans h21) ((st_ne (by decide)).trans h22) ((st_ne (by decide)).trans h23) ((st_ne (by decide)).trans h24) ((st_ne (by decide)).trans h25) ((st_ne (by decide)).trans h26) ((st_ne (by decide)).trans h27) ((st_ne (by decide)).trans h28) ((st_ne (by decide)).trans h29) ((st_ne (by decide)).trans h30) ((st_ne (by decide)).trans h31) ((st_ne (by decide)).trans h32) ((st_ne (by decide)).trans h33) ((st_ne (by decide)).trans h34) ((st_ne (by decide)).trans h35) ((st_ne (by decide)).trans h36) ((st_ne (by decide)).trans h37) ((st_ne (by decide)).trans h38) ((st_ne (by decide)).trans h39) ((st_ne (by decide)).trans h40) ((st_ne (by decide)).trans h41) ((st_ne (by decide)).trans h42) ((st_ne (by decide)).trans h43) ((st_ne (by decide)).trans h44) ((st_ne (by decide)).trans h45) ((st_ne (by decide)).trans h46) ((st_ne (by decide)).trans h47) ((st_ne (by decide)).trans h48) ((st_ne (by decide)).trans h49) ((st_ne (by decide)).trans h50) ((st_ne (by decide)).trans h51) ((st_ne (by decide)).trans h52) ((st_ne (by decide)).trans h53) ((st_ne (by decide)).trans h54) ((st_ne (by decide)).trans h55) ((st_ne (by decide)).trans h56)) gs_X12_162 hs_X12_copy ⟨Nat.le_of_ble_eq_true rfl, Nat.le_of_ble_eq_true rfl⟩ hl.1 rfl (Nat.le_of_ble_eq_true rfl) ⟨Nat.zero_le _, Nat.zero_le _⟩ dX12_sourcesBy_48 (fun H locs w => ?_)
  refine lv_aload_n hx hb dX12_sourcesBy_51 rfl (lv_at hl 3 rfl) ?_
  refine f_12_2 F w (a := 146) rfl tb_127 dX12_sourcesBy_52 ?_
  refine lv_iconst (v := 0) hx hb dX12_sourcesBy_55 (by decide) ?_
  refine lv_iconst (v := 0) hx hb dX12_sourcesBy_56 (by decide) ?_
  refine g_iast F w (a := 148) rfl (j := 0) ⟨by decide, by decide⟩ (by decide) dX12_sourcesBy_57 (fun H locs w => ?_)
  rw [st_same ((st_ne (by decide)).trans h2)] at w
  refine lv_iload_n hx hb dX12_sourcesBy_58 rfl (lv_at hl 2 rfl) ?_
  refine lv_istore (lv' := [(5, .int 3), (4, .int 0), (3, .int 0), (2, .int 3), (0, .ref (B + 146)), (1, .int 1)]) hx hb dX12_sourcesBy_59 hl (by decide) rfl (fun ls hl => ?_)
  refine lv_iconst (v := 0) hx hb dX12_sourcesBy_61 (by decide) ?_
  refine lv_istore (lv' := [(6, .int 0), (5, .int 3), (4, .int 0), (3, .int 0), (2, .int 3), (0, .ref (B + 146)), (1, .int 1)]) hx hb dX12_sourcesBy_62 hl (by decide) rfl (fun ls hl => ?_)
  refine lv_iload hx hb dX12_sourcesBy_64 (lv_at hl 0 rfl) ?_
  refine lv_iload_n hx hb dX12_sourcesBy_66 rfl (lv_at hl 6 rfl) ?_
  refine lv_icmp_ge (tgt := 98) hx hb dX12_sourcesBy_67 (by decide) (fun c1 => absurd c1 (by decide)) (fun _ => ?_)
  refine lv_iload hx hb dX12_sourcesBy_70 (lv_at hl 1 rfl) ?_
  refine lv_iconst (v := 3) hx hb dX12_sourcesBy_72 (by decide) ?_
  refine lv_idiv hx hb dX12_sourcesBy_73 (by decide) ?_
  refine r_val (v := 1) (by decide) ?_
  refine lv_istore (lv' := [(5, .int 1), (6, .int 0), (4, .int 0), (3, .int 0), (2, .int 3), (0, .ref (B + 146)), (1, .int 1)]) hx hb dX12_sourcesBy_74 hl (by decide) rfl (fun ls hl => ?_)
  refine lv_aload_n hx hb dX12_sourcesBy_76 rfl (lv_at hl 5 rfl) ?_
  refine f_12_2 F w (a := 146) rfl tb_127 dX12_sourcesBy_77 ?_
  refine lv_iload hx hb dX12_sourcesBy_80 (lv_at hl 1 rfl) ?_
  refine lv_iload hx hb dX12_sourcesBy_82 (lv_at hl 2 rfl) ?_
  refine lv_iload hx hb dX12_sourcesBy_84 (lv_at hl 0 rfl) ?_
  refine lv_idiv hx hb dX12_sourcesBy_86 (by decide) ?_
  refine r_val (v := 0) (by decide) ?_
  refine lv_iconst (v := 3) hx hb dX12_sourcesBy_87 (by decide) ?_
  refine lv_irem hx hb dX12_sourcesBy_88 (by decide) ?_
  refine r_val (v := 0) (by decide) ?_
  refine x_Sv F w (As := [.ref (B + 148), .int 0, .int 0]) (rest := []) (c_X12_insert_389 ((st_ne (by decide)).trans h2) ((st_ne (by decide)).trans h4) ((st_ne (by decide)).trans h28)) gs_X12_112 hs_X12_insert ⟨Nat.le_of_ble_eq_true rfl, Nat.le_of_ble_eq_true rfl⟩ hl.1 rfl (Nat.le_of_ble_eq_true rfl) ⟨Nat.zero_le _, Nat.zero_le _⟩ dX12_sourcesBy_89 (fun H locs w => ?_)
  refine lv_iinc (v := 1) (lv' := [(6, .int 1), (5, .int 1), (4, .int 0), (3, .int 0), (2, .int 3), (0, .ref (B + 146)), (1, .int 1)]) hx hb dX12_sourcesBy_92 hl (k := 1) rfl (by decide) (by decide) rfl (fun ls hl => ?_)
  refine lv_goto (tgt := 64) hx hb dX12_sourcesBy_95 (by decide) ?_
  refine lv_iload hx hb dX12_sourcesBy_64 (lv_at hl 0 rfl) ?_
  refine lv_iload_n hx hb dX12_sourcesBy_66 rfl (lv_at hl 6 rfl) ?_
  refine lv_icmp_ge (tgt := 98) hx hb dX12_sourcesBy_67 (by decide) (fun _ => ?_) (fun c1 => absurd c1 (by decide))
  refine lv_iconst (v := 0) hx hb dX12_sourcesBy_98 (by decide) ?_
  refine lv_istore (lv' := [(6, .int 0), (5, .int 1), (4, .int 0), (3, .int 0), (2, .int 3), (0, .ref (B + 146)), (1, .int 1)]) hx hb dX12_sourcesBy_99 hl (by decide) rfl (fun ls hl => ?_)
  refine lv_iload hx hb dX12_sourcesBy_101 (lv_at hl 0 rfl) ?_
  refine lv_aload_n hx hb dX12_sourcesBy_103 rfl (lv_at hl 5 rfl) ?_
  refine f_12_5 F w (a := 146) rfl tb_227 dX12_sourcesBy_104 ?_
  refine r_val (v := 0) ((st_ne (by decide)).trans ((st_ne (by decide)).trans h0)) ?_
  refine lv_icmp_ge (tgt := 123) hx hb dX12_sourcesBy_107 (by decide) (fun _ => ?_) (fun c1 => absurd c1 (by decide))
  refine lv_aload_n hx hb dX12_sourcesBy_123 rfl (lv_at hl 5 rfl) ?_
  refine x_Vi F w (As := []) (rest := []) (a := 146) (by decide) (sh_12 rfl _ _) rfl (c_X12_isDue_357 ((st_ne (by decide)).trans ((st_ne (by decide)).trans h52))) gv_X12_306 hv_X12_isDue ⟨Nat.le_of_ble_eq_true rfl, Nat.le_of_ble_eq_true rfl⟩ hl.1 rfl (Nat.le_of_ble_eq_true rfl) ⟨Nat.zero_le _, Nat.zero_le _⟩ dX12_sourcesBy_124 (fun H locs w => ?_)
  refine lv_if_ne (tgt := 133) hx hb dX12_sourcesBy_127 (by decide) (fun _ => ?_) (fun c1 => absurd c1 (by decide))
  refine lv_iload_n hx hb dX12_sourcesBy_133 rfl (lv_at hl 3 rfl) ?_
  refine lv_if_ne (tgt := 143) hx hb dX12_sourcesBy_134 (by decide) (fun c1 => absurd c1 (by decide)) (fun _ => ?_)
  refine lv_aload_n hx hb dX12_sourcesBy_137 rfl (lv_at hl 5 rfl) ?_
  refine lv_iload hx hb dX12_sourcesBy_138 (lv_at hl 2 rfl) ?_
  refine u_12_26 F w (a := 146) rfl tb_567 dX12_sourcesBy_140 (fun H locs w => ?_)
  refine lv_iinc (v := 1) (lv' := [(3, .int 1), (6, .int 0), (5, .int 1), (4, .int 0), (2, .int 3), (0, .ref (B + 146)), (1, .int 1)]) hx hb dX12_sourcesBy_143 hl (k := 3) rfl (by decide) (by decide) rfl (fun ls hl => ?_)
  refine lv_iinc (v := 1) (lv' := [(4, .int 1), (3, .int 1), (6, .int 0), (5, .int 1), (2, .int 3), (0, .ref (B + 146)), (1, .int 1)]) hx hb dX12_sourcesBy_146 hl (k := 3) rfl (by decide) (by decide) rfl (fun ls hl => ?_)
  refine lv_goto (tgt := 34) hx hb dX12_sourcesBy_149 (by decide) ?_
  exact lp_X12_sourcesBy_392 F hr hlocks 2 1 (by decide) (by decide) _ H locs ls w (show lv_has ls 7 [(4, .int 1), (3, .int 1), (2, .int 3), (0, .ref (B + 146)), (1, .int 1)] from lv_sub hl [0, 1, 4, 5, 6] rfl) ((st_ne (by decide)).trans ((st_ne (by decide)).trans ((st_ne (by decide)).trans h1))) ((st_ne (by decide)).trans ((st_ne (by decide)).trans ((st_ne (by decide)).trans h3))) ((st_ne (by decide)).trans ((st_ne (by decide)).trans ((st_ne (by decide)).trans h5))) ((st_ne (by decide)).trans ((st_ne (by decide)).trans ((st_ne (by decide)).trans h7))) ((st_ne (by decide)).trans ((st_ne (by decide)).trans ((st_ne (by decide)).trans h9))) ((st_ne (by decide)).trans ((st_ne (by decide)).trans ((st_ne (by decide)).trans h11))) ((st_ne (by decide)).trans ((st_ne (by decide)).trans ((st_ne (by decide)).trans h13))) ((st_ne (by decide)).trans ((st_ne (by decide)).trans ((st_ne (by decide)).trans h15))) ((st_ne (by decide)).trans ((st_ne (by decide)).trans ((st_ne (by decide)).trans h17))) ((st_ne (by decide)).trans ((st_ne (by decide)).trans ((st_ne (by decide)).trans h19))) ((st_ne (by decide)).trans ((st_ne (by decide)).trans ((st_ne (by decide)).trans h21))) ((st_ne (by decide)).trans ((st_ne (by decide)).trans ((st_ne (by decide)).trans h23))) ((st_ne (by decide)).trans ((st_ne (by decide)).trans ((st_ne (by decide)).trans h25))) ((st_ne (by decide)).trans ((st_ne (by decide)).trans ((st_ne (by decide)).trans h27))) ((st_ne (by decide)).trans ((st_ne (by decide)).trans ((st_ne (by decide)).trans h29))) ((st_ne (by decide)).trans ((st_ne (by decide)).trans ((st_ne (by decide)).trans h31))) ((st_ne (by decide)).trans ((st_ne (by decide)).trans ((st_ne (by decide)).trans h33))) ((st_ne (by decide)).trans ((st_ne (by decide)).trans ((st_ne (by decide)).trans h35))) ((st_ne (by decide)).trans ((st_ne (by decide)).trans ((st_ne (by decide)).trans h37))) ((st_ne (by decide)).trans ((st_ne (by decide)).trans ((st_ne (by decide)).trans h39))) ((st_ne (by decide)).trans ((st_ne (by decide)).trans ((st_ne (by decide)).trans h41))) ((st_ne (by decide)).trans ((st_ne (by decide)).trans ((st_ne (by decide)).trans h43))) ((st_ne (by decide)).trans ((st_ne (by decide)).trans ((st_ne (by decide)).trans h45))) ((st_ne (by decide)).trans ((st_ne (by decide)).trans ((st_ne (by decide)).trans h47))) ((st_ne (by decide)).trans ((st_ne (by decide)).trans ((st_ne (by decide)).trans h49))) ((st_ne (by decide)).trans ((st_ne (by decide)).trans ((st_ne (by decide)).trans h51))) ((st_ne (by decide)).trans ((st_ne (by decide)).trans ((st_ne (by decide)).trans h53))) ((st_ne (by decide)).trans ((st_ne (by decide)).trans ((st_ne (by decide)).trans h55))) ((st_ne (by decide)).trans ((st_ne (by decide)).trans ((st_ne (by decide)).trans h0))) (st_at)
set_option maxRecDepth 4000 in
theorem c_X12_sources_393 {l : Launch} {D : va_G} {B : Nat} {cy : Nat → ClassId} {M : Mem} (h0 : M.1 146 5 = 0) (h1 : M.1 147 0 = 0) (h2 : M.1 148 0 = 0) (h3 : M.1 147 1 = 0) (h4 : M.1 148 1 = 0) (h5 : M.1 147 2 = 0) (h6 : M.1 148 2 = 0) (h7 : M.1 147 3 = 0) (h8 : M.1 148 3 = 0) (h9 : M.1 147 4 = 0) (h10 : M.1 148 4 = 0) (h11 : M.1 147 5 = 0) (h12 : M.1 148 5 = 0) (h13 : M.1 147 6 = 0) (h14 : M.1 148 6 = 0) (h15 : M.1 147 7 = 0) (h16 : M.1 148 7 = 0) (h17 : M.1 147 8 = 0) (h18 : M.1 148 8 = 0) (h19 : M.1 147 9 = 0) (h20 : M.1 148 9 = 0) (h21 : M.1 147 10 = 0) (h22 : M.1 148 10 = 0) (h23 : M.1 147 11 = 0) (h24 : M.1 148 11 = 0) (h25 : M.1 147 12 = 0) (h26 : M.1 148 12 = 0) (h27 : M.1 147 13 = 0) (h28 : M.1 148 13 = 0) (h29 : M.1 147 14 = 0) (h30 : M.1 148 14 = 0) (h31 : M.1 147 15 = 0) (h32 : M.1 148 15 = 0) (h33 : M.1 147 16 = 0) (h34 : M.1 148 16 = 0) (h35 : M.1 147 17 = 0) (h36 : M.1 148 17 = 0) (h37 : M.1 147 18 = 0) (h38 : M.1 148 18 = 0) (h39 : M.1 147 19 = 0) (h40 : M.1 148 19 = 0) (h41 : M.1 147 20 = 0) (h42 : M.1 148 20 = 0) (h43 : M.1 147 21 = 0) (h44 : M.1 148 21 = 0) (h45 : M.1 147 22 = 0) (h46 : M.1 148 22 = 0) (h47 : M.1 147 23 = 0) (h48 : M.1 148 23 = 0) (h49 : M.1 147 24 = 0) (h50 : M.1 148 24 = 0) (h51 : M.1 147 25 = 0) (h52 : M.1 148 25 = 0) (h53 : M.1 147 26 = 0) (h54 : M.1 148 26 = 0) (h55 : M.1 147 27 = 0) (h56 : M.1 148 27 = 0) (h57 : M.1 157 0 = 0) (h58 : M.1 157 1 = 0) (h59 : M.1 157 2 = 0) (h60 : M.1 157 3 = 0) (h61 : M.1 157 4 = 0) (h62 : M.1 157 5 = 0) (h63 : M.1 157 6 = 0) (h64 : M.1 157 7 = 0) (h65 : M.1 157 8 = 0) (h66 : M.1 157 9 = 0) (h67 : M.1 157 10 = 0) (h68 : M.1 157 11 = 0) (h69 : M.1 146 26 = 0) : Ci l D B cy yX12_sources cX12_sources 2 (some .int) 4 92 [.ref (B + 146), .int 1] M (fun r _ => r = 3) := by
  refine s_any (by decide) (Nat.le_of_ble_eq_true rfl) ?_
  intro p e s m below meth c ls F hr hlocks w hl
  have F : CallFix p m c cX12_sources 2 s _ TB RX12 := F
  have hx := F.1
  have hb := F.2.1
  have hl : lv_has ls 2 [(0, .ref (B + 146)), (1, .int 1)] := hl
  refine lv_iload_n hx hb dX12_sources_0 rfl (lv_at hl 1 rfl) ?_
  refine lv_iconst (v := 0) hx hb dX12_sources_1 (by decide) ?_
  refine lv_bipush (v := 6) hx hb dX12_sources_2 (by decide) ?_
  refine x_Si F w (As := [.int 1, .int 0, .int 6]) (rest := []) (c_X12_in_388) gs_X12_55 hs_X12_in ⟨Nat.le_of_ble_eq_true rfl, Nat.le_of_ble_eq_true rfl⟩ hl.1 rfl (Nat.le_of_ble_eq_true rfl) ⟨Nat.zero_le _, Nat.zero_le _⟩ dX12_sources_4 (fun H locs w => ?_)
  refine lv_if_eq (tgt := 18) hx hb dX12_sources_7 (by decide) (fun c1 => absurd c1 (by decide)) (fun _ => ?_)
  refine lv_aload_n hx hb dX12_sources_10 rfl (lv_at hl 0 rfl) ?_
  refine lv_iload_n hx hb dX12_sources_11 rfl (lv_at hl 1 rfl) ?_
  refine k_Vi F w (As := [.int 1]) (rest := []) (a := 146) (by decide) (sh_12 rfl _ _) rfl (c_X12_sourcesBy_392 (h0) (h1) (h2) (h3) (h4) (h5) (h6) (h7) (h8) (h9) (h10) (h11) (h12) (h13) (h14) (h15) (h16) (h17) (h18) (h19) (h20) (h21) (h22) (h23) (h24) (h25) (h26) (h27) (h28) (h29) (h30) (h31) (h32) (h33) (h34) (h35) (h36) (h37) (h38) (h39) (h40) (h41) (h42) (h43) (h44) (h45) (h46) (h47) (h48) (h49) (h50) (h51) (h52) (h53) (h54) (h55) (h56) (h57) (h58) (h59) (h60) (h61) (h62) (h63) (h64) (h65) (h66) (h67) (h68) (h69)) gv_X12_321 hv_X12_sourcesBy ⟨Nat.le_of_ble_eq_true rfl, Nat.le_of_ble_eq_true rfl⟩ hl.1 rfl (Nat.le_of_ble_eq_true rfl) ⟨Nat.zero_le _, Nat.zero_le _⟩ dX12_sources_12 (fun r M1 H locs hp w => ?_)
  obtain ⟨rfl, e0⟩ := hp
  refine lv_goto (tgt := 19) hx hb dX12_sources_15 (by decide) ?_
  exact e_i (post := fun r _ => r = 3) F w hr hlocks rfl dX12_sources_19
set_option maxRecDepth 8000 in
theorem la_26_92 {p : Program} {l : Launch} {e : Env} {s : State} {m : MethodId} {below : List Frame} {meth : Method} {c : Code} {D : va_G} {B b : Nat} {cy : Nat → ClassId} {H : Heap} {locs : List Loc} {ls : Array Slot} {xs : Nat → Int32} {Q : State → Prop} (F : CallFix p m c code 4 s #[Value.ref b] TB RL) (hX : va_X b 6 xs s s.heap) (hbl : b < s.heap.size) (hbA : ¬ B ≤ b) (w : Wd D B cy s s.heap M0 H locs) (hl : lv_has ls 4 [(3, .int 0), (2, .ref (B + 146)), (1, .ref (B + 0)), (0, .ref b)]) (x1 : xs 1 = 1) (kk : ∀ (M1 : Mem) (H1 : Heap) (locs1 : List Loc), Wd D B cy s s.heap M1 H1 locs1 → W p l e room_1 s m #[Value.ref b] below meth c H1 locs1 159 13107 Q (F0 m 1065 ls [])) : W p l e room_1 s m #[Value.ref b] below meth c H locs 159 13107 Q (F0 m 996 ls []) := by
  have hx := F.1
  have hb := F.2.1
  refine lv_aload_n hx hb dL_law_996 rfl (lv_at hl 2 rfl) ?_
  refine lv_aload_n hx hb dL_law_997 rfl (lv_at hl 3 rfl) ?_
  refine lv_iload_n hx hb dL_law_998 rfl (lv_at hl 0 rfl) ?_
  refine lv_iconst (v := 1) hx hb dL_law_999 (by decide) ?_
  refine lv_iadd hx hb dL_law_1000 ?_
  refine r_val (v := 1) (by decide) ?_
  refine va_sld hx hb hX hbl hbA w.2.2.1 (vpi (by decide) (by decide)) dL_law_1001 ?_
  refine r_val (v := 1) ((congrArg xs (show (1 : Int32).toNatClampNeg = 1 by decide)).trans x1) ?_
  refine k_Vi F w (As := [.int 1]) (rest := []) (a := 0) (by decide) (sh_11 rfl _ _) rfl (c_X11_sources_387 (rfl) (rfl) (rfl) (rfl) (rfl) (rfl) (rfl) (rfl) (rfl) (rfl) (rfl) (rfl) (rfl) (rfl)) gv_L_127 hv_X11_sources ⟨Nat.le_of_ble_eq_true rfl, Nat.le_of_ble_eq_true rfl⟩ hl.1 rfl (Nat.le_of_ble_eq_true rfl) ⟨Nat.le_of_ble_eq_true rfl, Nat.le_of_ble_eq_true rfl⟩ dL_law_1002 (fun r M1 H locs hp w => ?_)
  obtain ⟨rfl, e9⟩ := hp
  refine lv_aload_n hx hb dL_law_1005 rfl (lv_at hl 1 rfl) ?_
  refine lv_aload_n hx hb dL_law_1006 rfl (lv_at hl 3 rfl) ?_
  refine lv_iload_n hx hb dL_law_1007 rfl (lv_at hl 0 rfl) ?_
  refine lv_iconst (v := 1) hx hb dL_law_1008 (by decide) ?_
  refine lv_iadd hx hb dL_law_1009 ?_
  refine r_val (v := 1) (by decide) ?_
  refine va_sld hx hb hX hbl hbA w.2.2.1 (vpi (by decide) (by decide)) dL_law_1010 ?_
  refine r_val (v := 1) ((congrArg xs (show (1 : Int32).toNatClampNeg = 1 by decide)).trans x1) ?_
  refine k_Vi F w (As := [.int 1]) (rest := [.int 3]) (a := 146) (by decide) (sh_12 rfl _ _) rfl (c_X12_sources_393 ((congrFun (e9 146 (by decide)) 5).trans rfl) ((congrFun (e9 147 (by decide)) 0).trans rfl) ((congrFun (e9 148 (by decide)) 0).trans rfl) ((congrFun (e9 147 (by decide)) 1).trans rfl) ((congrFun (e9 148 (by decide)) 1).trans rfl) ((congrFun (e9 147 (by decide)) 2).trans rfl) ((congrFun (e9 148 (by decide)) 2).trans rfl) ((congrFun (e9 147 (by decide)) 3).trans rfl) ((congrFun (e9 148 (by decide)) 3).trans rfl) ((congrFun (e9 147 (by decide)) 4).trans rfl) ((congrFun (e9 148 (by decide)) 4).trans rfl) ((congrFun (e9 147 (by decide)) 5).trans rfl) ((congrFun (e9 148 (by decide)) 5).trans rfl) ((congrFun (e9 147 (by decide)) 6).trans rfl) ((congrFun (e9 148 (by decide)) 6).trans rfl) ((congrFun (e9 147 (by decide)) 7).trans rfl) ((congrFun (e9 148 (by decide)) 7).trans rfl) ((congrFun (e9 147 (by decide)) 8).trans rfl) ((congrFun (e9 148 (by decide)) 8).trans rfl) ((congrFun (e9 147 (by decide)) 9).trans rfl) ((congrFun (e9 148 (by decide)) 9).trans rfl) ((congrFun (e9 147 (by decide)) 10).trans rfl) ((congrFun (e9 148 (by decide)) 10).trans rfl) ((congrFun (e9 147 (by decide)) 11).trans rfl) ((congrFun (e9 148 (by decide)) 11).trans rfl) ((congrFun (e9 147 (by decide)) 12).trans rfl) ((congrFun (e9 148 (by decide)) 12).trans rfl) ((congrFun (e9 147 (by decide)) 13).trans rfl) ((congrFun (e9 148 (by decide)) 13).trans rfl) ((congrFun (e9 147 (by decide)) 14).trans rfl) ((congrFun (e9 148 (by decide)) 14).trans rfl) ((congrFun (e9 147 (by decide)) 15).trans rfl) ((congrFun (e9 148 (by decide)) 15).trans rfl) ((congrFun (e9 147 (by decide)) 16).trans rfl) ((congrFun (e9 148 (by decide)) 16).trans rfl) ((congrFun (e9 147 (by decide)) 17).trans rfl) ((congrFun (e9 148 (by decide)) 17).trans rfl) ((congrFun (e9 147 (by decide)) 18).trans rfl) ((congrFun (e9 148 (by decide)) 18).trans rfl) ((congrFun (e9 147 (by decide)) 19).trans rfl) ((congrFun (e9 148 (by decide)) 19).trans rfl) ((congrFun (e9 147 (by decide)) 20).trans rfl) ((congrFun (e9 148 (by decide)) 20).trans rfl) ((congrFun (e9 147 (by decide)) 21).trans rfl) ((congrFun (e9 148 (by decide)) 21).trans rfl) ((congrFun (e9 147 (by decide)) 22).trans rfl) ((congrFun (e9 148 (by decide)) 22).trans rfl) ((congrFun (e9 147 (by decide)) 23).trans rfl) ((congrFun (e9 148 (by decide)) 23).trans rfl) ((congrFun (e9 147 (by decide)) 24).trans rfl) ((congrFun (e9 148 (by decide)) 24).trans rfl) ((congrFun (e9 147 (by decide)) 25).trans rfl) ((congrFun (e9 148 (by decide)) 25).trans rfl) ((congrFun (e9 147 (by decide)) 26).trans rfl) ((congrFun (e9 148 (by decide)) 26).trans rfl) ((congrFun (e9 147 (by decide)) 27).trans rfl) ((congrFun (e9 148 (by decide)) 27).trans rfl) ((congrFun (e9 157 (by decide)) 0).trans rfl) ((congrFun (e9 157 (by decide)) 1).trans rfl) ((congrFun (e9 157 (by decide)) 2).trans rfl) ((congrFun (e9 157 (by decide)) 3).trans rfl) ((congrFun (e9 157 (by decide)) 4).trans rfl) ((congrFun (e9 157 (by decide)) 5).trans rfl) ((congrFun (e9 157 (by decide)) 6).trans rfl) ((congrFun (e9 157 (by decide)) 7).trans rfl) ((congrFun (e9 157 (by decide)) 8).trans rfl) ((congrFun (e9 157 (by decide)) 9).trans rfl) ((congrFun (e9 157 (by decide)) 10).trans rfl) ((congrFun (e9 157 (by decide)) 11).trans rfl) ((congrFun (e9 146 (by decide)) 26).trans rfl)) gv_L_130 hv_X12_sources ⟨Nat.le_of_ble_eq_true rfl, Nat.le_of_ble_eq_true rfl⟩ hl.1 rfl (Nat.le_of_ble_eq_true rfl) ⟨Nat.le_of_ble_eq_true rfl, Nat.le_of_ble_eq_true rfl⟩ dL_law_1011 (fun r M1 H locs hp w => ?_)
  obtain rfl := hp
  refine lv_icmp_eq (tgt := 1065) hx hb dL_law_1014 (by decide) (fun _ => ?_) (fun c1 => absurd c1 (by decide))
  exact kk _ _ _ w
theorem dX9_insertTone_32 : decode cX9_insertTone 32 = .ok (.aload_n 0, 1) := by decide +kernel
theorem dX9_insertTone_33 : decode cX9_insertTone 33 = .ok (.getfield 24, 3) := by decide +kernel
theorem dX9_insertTone_36 : decode cX9_insertTone 36 = .ok (.iload_n 3, 1) := by decide +kernel
theorem dX9_insertTone_37 : decode cX9_insertTone 37 = .ok (.aload_n 0, 1) := by decide +kernel
theorem dX9_insertTone_38 : decode cX9_insertTone 38 = .ok (.getfield 24, 3) := by decide +kernel
theorem dX9_insertTone_41 : decode cX9_insertTone 41 = .ok (.iload_n 3, 1) := by decide +kernel
theorem dX9_insertTone_42 : decode cX9_insertTone 42 = .ok (.iconst 1, 1) := by decide +kernel
theorem dX9_insertTone_43 : decode cX9_insertTone 43 = .ok (.isub, 1) := by decide +kernel
theorem dX9_insertTone_44 : decode cX9_insertTone 44 = .ok (.iaload, 1) := by decide +kernel
theorem dX9_insertTone_45 : decode cX9_insertTone 45 = .ok (.iastore, 1) := by decide +kernel
theorem dX9_insertTone_46 : decode cX9_insertTone 46 = .ok (.aload_n 0, 1) := by decide +kernel
theorem dX9_insertTone_47 : decode cX9_insertTone 47 = .ok (.getfield 28, 3) := by decide +kernel
theorem dX9_insertTone_50 : decode cX9_insertTone 50 = .ok (.iload_n 3, 1) := by decide +kernel
theorem dX9_insertTone_51 : decode cX9_insertTone 51 = .ok (.aload_n 0, 1) := by decide +kernel
theorem dX9_insertTone_52 : decode cX9_insertTone 52 = .ok (.getfield 28, 3) := by decide +kernel
theorem dX9_insertTone_55 : decode cX9_insertTone 55 = .ok (.iload_n 3, 1) := by decide +kernel
theorem dX9_insertTone_56 : decode cX9_insertTone 56 = .ok (.iconst 1, 1) := by decide +kernel
theorem dX9_insertTone_57 : decode cX9_insertTone 57 = .ok (.isub, 1) := by decide +kernel
theorem dX9_insertTone_58 : decode cX9_insertTone 58 = .ok (.iaload, 1) := by decide +kernel
theorem dX9_insertTone_59 : decode cX9_insertTone 59 = .ok (.iastore, 1) := by decide +kernel
theorem dX9_insertTone_60 : decode cX9_insertTone 60 = .ok (.iinc 3 (-1), 3) := by decide +kernel
theorem dX9_insertTone_63 : decode cX9_insertTone 63 = .ok (.goto (-36), 3) := by decide +kernel
set_option maxRecDepth 4000 in
theorem c_X9_insertTone_394 {l : Launch} {D : va_G} {B : Nat} {cy : Nat → ClassId} {M : Mem} (h0 : M.1 138 0 = 1) (h1 : M.1 140 0 = 0) (h2 : M.1 140 1 = 0) : Cv l D B cy yX9_insertTone cX9_insertTone 4 0 0 [.ref (B + 138), .int 0, .int 0] M (fun M1 => ∃ f, M1 = sA (st M 138 0 2) 139 f) := by
  refine s_any (by decide) (Nat.le_of_ble_eq_true rfl) ?_
  intro p e s m below meth c ls F hr hlocks w hl
  have F : CallFix p m c cX9_insertTone 4 s _ TB RX9 := F
  have hx := F.1
  have hb := F.2.1
  have hl : lv_has ls 4 [(0, .ref (B + 138)), (1, .int 0), (2, .int 0)] := hl
  refine lv_iload_n hx hb dX9_insertTone_0 rfl (lv_at hl 1 rfl) ?_
  refine lv_if_lt (tgt := 21) hx hb dX9_insertTone_1 (by decide) (fun c1 => absurd c1 (by decide)) (fun _ => ?_)
  refine lv_iload_n hx hb dX9_insertTone_4 rfl (lv_at hl 1 rfl) ?_
  refine lv_aload_n hx hb dX9_insertTone_5 rfl (lv_at hl 0 rfl) ?_
  refine f_9_0 F w (a := 138) rfl tb_63 dX9_insertTone_6 ?_
  refine r_val (v := 1) (h0) ?_
  refine lv_icmp_gt (tgt := 21) hx hb dX9_insertTone_9 (by decide) (fun c1 => absurd c1 (by decide)) (fun _ => ?_)
  refine lv_aload_n hx hb dX9_insertTone_12 rfl (lv_at hl 0 rfl) ?_
  refine f_9_0 F w (a := 138) rfl tb_63 dX9_insertTone_13 ?_
  refine r_val (v := 1) (h0) ?_
  refine lv_bipush (v := 12) hx hb dX9_insertTone_16 (by decide) ?_
  refine lv_icmp_lt (tgt := 22) hx hb dX9_insertTone_18 (by decide) (fun _ => ?_) (fun c1 => absurd c1 (by decide))
  refine lv_aload_n hx hb dX9_insertTone_22 rfl (lv_at hl 0 rfl) ?_
  refine f_9_0 F w (a := 138) rfl tb_63 dX9_insertTone_23 ?_
  refine r_val (v := 1) (h0) ?_
  refine lv_istore_n (lv' := [(3, .int 1), (0, .ref (B + 138)), (1, .int 0), (2, .int 0)]) hx hb dX9_insertTone_26 rfl hl (by decide) rfl (fun ls hl => ?_)
  refine lv_iload_n hx hb dX9_insertTone_27 rfl (lv_at hl 0 rfl) ?_
  refine lv_iload_n hx hb dX9_insertTone_28 rfl (lv_at hl 2 rfl) ?_
  refine lv_icmp_le (tgt := 66) hx hb dX9_insertTone_29 (by decide) (fun c1 => absurd c1 (by decide)) (fun _ => ?_)
  refine lv_aload_n hx hb dX9_insertTone_32 rfl (lv_at hl 1 rfl) ?_
  refine f_9_4 F w (a := 138) rfl tb_67 dX9_insertTone_33 ?_
  refine lv_iload_n hx hb dX9_insertTone_36 rfl (lv_at hl 0 rfl) ?_
  refine lv_aload_n hx hb dX9_insertTone_37 rfl (lv_at hl 1 rfl) ?_
  refine f_9_4 F w (a := 138) rfl tb_67 dX9_insertTone_38 ?_
  refine lv_iload_n hx hb dX9_insertTone_41 rfl (lv_at hl 0 rfl) ?_
  refine lv_iconst (v := 1) hx hb dX9_insertTone_42 (by decide) ?_
  refine lv_isub hx hb dX9_insertTone_43 ?_
  refine r_val (v := 0) (by decide) ?_
  refine g_iald F w (a := 139) rfl (j := 0) ⟨by decide, by decide⟩ (by decide) dX9_insertTone_44 ?_
  refine lv_topi (fun v21 _ => ?_)
  refine g_iast F w (a := 139) rfl (j := 1) ⟨by decide, by decide⟩ (by decide) dX9_insertTone_45 (fun H locs w => ?_)
  obtain ⟨f22, w⟩ := hv_some w
  refine lv_aload_n hx hb dX9_insertTone_46 rfl (lv_at hl 1 rfl) ?_
  refine f_9_5 F w (a := 138) rfl tb_68 dX9_insertTone_47 ?_
  refine lv_iload_n hx hb dX9_insertTone_50 rfl (lv_at hl 0 rfl) ?_
  refine lv_aload_n hx hb dX9_insertTone_51 rfl (lv_at hl 1 rfl) ?_
  refine f_9_5 F w (a := 138) rfl tb_68 dX9_insertTone_52 ?_
  refine lv_iload_n hx hb dX9_insertTone_55 rfl (lv_at hl 0 rfl) ?_
  refine lv_iconst (v := 1) hx hb dX9_insertTone_56 (by decide) ?_
  refine lv_isub hx hb dX9_insertTone_57 ?_
  refine r_val (v := 0) (by decide) ?_
  refine g_iald F w (a := 140) rfl (j := 0) ⟨by decide, by decide⟩ (by decide) dX9_insertTone_58 ?_
  refine r_val (v := 0) ((sA_ne (by decide)).trans h1) ?_
  refine g_iast F w (a := 140) rfl (j := 1) ⟨by decide, by decide⟩ (by decide) dX9_insertTone_59 (fun H locs w => ?_)
  rw [st_same ((sA_ne (by decide)).trans h2)] at w
  refine lv_iinc (v := 0) (lv' := [(3, .int 0), (0, .ref (B + 138)), (1, .int 0), (2, .int 0)]) hx hb dX9_insertTone_60 hl (k := 0) rfl (by decide) (by decide) rfl (fun ls hl => ?_)
  refine lv_goto (tgt := 27) hx hb dX9_insertTone_63 (by decide) ?_
  refine lv_iload_n hx hb dX9_insertTone_27 rfl (lv_at hl 0 rfl) ?_
  refine lv_iload_n hx hb dX9_insertTone_28 rfl (lv_at hl 2 rfl) ?_
  refine lv_icmp_le (tgt := 66) hx hb dX9_insertTone_29 (by decide) (fun _ => ?_) (fun c1 => absurd c1 (by decide))
  refine lv_aload_n hx hb dX9_insertTone_66 rfl (lv_at hl 1 rfl) ?_
  refine f_9_4 F w (a := 138) rfl tb_67 dX9_insertTone_67 ?_
  refine lv_iload_n hx hb dX9_insertTone_70 rfl (lv_at hl 2 rfl) ?_
  refine lv_iload_n hx hb dX9_insertTone_71 rfl (lv_at hl 3 rfl) ?_
  refine g_iast F w (a := 139) rfl (j := 0) ⟨by decide, by decide⟩ (by decide) dX9_insertTone_72 (fun H locs w => ?_)
  obtain ⟨f23, w⟩ := hv_some w
  refine lv_aload_n hx hb dX9_insertTone_73 rfl (lv_at hl 1 rfl) ?_
  refine f_9_5 F w (a := 138) rfl tb_68 dX9_insertTone_74 ?_
  refine lv_iload_n hx hb dX9_insertTone_77 rfl (lv_at hl 2 rfl) ?_
  refine lv_iconst (v := 0) hx hb dX9_insertTone_78 (by decide) ?_
  refine g_iast F w (a := 140) rfl (j := 0) ⟨by decide, by decide⟩ (by decide) dX9_insertTone_79 (fun H locs w => ?_)
  rw [st_same ((sA_ne (by decide)).trans ((sA_ne (by decide)).trans h1))] at w
  refine lv_aload_n hx hb dX9_insertTone_80 rfl (lv_at hl 1 rfl) ?_
  refine lv_dup hx hb dX9_insertTone_81 rfl ?_
  refine f_9_0 F w (a := 138) rfl tb_63 dX9_insertTone_82 ?_
  refine r_val (v := 1) ((sA_ne (by decide)).trans ((sA_ne (by decide)).trans h0)) ?_
  refine lv_iconst (v := 1) hx hb dX9_insertTone_85 (by decide) ?_
  refine lv_iadd hx hb dX9_insertTone_86 ?_
  refine r_val (v := 2) (by decide) ?_
  refine u_9_0 F w (a := 138) rfl tb_63 dX9_insertTone_87 (fun H locs w => ?_)
  exact e_v F w hr hlocks ⟨_, hv_ext (a := 139) (fun b hb => by simp [st, sA, hb]) rfl⟩ dX9_insertTone_90
set_option maxRecDepth 4000 in
theorem c_X6_layRow_395 {l : Launch} {D : va_G} {B : Nat} {cy : Nat → ClassId} {M : Mem} (h0 : M.1 138 0 = 0) (h1 : M.1 138 1 = 0) (h2 : M.1 138 2 = 0) (h3 : M.1 138 3 = 0) (h4 : M.1 44 1 = 0) (h5 : M.1 44 2 = 0) (h6 : M.1 44 3 = 0) (h7 : M.1 140 0 = 0) (h8 : M.1 140 1 = 0) : Cv l D B cy yX6_layRow cX6_layRow 6 1 23 [.ref (B + 135), .ref (B + 44), .int 2, .int 0] M (fun M1 => ∃ f, M1 = sA (st (st M 138 0 1) 138 0 2) 139 f) := by
  refine s_any (by decide) (Nat.le_of_ble_eq_true rfl) ?_
  intro p e s m below meth c ls F hr hlocks w hl
  have F : CallFix p m c cX6_layRow 6 s _ TB RX6 := F
  have hx := F.1
  have hb := F.2.1
  have hl : lv_has ls 6 [(0, .ref (B + 135)), (1, .ref (B + 44)), (2, .int 2), (3, .int 0)] := hl
  refine lv_aload_n hx hb dX6_layRow_0 rfl (lv_at hl 0 rfl) ?_
  refine f_6_3 F w (a := 135) rfl tb_111 dX6_layRow_1 ?_
  refine x_Vv F w (As := []) (rest := []) (a := 138) (by decide) (sh_9 rfl _ _) rfl (c_X9_clear_369 (h0) (h1) (h2) (h3)) gv_X6_62 hv_X9_clear ⟨Nat.le_of_ble_eq_true rfl, Nat.le_of_ble_eq_true rfl⟩ hl.1 rfl (Nat.le_of_ble_eq_true rfl) ⟨Nat.zero_le _, Nat.zero_le _⟩ dX6_layRow_4 (fun H locs w => ?_)
  refine lv_aload_n hx hb dX6_layRow_7 rfl (lv_at hl 0 rfl) ?_
  refine f_6_3 F w (a := 135) rfl tb_111 dX6_layRow_8 ?_
  refine lv_aload_n hx hb dX6_layRow_11 rfl (lv_at hl 1 rfl) ?_
  refine x_Vv F w (As := [.ref (B + 44)]) (rest := []) (a := 138) (by decide) (sh_9 rfl _ _) rfl (c_X9_copySyllables_370 (h4) (h1) (h5) (h2) (h6) (h3)) gv_X6_65 hv_X9_copySyllables ⟨Nat.le_of_ble_eq_true rfl, Nat.le_of_ble_eq_true rfl⟩ hl.1 rfl (Nat.le_of_ble_eq_true rfl) ⟨Nat.zero_le _, Nat.zero_le _⟩ dX6_layRow_12 (fun H locs w => ?_)
  refine lv_iload_n hx hb dX6_layRow_15 rfl (lv_at hl 3 rfl) ?_
  refine lv_istore (lv' := [(4, .int 0), (0, .ref (B + 135)), (1, .ref (B + 44)), (2, .int 2), (3, .int 0)]) hx hb dX6_layRow_16 hl (by decide) rfl (fun ls hl => ?_)
  refine lv_iconst (v := 0) hx hb dX6_layRow_18 (by decide) ?_
  refine lv_istore (lv' := [(5, .int 0), (4, .int 0), (0, .ref (B + 135)), (1, .ref (B + 44)), (2, .int 2), (3, .int 0)]) hx hb dX6_layRow_19 hl (by decide) rfl (fun ls hl => ?_)
  refine lv_iload hx hb dX6_layRow_21 (lv_at hl 0 rfl) ?_
  refine lv_iload_n hx hb dX6_layRow_23 rfl (lv_at hl 4 rfl) ?_
  refine lv_icmp_ge (tgt := 51) hx hb dX6_layRow_24 (by decide) (fun c1 => absurd c1 (by decide)) (fun _ => ?_)
  refine lv_aload_n hx hb dX6_layRow_27 rfl (lv_at hl 2 rfl) ?_
  refine f_6_3 F w (a := 135) rfl tb_111 dX6_layRow_28 ?_
  refine lv_iconst (v := 0) hx hb dX6_layRow_31 (by decide) ?_
  refine lv_iload hx hb dX6_layRow_32 (lv_at hl 1 rfl) ?_
  refine lv_iconst (v := 3) hx hb dX6_layRow_34 (by decide) ?_
  refine lv_irem hx hb dX6_layRow_35 (by decide) ?_
  refine r_val (v := 0) (by decide) ?_
  refine k_Vv F w (As := [.int 0, .int 0]) (rest := []) (a := 138) (by decide) (sh_9 rfl _ _) rfl (c_X9_insertTone_379 (h0) (h7)) gv_X6_69 hv_X9_insertTone ⟨Nat.le_of_ble_eq_true rfl, Nat.le_of_ble_eq_true rfl⟩ hl.1 rfl (Nat.le_of_ble_eq_true rfl) ⟨Nat.zero_le _, Nat.zero_le _⟩ dX6_layRow_36 (fun M1 H locs hp w => ?_)
  obtain ⟨f21, hf⟩ := hp
  rw [hf] at w
  clear hf
  refine lv_iload hx hb dX6_layRow_39 (lv_at hl 1 rfl) ?_
  refine lv_iconst (v := 3) hx hb dX6_layRow_41 (by decide) ?_
  refine lv_idiv hx hb dX6_layRow_42 (by decide) ?_
  refine r_val (v := 0) (by decide) ?_
  refine lv_istore (lv' := [(4, .int 0), (5, .int 0), (0, .ref (B + 135)), (1, .ref (B + 44)), (2, .int 2), (3, .int 0)]) hx hb dX6_layRow_43 hl (by decide) rfl (fun ls hl => ?_)
  refine lv_iinc (v := 1) (lv' := [(5, .int 1), (4, .int 0), (0, .ref (B + 135)), (1, .ref (B + 44)), (2, .int 2), (3, .int 0)]) hx hb dX6_layRow_45 hl (k := 1) rfl (by decide) (by decide) rfl (fun ls hl => ?_)
  refine lv_goto (tgt := 21) hx hb dX6_layRow_48 (by decide) ?_
  refine lv_iload hx hb dX6_layRow_21 (lv_at hl 0 rfl) ?_
  refine lv_iload_n hx hb dX6_layRow_23 rfl (lv_at hl 4 rfl) ?_
  refine lv_icmp_ge (tgt := 51) hx hb dX6_layRow_24 (by decide) (fun c1 => absurd c1 (by decide)) (fun _ => ?_)
  refine lv_aload_n hx hb dX6_layRow_27 rfl (lv_at hl 2 rfl) ?_
  refine f_6_3 F w (a := 135) rfl tb_111 dX6_layRow_28 ?_
  refine lv_iconst (v := 0) hx hb dX6_layRow_31 (by decide) ?_
  refine lv_iload hx hb dX6_layRow_32 (lv_at hl 1 rfl) ?_
  refine lv_iconst (v := 3) hx hb dX6_layRow_34 (by decide) ?_
  refine lv_irem hx hb dX6_layRow_35 (by decide) ?_
  refine r_val (v := 0) (by decide) ?_
  refine k_Vv F w (As := [.int 0, .int 0]) (rest := []) (a := 138) (by decide) (sh_9 rfl _ _) rfl (c_X9_insertTone_394 ((sA_ne (by decide)).trans st_at) ((sA_ne (by decide)).trans ((st_ne (by decide)).trans h7)) ((sA_ne (by decide)).trans ((st_ne (by decide)).trans h8))) gv_X6_69 hv_X9_insertTone ⟨Nat.le_of_ble_eq_true rfl, Nat.le_of_ble_eq_true rfl⟩ hl.1 rfl (Nat.le_of_ble_eq_true rfl) ⟨Nat.zero_le _, Nat.zero_le _⟩ dX6_layRow_36 (fun M1 H locs hp w => ?_)
  obtain ⟨f22, hf⟩ := hp
  rw [hf] at w
  clear hf
  refine lv_iload hx hb dX6_layRow_39 (lv_at hl 1 rfl) ?_
  refine lv_iconst (v := 3) hx hb dX6_layRow_41 (by decide) ?_
  refine lv_idiv hx hb dX6_layRow_42 (by decide) ?_
  refine r_val (v := 0) (by decide) ?_
  refine lv_istore (lv' := [(4, .int 0), (5, .int 1), (0, .ref (B + 135)), (1, .ref (B + 44)), (2, .int 2), (3, .int 0)]) hx hb dX6_layRow_43 hl (by decide) rfl (fun ls hl => ?_)
  refine lv_iinc (v := 2) (lv' := [(5, .int 2), (4, .int 0), (0, .ref (B + 135)), (1, .ref (B + 44)), (2, .int 2), (3, .int 0)]) hx hb dX6_layRow_45 hl (k := 1) rfl (by decide) (by decide) rfl (fun ls hl => ?_)
  refine lv_goto (tgt := 21) hx hb dX6_layRow_48 (by decide) ?_
  refine lv_iload hx hb dX6_layRow_21 (lv_at hl 0 rfl) ?_
  refine lv_iload_n hx hb dX6_layRow_23 rfl (lv_at hl 4 rfl) ?_
  refine lv_icmp_ge (tgt := 51) hx hb dX6_layRow_24 (by decide) (fun _ => ?_) (fun c1 => absurd c1 (by decide))
  exact e_v F w hr hlocks ⟨_, hv_ext (a := 139) (fun b hb => by simp [st, sA, hb]) rfl⟩ dX6_layRow_51
set_option maxRecDepth 4000 in
theorem c_X9_kindsRead_396 {l : Launch} {D : va_G} {B : Nat} {cy : Nat → ClassId} {M : Mem} (h0 : M.1 138 0 = 2) (h1 : M.1 140 0 = 0) (h2 : M.1 140 1 = 0) : Cl l D B cy yX9_kindsRead cX9_kindsRead 5 0 0 [.ref (B + 138)] M (fun r M1 => r = 0 ∧ M1 = M) := by
  refine s_any (by decide) (Nat.le_of_ble_eq_true rfl) ?_
  intro p e s m below meth c ls F hr hlocks w hl
  have F : CallFix p m c cX9_kindsRead 5 s _ TB RX9 := F
  have hx := F.1
  have hb := F.2.1
  have hl : lv_has ls 5 [(0, .ref (B + 138))] := hl
  refine lv_lconst (v := 0) hx hb dX9_kindsRead_0 (by decide) ?_
  refine lv_lstore_n (lv' := [(1, .long 0), (0, .ref (B + 138))]) hx hb dX9_kindsRead_1 rfl hl (by decide) rfl (fun ls hl => ?_)
  refine lv_iconst (v := 0) hx hb dX9_kindsRead_2 (by decide) ?_
  refine lv_istore_n (lv' := [(3, .int 0), (1, .long 0), (0, .ref (B + 138))]) hx hb dX9_kindsRead_3 rfl hl (by decide) rfl (fun ls hl => ?_)
  refine lv_iload_n hx hb dX9_kindsRead_4 rfl (lv_at hl 0 rfl) ?_
  refine lv_aload_n hx hb dX9_kindsRead_5 rfl (lv_at hl 2 rfl) ?_
  refine f_9_0 F w (a := 138) rfl tb_63 dX9_kindsRead_6 ?_
  refine r_val (v := 2) (h0) ?_
  refine lv_icmp_ge (tgt := 59) hx hb dX9_kindsRead_9 (by decide) (fun c1 => absurd c1 (by decide)) (fun _ => ?_)
  refine lv_aload_n hx hb dX9_kindsRead_12 rfl (lv_at hl 2 rfl) ?_
  refine f_9_5 F w (a := 138) rfl tb_68 dX9_kindsRead_13 ?_
  refine lv_iload_n hx hb dX9_kindsRead_16 rfl (lv_at hl 0 rfl) ?_
  refine g_iald F w (a := 140) rfl (j := 0) ⟨by decide, by decide⟩ (by decide) dX9_kindsRead_17 ?_
  refine r_val (v := 0) (h1) ?_
  refine lv_istore (lv' := [(4, .int 0), (3, .int 0), (1, .long 0), (0, .ref (B + 138))]) hx hb dX9_kindsRead_18 hl (by decide) rfl (fun ls hl => ?_)
  refine lv_iload hx hb dX9_kindsRead_20 (lv_at hl 0 rfl) ?_
  refine lv_if_eq (tgt := 53) hx hb dX9_kindsRead_22 (by decide) (fun _ => ?_) (fun c1 => absurd c1 (by decide))
  refine lv_iinc (v := 1) (lv' := [(3, .int 1), (4, .int 0), (1, .long 0), (0, .ref (B + 138))]) hx hb dX9_kindsRead_53 hl (k := 1) rfl (by decide) (by decide) rfl (fun ls hl => ?_)
  refine lv_goto (tgt := 4) hx hb dX9_kindsRead_56 (by decide) ?_
  refine lv_iload_n hx hb dX9_kindsRead_4 rfl (lv_at hl 0 rfl) ?_
  refine lv_aload_n hx hb dX9_kindsRead_5 rfl (lv_at hl 3 rfl) ?_
  refine f_9_0 F w (a := 138) rfl tb_63 dX9_kindsRead_6 ?_
  refine r_val (v := 2) (h0) ?_
  refine lv_icmp_ge (tgt := 59) hx hb dX9_kindsRead_9 (by decide) (fun c1 => absurd c1 (by decide)) (fun _ => ?_)
  refine lv_aload_n hx hb dX9_kindsRead_12 rfl (lv_at hl 3 rfl) ?_
  refine f_9_5 F w (a := 138) rfl tb_68 dX9_kindsRead_13 ?_
  refine lv_iload_n hx hb dX9_kindsRead_16 rfl (lv_at hl 0 rfl) ?_
  refine g_iald F w (a := 140) rfl (j := 1) ⟨by decide, by decide⟩ (by decide) dX9_kindsRead_17 ?_
  refine r_val (v := 0) (h2) ?_
  refine lv_istore (lv' := [(4, .int 0), (3, .int 1), (1, .long 0), (0, .ref (B + 138))]) hx hb dX9_kindsRead_18 hl (by decide) rfl (fun ls hl => ?_)
  refine lv_iload hx hb dX9_kindsRead_20 (lv_at hl 0 rfl) ?_
  refine lv_if_eq (tgt := 53) hx hb dX9_kindsRead_22 (by decide) (fun _ => ?_) (fun c1 => absurd c1 (by decide))
  refine lv_iinc (v := 2) (lv' := [(3, .int 2), (4, .int 0), (1, .long 0), (0, .ref (B + 138))]) hx hb dX9_kindsRead_53 hl (k := 1) rfl (by decide) (by decide) rfl (fun ls hl => ?_)
  refine lv_goto (tgt := 4) hx hb dX9_kindsRead_56 (by decide) ?_
  refine lv_iload_n hx hb dX9_kindsRead_4 rfl (lv_at hl 0 rfl) ?_
  refine lv_aload_n hx hb dX9_kindsRead_5 rfl (lv_at hl 3 rfl) ?_
  refine f_9_0 F w (a := 138) rfl tb_63 dX9_kindsRead_6 ?_
  refine r_val (v := 2) (h0) ?_
  refine lv_icmp_ge (tgt := 59) hx hb dX9_kindsRead_9 (by decide) (fun _ => ?_) (fun c1 => absurd c1 (by decide))
  refine lv_lload_n hx hb dX9_kindsRead_59 rfl (lv_at hl 2 rfl) ?_
  exact e_l F w hr hlocks ⟨rfl, rfl⟩ dX9_kindsRead_60
set_option maxRecDepth 4000 in
theorem c_X9_linesRead_397 {l : Launch} {D : va_G} {B : Nat} {cy : Nat → ClassId} {M : Mem} (h0 : M.1 138 0 = 2) (h1 : M.1 140 0 = 0) (h2 : M.1 140 1 = 0) : Cl l D B cy yX9_linesRead cX9_linesRead 5 0 0 [.ref (B + 138)] M (fun r M1 => r = 0 ∧ M1 = M) := by
  refine s_any (by decide) (Nat.le_of_ble_eq_true rfl) ?_
  intro p e s m below meth c ls F hr hlocks w hl
  have F : CallFix p m c cX9_linesRead 5 s _ TB RX9 := F
  have hx := F.1
  have hb := F.2.1
  have hl : lv_has ls 5 [(0, .ref (B + 138))] := hl
  refine lv_lconst (v := 0) hx hb dX9_linesRead_0 (by decide) ?_
  refine lv_lstore_n (lv' := [(1, .long 0), (0, .ref (B + 138))]) hx hb dX9_linesRead_1 rfl hl (by decide) rfl (fun ls hl => ?_)
  refine lv_iconst (v := 0) hx hb dX9_linesRead_2 (by decide) ?_
  refine lv_istore_n (lv' := [(3, .int 0), (1, .long 0), (0, .ref (B + 138))]) hx hb dX9_linesRead_3 rfl hl (by decide) rfl (fun ls hl => ?_)
  refine lv_iload_n hx hb dX9_linesRead_4 rfl (lv_at hl 0 rfl) ?_
  refine lv_aload_n hx hb dX9_linesRead_5 rfl (lv_at hl 2 rfl) ?_
  refine f_9_0 F w (a := 138) rfl tb_63 dX9_linesRead_6 ?_
  refine r_val (v := 2) (h0) ?_
  refine lv_icmp_ge (tgt := 55) hx hb dX9_linesRead_9 (by decide) (fun c1 => absurd c1 (by decide)) (fun _ => ?_)
  refine lv_aload_n hx hb dX9_linesRead_12 rfl (lv_at hl 2 rfl) ?_
  refine f_9_5 F w (a := 138) rfl tb_68 dX9_linesRead_13 ?_
  refine lv_iload_n hx hb dX9_linesRead_16 rfl (lv_at hl 0 rfl) ?_
  refine g_iald F w (a := 140) rfl (j := 0) ⟨by decide, by decide⟩ (by decide) dX9_linesRead_17 ?_
  refine r_val (v := 0) (h1) ?_
  refine lv_istore (lv' := [(4, .int 0), (3, .int 0), (1, .long 0), (0, .ref (B + 138))]) hx hb dX9_linesRead_18 hl (by decide) rfl (fun ls hl => ?_)
  refine lv_iload hx hb dX9_linesRead_20 (lv_at hl 0 rfl) ?_
  refine lv_if_eq (tgt := 49) hx hb dX9_linesRead_22 (by decide) (fun _ => ?_) (fun c1 => absurd c1 (by decide))
  refine lv_iinc (v := 1) (lv' := [(3, .int 1), (4, .int 0), (1, .long 0), (0, .ref (B + 138))]) hx hb dX9_linesRead_49 hl (k := 1) rfl (by decide) (by decide) rfl (fun ls hl => ?_)
  refine lv_goto (tgt := 4) hx hb dX9_linesRead_52 (by decide) ?_
  refine lv_iload_n hx hb dX9_linesRead_4 rfl (lv_at hl 0 rfl) ?_
  refine lv_aload_n hx hb dX9_linesRead_5 rfl (lv_at hl 3 rfl) ?_
  refine f_9_0 F w (a := 138) rfl tb_63 dX9_linesRead_6 ?_
  refine r_val (v := 2) (h0) ?_
  refine lv_icmp_ge (tgt := 55) hx hb dX9_linesRead_9 (by decide) (fun c1 => absurd c1 (by decide)) (fun _ => ?_)
  refine lv_aload_n hx hb dX9_linesRead_12 rfl (lv_at hl 3 rfl) ?_
  refine f_9_5 F w (a := 138) rfl tb_68 dX9_linesRead_13 ?_
  refine lv_iload_n hx hb dX9_linesRead_16 rfl (lv_at hl 0 rfl) ?_
  refine g_iald F w (a := 140) rfl (j := 1) ⟨by decide, by decide⟩ (by decide) dX9_linesRead_17 ?_
  refine r_val (v := 0) (h2) ?_
  refine lv_istore (lv' := [(4, .int 0), (3, .int 1), (1, .long 0), (0, .ref (B + 138))]) hx hb dX9_linesRead_18 hl (by decide) rfl (fun ls hl => ?_)
  refine lv_iload hx hb dX9_linesRead_20 (lv_at hl 0 rfl) ?_
  refine lv_if_eq (tgt := 49) hx hb dX9_linesRead_22 (by decide) (fun _ => ?_) (fun c1 => absurd c1 (by decide))
  refine lv_iinc (v := 2) (lv' := [(3, .int 2), (4, .int 0), (1, .long 0), (0, .ref (B + 138))]) hx hb dX9_linesRead_49 hl (k := 1) rfl (by decide) (by decide) rfl (fun ls hl => ?_)
  refine lv_goto (tgt := 4) hx hb dX9_linesRead_52 (by decide) ?_
  refine lv_iload_n hx hb dX9_linesRead_4 rfl (lv_at hl 0 rfl) ?_
  refine lv_aload_n hx hb dX9_linesRead_5 rfl (lv_at hl 3 rfl) ?_
  refine f_9_0 F w (a := 138) rfl tb_63 dX9_linesRead_6 ?_
  refine r_val (v := 2) (h0) ?_
  refine lv_icmp_ge (tgt := 55) hx hb dX9_linesRead_9 (by decide) (fun _ => ?_) (fun c1 => absurd c1 (by decide))
  refine lv_lload_n hx hb dX9_linesRead_55 rfl (lv_at hl 2 rfl) ?_
  exact e_l F w hr hlocks ⟨rfl, rfl⟩ dX9_linesRead_56
set_option maxRecDepth 4000 in
theorem c_X9_clear_398 {l : Launch} {D : va_G} {B : Nat} {cy : Nat → ClassId} {M : Mem} (h0 : M.1 138 0 = 2) (h1 : M.1 138 1 = 0) (h2 : M.1 138 2 = 0) (h3 : M.1 138 3 = 0) : Cv l D B cy yX9_clear cX9_clear 1 0 0 [.ref (B + 138)] M (fun M1 => M1 = (st M 138 0 0)) := by
  refine s_any (by decide) (Nat.le_of_ble_eq_true rfl) ?_
  intro p e s m below meth c ls F hr hlocks w hl
  have F : CallFix p m c cX9_clear 1 s _ TB RX9 := F
  have hx := F.1
  have hb := F.2.1
  have hl : lv_has ls 1 [(0, .ref (B + 138))] := hl
  refine lv_aload_n hx hb dX9_clear_0 rfl (lv_at hl 0 rfl) ?_
  refine lv_iconst (v := 0) hx hb dX9_clear_1 (by decide) ?_
  refine u_9_0 F w (a := 138) rfl tb_63 dX9_clear_2 (fun H locs w => ?_)
  refine lv_aload_n hx hb dX9_clear_5 rfl (lv_at hl 0 rfl) ?_
  refine lv_iconst (v := 0) hx hb dX9_clear_6 (by decide) ?_
  refine u_9_1 F w (a := 138) rfl tb_64 dX9_clear_7 (fun H locs w => ?_)
  rw [st_same ((st_ne (by decide)).trans h1)] at w
  refine lv_aload_n hx hb dX9_clear_10 rfl (lv_at hl 0 rfl) ?_
  refine lv_iconst (v := 0) hx hb dX9_clear_11 (by decide) ?_
  refine u_9_2 F w (a := 138) rfl tb_65 dX9_clear_12 (fun H locs w => ?_)
  rw [st_same ((st_ne (by decide)).trans h2)] at w
  refine lv_aload_n hx hb dX9_clear_15 rfl (lv_at hl 0 rfl) ?_
  refine lv_iconst (v := 0) hx hb dX9_clear_16 (by decide) ?_
  refine u_9_3 F w (a := 138) rfl tb_66 dX9_clear_17 (fun H locs w => ?_)
  rw [st_same ((st_ne (by decide)).trans h3)] at w
  exact e_v F w hr hlocks rfl dX9_clear_20
set_option maxRecDepth 4000 in
theorem c_X9_insertTone_399 {l : Launch} {D : va_G} {B : Nat} {cy : Nat → ClassId} {M : Mem} {p2 : Int32} (h0 : M.1 138 0 = 1) (h1 : M.1 140 0 = 0) (h2 : M.1 140 1 = 0) : Cv l D B cy yX9_insertTone cX9_insertTone 4 0 0 [.ref (B + 138), .int 0, .int p2] M (fun M1 => ∃ f, M1 = sA (st M 138 0 2) 139 f) := by
  refine s_any (by decide) (Nat.le_of_ble_eq_true rfl) ?_
  intro p e s m below meth c ls F hr hlocks w hl
  have F : CallFix p m c cX9_insertTone 4 s _ TB RX9 := F
  have hx := F.1
  have hb := F.2.1
  have hl : lv_has ls 4 [(0, .ref (B + 138)), (1, .int 0), (2, .int p2)] := hl
  refine lv_iload_n hx hb dX9_insertTone_0 rfl (lv_at hl 1 rfl) ?_
  refine lv_if_lt (tgt := 21) hx hb dX9_insertTone_1 (by decide) (fun c1 => absurd c1 (by decide)) (fun _ => ?_)
  refine lv_iload_n hx hb dX9_insertTone_4 rfl (lv_at hl 1 rfl) ?_
  refine lv_aload_n hx hb dX9_insertTone_5 rfl (lv_at hl 0 rfl) ?_
  refine f_9_0 F w (a := 138) rfl tb_63 dX9_insertTone_6 ?_
  refine r_val (v := 1) (h0) ?_
  refine lv_icmp_gt (tgt := 21) hx hb dX9_insertTone_9 (by decide) (fun c1 => absurd c1 (by decide)) (fun _ => ?_)
  refine lv_aload_n hx hb dX9_insertTone_12 rfl (lv_at hl 0 rfl) ?_
  refine f_9_0 F w (a := 138) rfl tb_63 dX9_insertTone_13 ?_
  refine r_val (v := 1) (h0) ?_
  refine lv_bipush (v := 12) hx hb dX9_insertTone_16 (by decide) ?_
  refine lv_icmp_lt (tgt := 22) hx hb dX9_insertTone_18 (by decide) (fun _ => ?_) (fun c1 => absurd c1 (by decide))
  refine lv_aload_n hx hb dX9_insertTone_22 rfl (lv_at hl 0 rfl) ?_
  refine f_9_0 F w (a := 138) rfl tb_63 dX9_insertTone_23 ?_
  refine r_val (v := 1) (h0) ?_
  refine lv_istore_n (lv' := [(3, .int 1), (0, .ref (B + 138)), (1, .int 0), (2, .int p2)]) hx hb dX9_insertTone_26 rfl hl (by decide) rfl (fun ls hl => ?_)
  refine lv_iload_n hx hb dX9_insertTone_27 rfl (lv_at hl 0 rfl) ?_
  refine lv_iload_n hx hb dX9_insertTone_28 rfl (lv_at hl 2 rfl) ?_
  refine lv_icmp_le (tgt := 66) hx hb dX9_insertTone_29 (by decide) (fun c1 => absurd c1 (by decide)) (fun _ => ?_)
  refine lv_aload_n hx hb dX9_insertTone_32 rfl (lv_at hl 1 rfl) ?_
  refine f_9_4 F w (a := 138) rfl tb_67 dX9_insertTone_33 ?_
  refine lv_iload_n hx hb dX9_insertTone_36 rfl (lv_at hl 0 rfl) ?_
  refine lv_aload_n hx hb dX9_insertTone_37 rfl (lv_at hl 1 rfl) ?_
  refine f_9_4 F w (a := 138) rfl tb_67 dX9_insertTone_38 ?_
  refine lv_iload_n hx hb dX9_insertTone_41 rfl (lv_at hl 0 rfl) ?_
  refine lv_iconst (v := 1) hx hb dX9_insertTone_42 (by decide) ?_
  refine lv_isub hx hb dX9_insertTone_43 ?_
  refine r_val (v := 0) (by decide) ?_
  refine g_iald F w (a := 139) rfl (j := 0) ⟨by decide, by decide⟩ (by decide) dX9_insertTone_44 ?_
  refine lv_topi (fun v21 _ => ?_)
  refine g_iast F w (a := 139) rfl (j := 1) ⟨by decide, by decide⟩ (by decide) dX9_insertTone_45 (fun H locs w => ?_)
  obtain ⟨f22, w⟩ := hv_some w
  refine lv_aload_n hx hb dX9_insertTone_46 rfl (lv_at hl 1 rfl) ?_
  refine f_9_5 F w (a := 138) rfl tb_68 dX9_insertTone_47 ?_
  refine lv_iload_n hx hb dX9_insertTone_50 rfl (lv_at hl 0 rfl) ?_
  refine lv_aload_n hx hb dX9_insertTone_51 rfl (lv_at hl 1 rfl) ?_
  refine f_9_5 F w (a := 138) rfl tb_68 dX9_insertTone_52 ?_
  refine lv_iload_n hx hb dX9_insertTone_55 rfl (lv_at hl 0 rfl) ?_
  refine lv_iconst (v := 1) hx hb dX9_insertTone_56 (by decide) ?_
  refine lv_isub hx hb dX9_insertTone_57 ?_
  refine r_val (v := 0) (by decide) ?_
  refine g_iald F w (a := 140) rfl (j := 0) ⟨by decide, by decide⟩ (by decide) dX9_insertTone_58 ?_
  refine r_val (v := 0) ((sA_ne (by decide)).trans h1) ?_
  refine g_iast F w (a := 140) rfl (j := 1) ⟨by decide, by decide⟩ (by decide) dX9_insertTone_59 (fun H locs w => ?_)
  rw [st_same ((sA_ne (by decide)).trans h2)] at w
  refine lv_iinc (v := 0) (lv' := [(3, .int 0), (0, .ref (B + 138)), (1, .int 0), (2, .int p2)]) hx hb dX9_insertTone_60 hl (k := 0) rfl (by decide) (by decide) rfl (fun ls hl => ?_)
  refine lv_goto (tgt := 27) hx hb dX9_insertTone_63 (by decide) ?_
  refine lv_iload_n hx hb dX9_insertTone_27 rfl (lv_at hl 0 rfl) ?_
  refine lv_iload_n hx hb dX9_insertTone_28 rfl (lv_at hl 2 rfl) ?_
  refine lv_icmp_le (tgt := 66) hx hb dX9_insertTone_29 (by decide) (fun _ => ?_) (fun c1 => absurd c1 (by decide))
  refine lv_aload_n hx hb dX9_insertTone_66 rfl (lv_at hl 1 rfl) ?_
  refine f_9_4 F w (a := 138) rfl tb_67 dX9_insertTone_67 ?_
  refine lv_iload_n hx hb dX9_insertTone_70 rfl (lv_at hl 2 rfl) ?_
  refine lv_iload_n hx hb dX9_insertTone_71 rfl (lv_at hl 3 rfl) ?_
  refine g_iast F w (a := 139) rfl (j := 0) ⟨by decide, by decide⟩ (by decide) dX9_insertTone_72 (fun H locs w => ?_)
  obtain ⟨f23, w⟩ := hv_some w
  refine lv_aload_n hx hb dX9_insertTone_73 rfl (lv_at hl 1 rfl) ?_
  refine f_9_5 F w (a := 138) rfl tb_68 dX9_insertTone_74 ?_
  refine lv_iload_n hx hb dX9_insertTone_77 rfl (lv_at hl 2 rfl) ?_
  refine lv_iconst (v := 0) hx hb dX9_insertTone_78 (by decide) ?_
  refine g_iast F w (a := 140) rfl (j := 0) ⟨by decide, by decide⟩ (by decide) dX9_insertTone_79 (fun H locs w => ?_)
  rw [st_same ((sA_ne (by decide)).trans ((sA_ne (by decide)).trans h1))] at w
  refine lv_aload_n hx hb dX9_insertTone_80 rfl (lv_at hl 1 rfl) ?_
  refine lv_dup hx hb dX9_insertTone_81 rfl ?_
  refine f_9_0 F w (a := 138) rfl tb_63 dX9_insertTone_82 ?_
  refine r_val (v := 1) ((sA_ne (by decide)).trans ((sA_ne (by decide)).trans h0)) ?_
  refine lv_iconst (v := 1) hx hb dX9_insertTone_85 (by decide) ?_
  refine lv_iadd hx hb dX9_insertTone_86 ?_
  refine r_val (v := 2) (by decide) ?_
  refine u_9_0 F w (a := 138) rfl tb_63 dX9_insertTone_87 (fun H locs w => ?_)
  exact e_v F w hr hlocks ⟨_, hv_ext (a := 139) (fun b hb => by simp [st, sA, hb]) rfl⟩ dX9_insertTone_90
set_option maxRecDepth 4000 in
theorem c_X6_layRow_400 {l : Launch} {D : va_G} {B : Nat} {cy : Nat → ClassId} {M : Mem} {p3 : Int32} (h0 : M.1 138 0 = 2) (h1 : M.1 138 1 = 0) (h2 : M.1 138 2 = 0) (h3 : M.1 138 3 = 0) (h4 : M.1 44 1 = 0) (h5 : M.1 44 2 = 0) (h6 : M.1 44 3 = 0) (h7 : M.1 140 0 = 0) (h8 : M.1 140 1 = 0) : Cv l D B cy yX6_layRow cX6_layRow 6 1 23 [.ref (B + 135), .ref (B + 44), .int 2, .int p3] M (fun M1 => ∃ f, M1 = sA (st (st (st M 138 0 0) 138 0 1) 138 0 2) 139 f) := by
  refine s_any (by decide) (Nat.le_of_ble_eq_true rfl) ?_
  intro p e s m below meth c ls F hr hlocks w hl
  have F : CallFix p m c cX6_layRow 6 s _ TB RX6 := F
  have hx := F.1
  have hb := F.2.1
  have hl : lv_has ls 6 [(0, .ref (B + 135)), (1, .ref (B + 44)), (2, .int 2), (3, .int p3)] := hl
  refine lv_aload_n hx hb dX6_layRow_0 rfl (lv_at hl 0 rfl) ?_
  refine f_6_3 F w (a := 135) rfl tb_111 dX6_layRow_1 ?_
  refine x_Vv F w (As := []) (rest := []) (a := 138) (by decide) (sh_9 rfl _ _) rfl (c_X9_clear_398 (h0) (h1) (h2) (h3)) gv_X6_62 hv_X9_clear ⟨Nat.le_of_ble_eq_true rfl, Nat.le_of_ble_eq_true rfl⟩ hl.1 rfl (Nat.le_of_ble_eq_true rfl) ⟨Nat.zero_le _, Nat.zero_le _⟩ dX6_layRow_4 (fun H locs w => ?_)
  refine lv_aload_n hx hb dX6_layRow_7 rfl (lv_at hl 0 rfl) ?_
  refine f_6_3 F w (a := 135) rfl tb_111 dX6_layRow_8 ?_
  refine lv_aload_n hx hb dX6_layRow_11 rfl (lv_at hl 1 rfl) ?_
  refine x_Vv F w (As := [.ref (B + 44)]) (rest := []) (a := 138) (by decide) (sh_9 rfl _ _) rfl (c_X9_copySyllables_370 ((st_ne (by decide)).trans h4) ((st_ne (by decide)).trans h1) ((st_ne (by decide)).trans h5) ((st_ne (by decide)).trans h2) ((st_ne (by decide)).trans h6) ((st_ne (by decide)).trans h3)) gv_X6_65 hv_X9_copySyllables ⟨Nat.le_of_ble_eq_true rfl, Nat.le_of_ble_eq_true rfl⟩ hl.1 rfl (Nat.le_of_ble_eq_true rfl) ⟨Nat.zero_le _, Nat.zero_le _⟩ dX6_layRow_12 (fun H locs w => ?_)
  refine lv_iload_n hx hb dX6_layRow_15 rfl (lv_at hl 3 rfl) ?_
  refine lv_istore (lv' := [(4, .int p3), (0, .ref (B + 135)), (1, .ref (B + 44)), (2, .int 2), (3, .int p3)]) hx hb dX6_layRow_16 hl (by decide) rfl (fun ls hl => ?_)
  refine lv_iconst (v := 0) hx hb dX6_layRow_18 (by decide) ?_
  refine lv_istore (lv' := [(5, .int 0), (4, .int p3), (0, .ref (B + 135)), (1, .ref (B + 44)), (2, .int 2), (3, .int p3)]) hx hb dX6_layRow_19 hl (by decide) rfl (fun ls hl => ?_)
  refine lv_iload hx hb dX6_layRow_21 (lv_at hl 0 rfl) ?_
  refine lv_iload_n hx hb dX6_layRow_23 rfl (lv_at hl 4 rfl) ?_
  refine lv_icmp_ge (tgt := 51) hx hb dX6_layRow_24 (by decide) (fun c1 => absurd c1 (by decide)) (fun _ => ?_)
  refine lv_aload_n hx hb dX6_layRow_27 rfl (lv_at hl 2 rfl) ?_
  refine f_6_3 F w (a := 135) rfl tb_111 dX6_layRow_28 ?_
  refine lv_iconst (v := 0) hx hb dX6_layRow_31 (by decide) ?_
  refine lv_iload hx hb dX6_layRow_32 (lv_at hl 1 rfl) ?_
  refine lv_iconst (v := 3) hx hb dX6_layRow_34 (by decide) ?_
  refine lv_irem hx hb dX6_layRow_35 (by decide) ?_
  refine k_Vv F w (As := [.int 0, .int (p3 - p3 / 3 * 3)]) (rest := []) (a := 138) (by decide) (sh_9 rfl _ _) rfl (c_X9_insertTone_384 (st_at) ((st_ne (by decide)).trans h7)) gv_X6_69 hv_X9_insertTone ⟨Nat.le_of_ble_eq_true rfl, Nat.le_of_ble_eq_true rfl⟩ hl.1 rfl (Nat.le_of_ble_eq_true rfl) ⟨Nat.zero_le _, Nat.zero_le _⟩ dX6_layRow_36 (fun M1 H locs hp w => ?_)
  obtain ⟨f21, hf⟩ := hp
  rw [hf] at w
  clear hf
  refine lv_iload hx hb dX6_layRow_39 (lv_at hl 1 rfl) ?_
  refine lv_iconst (v := 3) hx hb dX6_layRow_41 (by decide) ?_
  refine lv_idiv hx hb dX6_layRow_42 (by decide) ?_
  refine lv_istore (lv' := [(4, .int (p3 / 3)), (5, .int 0), (0, .ref (B + 135)), (1, .ref (B + 44)), (2, .int 2), (3, .int p3)]) hx hb dX6_layRow_43 hl (by decide) rfl (fun ls hl => ?_)
  refine lv_iinc (v := 1) (lv' := [(5, .int 1), (4, .int (p3 / 3)), (0, .ref (B + 135)), (1, .ref (B + 44)), (2, .int 2), (3, .int p3)]) hx hb dX6_layRow_45 hl (k := 1) rfl (by decide) (by decide) rfl (fun ls hl => ?_)
  refine lv_goto (tgt := 21) hx hb dX6_layRow_48 (by decide) ?_
  refine lv_iload hx hb dX6_layRow_21 (lv_at hl 0 rfl) ?_
  refine lv_iload_n hx hb dX6_layRow_23 rfl (lv_at hl 4 rfl) ?_
  refine lv_icmp_ge (tgt := 51) hx hb dX6_layRow_24 (by decide) (fun c1 => absurd c1 (by decide)) (fun _ => ?_)
  refine lv_aload_n hx hb dX6_layRow_27 rfl (lv_at hl 2 rfl) ?_
  refine f_6_3 F w (a := 135) rfl tb_111 dX6_layRow_28 ?_
  refine lv_iconst (v := 0) hx hb dX6_layRow_31 (by decide) ?_
  refine lv_iload hx hb dX6_layRow_32 (lv_at hl 1 rfl) ?_
  refine lv_iconst (v := 3) hx hb dX6_layRow_34 (by decide) ?_
  refine lv_irem hx hb dX6_layRow_35 (by decide) ?_
  refine k_Vv F w (As := [.int 0, .int ((p3 / 3) - (p3 / 3) / 3 * 3)]) (rest := []) (a := 138) (by decide) (sh_9 rfl _ _) rfl (c_X9_insertTone_399 ((sA_ne (by decide)).trans st_at) ((sA_ne (by decide)).trans ((st_ne (by decide)).trans ((st_ne (by decide)).trans h7))) ((sA_ne (by decide)).trans ((st_ne (by decide)).trans ((st_ne (by decide)).trans h8)))) gv_X6_69 hv_X9_insertTone ⟨Nat.le_of_ble_eq_true rfl, Nat.le_of_ble_eq_true rfl⟩ hl.1 rfl (Nat.le_of_ble_eq_true rfl) ⟨Nat.zero_le _, Nat.zero_le _⟩ dX6_layRow_36 (fun M1 H locs hp w => ?_)
  obtain ⟨f22, hf⟩ := hp
  rw [hf] at w
  clear hf
  refine lv_iload hx hb dX6_layRow_39 (lv_at hl 1 rfl) ?_
  refine lv_iconst (v := 3) hx hb dX6_layRow_41 (by decide) ?_
  refine lv_idiv hx hb dX6_layRow_42 (by decide) ?_
  refine lv_istore (lv' := [(4, .int ((p3 / 3) / 3)), (5, .int 1), (0, .ref (B + 135)), (1, .ref (B + 44)), (2, .int 2), (3, .int p3)]) hx hb dX6_layRow_43 hl (by decide) rfl (fun ls hl => ?_)
  refine lv_iinc (v := 2) (lv' := [(5, .int 2), (4, .int ((p3 / 3) / 3)), (0, .ref (B + 135)), (1, .ref (B + 44)), (2, .int 2), (3, .int p3)]) hx hb dX6_layRow_45 hl (k := 1) rfl (by decide) (by decide) rfl (fun ls hl => ?_)
  refine lv_goto (tgt := 21) hx hb dX6_layRow_48 (by decide) ?_
  refine lv_iload hx hb dX6_layRow_21 (lv_at hl 0 rfl) ?_
  refine lv_iload_n hx hb dX6_layRow_23 rfl (lv_at hl 4 rfl) ?_
  refine lv_icmp_ge (tgt := 51) hx hb dX6_layRow_24 (by decide) (fun _ => ?_) (fun c1 => absurd c1 (by decide))
  exact e_v F w hr hlocks ⟨_, hv_ext (a := 139) (fun b hb => by simp [st, sA, hb]) rfl⟩ dX6_layRow_51
set_option maxRecDepth 8000 in
theorem bd_X6_bring_401 {p : Program} {l : Launch} {e : Env} {s : State} {m : MethodId} {args : Array Value} {below : List Frame} {meth : Method} {c : Code} {D : va_G} {B : Nat} {cy : Nat → ClassId} {H H0 : Heap} {locs : List Loc} {Q : State → Prop} {ls : Array Slot} {M : Mem} {k : Nat} (F : CallFix p m c cX6_bring 11 s args TB RX6) (w : Wd D B cy s H0 M H locs) (hl : lv_has ls 11 [(9, .int (nI k)), (7, .long 0), (5, .long 0), (4, .int 9), (0, .ref (B + 135)), (1, .ref (B + 22)), (2, .ref (B + 44)), (3, .int 2)]) (h0 : ¬ 9 ≤ (nI k)) (h1 : M.1 138 0 = 2) (h2 : M.1 138 1 = 0) (h3 : M.1 138 2 = 0) (h4 : M.1 138 3 = 0) (h5 : M.1 44 1 = 0) (h6 : M.1 44 2 = 0) (h7 : M.1 44 3 = 0) (h8 : M.1 140 0 = 0) (h9 : M.1 140 1 = 0) (h10 : M.1 22 2 = 0) (h11 : M.1 136 2 = (nI k)) (h12 : ¬ (nI k) = 0) (h13 : M.1 137 2 = 0) (kk : ∀ (f : Nat → Int32) (H1 : Heap) (locs1 : List Loc) (ls1 : Array Slot), Wd D B cy s H0 (st (sA (st (st (st M 138 0 0) 138 0 1) 138 0 2) 139 f) 136 2 (((nI k) + 1))) H1 locs1 → lv_has ls1 11 [(9, .int ((nI k) + 1)), (7, .long 0), (5, .long 0), (4, .int 9), (0, .ref (B + 135)), (1, .ref (B + 22)), (2, .ref (B + 44)), (3, .int 2)] → W p l e (rmm 2 48) s m args below meth c H1 locs1 0 0 Q (F0 m 76 ls1 [])) : W p l e (rmm 2 48) s m args below meth c H locs 0 0 Q (F0 m 76 ls []) := by
  have hx := F.1
  have hb := F.2.1
  refine lv_iload hx hb dX6_bring_76 (lv_at hl 0 rfl) ?_
  refine lv_iload hx hb dX6_bring_78 (lv_at hl 3 rfl) ?_
  refine lv_icmp_ge (tgt := 199) hx hb dX6_bring_80 (by decide) (fun c1 => absurd c1 h0) (fun _ => ?_)
  refine lv_aload_n hx hb dX6_bring_83 rfl (lv_at hl 4 rfl) ?_
  refine lv_aload_n hx hb dX6_bring_84 rfl (lv_at hl 5 rfl) ?_
  refine f_0_4 F w (a := 22) rfl tb_556 dX6_bring_85 ?_
  refine lv_iload_n hx hb dX6_bring_88 rfl (lv_at hl 7 rfl) ?_
  refine lv_iload hx hb dX6_bring_89 (lv_at hl 0 rfl) ?_
  refine k_Vv F w (As := [.ref (B + 44), .int 2, .int (nI k)]) (rest := []) (a := 135) (by decide) (sh_6 rfl _ _) rfl (c_X6_layRow_400 (h1) (h2) (h3) (h4) (h5) (h6) (h7) (h8) (h9)) gv_X6_41 hv_X6_layRow ⟨Nat.le_of_ble_eq_true rfl, Nat.le_of_ble_eq_true rfl⟩ hl.1 rfl (Nat.le_of_ble_eq_true rfl) ⟨Nat.zero_le _, Nat.zero_le _⟩ dX6_bring_91 (fun M1 H locs hp w => ?_)
  obtain ⟨f21, hf⟩ := hp
  rw [hf] at w
  clear hf
  refine lv_iconst (v := 0) hx hb dX6_bring_94 (by decide) ?_
  refine lv_istore (lv' := [(10, .int 0), (9, .int (nI k)), (7, .long 0), (5, .long 0), (4, .int 9), (0, .ref (B + 135)), (1, .ref (B + 22)), (2, .ref (B + 44)), (3, .int 2)]) hx hb dX6_bring_95 hl (by decide) rfl (fun ls hl => ?_)
  refine lv_iload hx hb dX6_bring_97 (lv_at hl 0 rfl) ?_
  refine lv_aload_n hx hb dX6_bring_99 rfl (lv_at hl 6 rfl) ?_
  refine f_0_2 F w (a := 22) rfl tb_562 dX6_bring_100 ?_
  refine r_val (v := 0) ((sA_ne (by decide)).trans ((st_ne (by decide)).trans ((st_ne (by decide)).trans ((st_ne (by decide)).trans h10)))) ?_
  refine lv_icmp_ge (tgt := 131) hx hb dX6_bring_103 (by decide) (fun _ => ?_) (fun c1 => absurd c1 (by decide))
  refine lv_aload_n hx hb dX6_bring_131 rfl (lv_at hl 5 rfl) ?_
  refine f_6_3 F w (a := 135) rfl tb_111 dX6_bring_132 ?_
  refine x_Vl F w (As := []) (rest := []) (a := 138) (by decide) (sh_9 rfl _ _) rfl (c_X9_kindsRead_396 ((sA_ne (by decide)).trans st_at) ((sA_ne (by decide)).trans ((st_ne (by decide)).trans ((st_ne (by decide)).trans ((st_ne (by decide)).trans h8)))) ((sA_ne (by decide)).trans ((st_ne (by decide)).trans ((st_ne (by decide)).trans ((st_ne (by decide)).trans h9))))) gv_X6_29 hv_X9_kindsRead ⟨Nat.le_of_ble_eq_true rfl, Nat.le_of_ble_eq_true rfl⟩ hl.1 rfl (Nat.le_of_ble_eq_true rfl) ⟨Nat.zero_le _, Nat.zero_le _⟩ dX6_bring_135 (fun H locs w => ?_)
  refine lv_lload hx hb dX6_bring_138 (lv_at hl 3 rfl) ?_
  refine W.lcmp hx hb dX6_bring_140 ?_
  refine r_val (v := 0) (by decide) ?_
  refine lv_if_ne (tgt := 193) hx hb dX6_bring_141 (by decide) (fun c1 => absurd c1 (by decide)) (fun _ => ?_)
  refine lv_aload_n hx hb dX6_bring_144 rfl (lv_at hl 5 rfl) ?_
  refine f_6_3 F w (a := 135) rfl tb_111 dX6_bring_145 ?_
  refine x_Vl F w (As := []) (rest := []) (a := 138) (by decide) (sh_9 rfl _ _) rfl (c_X9_linesRead_397 ((sA_ne (by decide)).trans st_at) ((sA_ne (by decide)).trans ((st_ne (by decide)).trans ((st_ne (by decide)).trans ((st_ne (by decide)).trans h8)))) ((sA_ne (by decide)).trans ((st_ne (by decide)).trans ((st_ne (by decide)).trans ((st_ne (by decide)).trans h9))))) gv_X6_33 hv_X9_linesRead ⟨Nat.le_of_ble_eq_true rfl, Nat.le_of_ble_eq_true rfl⟩ hl.1 rfl (Nat.le_of_ble_eq_true rfl) ⟨Nat.zero_le _, Nat.zero_le _⟩ dX6_bring_148 (fun H locs w => ?_)
  refine lv_lload hx hb dX6_bring_151 (lv_at hl 2 rfl) ?_
  refine W.lcmp hx hb dX6_bring_153 ?_
  refine r_val (v := 0) (by decide) ?_
  refine lv_if_ne (tgt := 193) hx hb dX6_bring_154 (by decide) (fun c1 => absurd c1 (by decide)) (fun _ => ?_)
  refine lv_aload_n hx hb dX6_bring_157 rfl (lv_at hl 5 rfl) ?_
  refine f_6_2 F w (a := 135) rfl tb_109 dX6_bring_158 ?_
  refine lv_iload_n hx hb dX6_bring_161 rfl (lv_at hl 8 rfl) ?_
  refine lv_aload_n hx hb dX6_bring_162 rfl (lv_at hl 5 rfl) ?_
  refine f_6_1 F w (a := 135) rfl tb_108 dX6_bring_163 ?_
  refine lv_iload_n hx hb dX6_bring_166 rfl (lv_at hl 8 rfl) ?_
  refine g_iald F w (a := 136) rfl (j := 2) ⟨by decide, by decide⟩ (by decide) dX6_bring_167 ?_
  refine r_val (v := (nI k)) ((sA_ne (by decide)).trans ((st_ne (by decide)).trans ((st_ne (by decide)).trans ((st_ne (by decide)).trans h11)))) ?_
  refine lv_if_ne (tgt := 176) hx hb dX6_bring_168 (by decide) (fun _ => ?_) (fun c1 => absurd c1 h12)
  refine lv_aload_n hx hb dX6_bring_176 rfl (lv_at hl 5 rfl) ?_
  refine f_6_2 F w (a := 135) rfl tb_109 dX6_bring_177 ?_
  refine lv_iload_n hx hb dX6_bring_180 rfl (lv_at hl 8 rfl) ?_
  refine g_iald F w (a := 137) rfl (j := 2) ⟨by decide, by decide⟩ (by decide) dX6_bring_181 ?_
  refine r_val (v := 0) ((sA_ne (by decide)).trans ((st_ne (by decide)).trans ((st_ne (by decide)).trans ((st_ne (by decide)).trans h13)))) ?_
  refine g_iast F w (a := 137) rfl (j := 2) ⟨by decide, by decide⟩ (by decide) dX6_bring_182 (fun H locs w => ?_)
  rw [st_same ((sA_ne (by decide)).trans ((st_ne (by decide)).trans ((st_ne (by decide)).trans ((st_ne (by decide)).trans h13))))] at w
  refine lv_aload_n hx hb dX6_bring_183 rfl (lv_at hl 5 rfl) ?_
  refine f_6_1 F w (a := 135) rfl tb_108 dX6_bring_184 ?_
  refine lv_iload_n hx hb dX6_bring_187 rfl (lv_at hl 8 rfl) ?_
  refine lv_dup2_11 hx hb dX6_bring_188 rfl rfl ?_
  refine g_iald F w (a := 136) rfl (j := 2) ⟨by decide, by decide⟩ (by decide) dX6_bring_189 ?_
  refine r_val (v := (nI k)) ((sA_ne (by decide)).trans ((st_ne (by decide)).trans ((st_ne (by decide)).trans ((st_ne (by decide)).trans h11)))) ?_
  refine lv_iconst (v := 1) hx hb dX6_bring_190 (by decide) ?_
  refine lv_iadd hx hb dX6_bring_191 ?_
  refine g_iast F w (a := 136) rfl (j := 2) ⟨by decide, by decide⟩ (by decide) dX6_bring_192 (fun H locs w => ?_)
  refine lv_iinc (v := ((nI k) + 1)) (lv' := [(9, .int ((nI k) + 1)), (10, .int 0), (7, .long 0), (5, .long 0), (4, .int 9), (0, .ref (B + 135)), (1, .ref (B + 22)), (2, .ref (B + 44)), (3, .int 2)]) hx hb dX6_bring_193 hl (k := 1) rfl rfl (by decide) rfl (fun ls hl => ?_)
  refine lv_goto (tgt := 76) hx hb dX6_bring_196 (by decide) ?_
  exact kk _ _ _ _ w (lv_sub hl [0, 2, 3, 4, 5, 6, 7, 8] rfl)
set_option maxRecDepth 8000 in
theorem ex_X6_bring_401 {p : Program} {l : Launch} {e : Env} {s : State} {m : MethodId} {args : Array Value} {below : List Frame} {meth : Method} {c : Code} {D : va_G} {B : Nat} {cy : Nat → ClassId} {H : Heap} {locs : List Loc} {ls : Array Slot} {M : Mem} {post : Mem → Prop} (F : CallFix p m c cX6_bring 11 s args TB RX6) (hr : meth.sig.returnType = none) (hlocks : meth.locks = false) (w : Wd D B cy s s.heap M H locs) (hl : lv_has ls 11 [(9, .int 9), (7, .long 0), (5, .long 0), (4, .int 9), (0, .ref (B + 135)), (1, .ref (B + 22)), (2, .ref (B + 44)), (3, .int 2)]) (h0 : M.1 135 0 = 0) (hp : post (st M 135 0 4)) : W p l e (rmm 2 48) s m args below meth c H locs 0 0 (MQ below (va_Qv post (fun M1 t => Wp D B cy M1 t) (fun q => B ≤ q)) args s 0 0 (fun q => B ≤ q)) (F0 m 76 ls []) := by
  have hx := F.1
  have hb := F.2.1
  refine lv_iload hx hb dX6_bring_76 (lv_at hl 0 rfl) ?_
  refine lv_iload hx hb dX6_bring_78 (lv_at hl 3 rfl) ?_
  refine lv_icmp_ge (tgt := 199) hx hb dX6_bring_80 (by decide) (fun _ => ?_) (fun c1 => absurd c1 (by decide))
  refine lv_aload_n hx hb dX6_bring_199 rfl (lv_at hl 4 rfl) ?_
  refine lv_dup hx hb dX6_bring_200 rfl ?_
  refine f_6_0 F w (a := 135) rfl tb_107 dX6_bring_201 ?_
  refine r_val (v := 0) (h0) ?_
  refine lv_iconst (v := 1) hx hb dX6_bring_204 (by decide) ?_
  refine lv_iload_n hx hb dX6_bring_205 rfl (lv_at hl 7 rfl) ?_
  refine lv_ishl hx hb dX6_bring_206 ?_
  refine r_val (v := 4) (by decide) ?_
  refine lv_ior hx hb dX6_bring_207 ?_
  refine r_val (v := 4) (by decide) ?_
  refine u_6_0 F w (a := 135) rfl tb_107 dX6_bring_208 (fun H locs w => ?_)
  exact e_v F w hr hlocks hp dX6_bring_211
set_option maxRecDepth 8000 in
theorem lp_X6_bring_401 {p : Program} {l : Launch} {e : Env} {s : State} {m : MethodId} {args : Array Value} {below : List Frame} {meth : Method} {c : Code} {D : va_G} {B : Nat} {cy : Nat → ClassId} {Mb : Mem} (F : CallFix p m c cX6_bring 11 s args TB RX6) (hr : meth.sig.returnType = none) (hlocks : meth.locks = false) : ∀ (n k : Nat), n + k = 9 → 1 ≤ k → ∀ (M : Mem) (H : Heap) (locs : List Loc) (ls : Array Slot), Wd D B cy s s.heap M H locs → lv_has ls 11 [(9, .int (nI k)), (7, .long 0), (5, .long 0), (4, .int 9), (0, .ref (B + 135)), (1, .ref (B + 22)), (2, .ref (B + 44)), (3, .int 2)] → M.1 136 2 = nI k → (M.1 138 0 = 2) → (M.1 138 1 = 0) → (M.1 138 2 = 0) → (M.1 138 3 = 0) → (M.1 44 1 = 0) → (M.1 44 2 = 0) → (M.1 44 3 = 0) → (M.1 140 0 = 0) → (M.1 140 1 = 0) → (M.1 22 2 = 0) → (M.1 137 2 = 0) → (M.1 135 0 = 0) → (∀ a, 146 ≤ a → M.1 a = Mb.1 a) → W p l e (rmm 2 48) s m args below meth c H locs 0 0 (MQ below (va_Qv (fun M1 => M1.1 136 2 = 9 ∧ M1.1 137 2 = 0 ∧ ∀ a, 146 ≤ a → M1.1 a = Mb.1 a) (fun M1 t => Wp D B cy M1 t) (fun q => B ≤ q)) args s 0 0 (fun q => B ≤ q)) (F0 m 76 ls []) := by
  intro n
  induction n with
  | zero =>
    intro k hk h1 M H locs ls w hl g0 h0 h1 h2 h3 h4 h5 h6 h7 h8 h9 h10 h11 hi
    have hk : k = 9 := by omega
    subst hk
    exact ex_X6_bring_401 (post := fun M1 => M1.1 136 2 = 9 ∧ M1.1 137 2 = 0 ∧ ∀ a, 146 ≤ a → M1.1 a = Mb.1 a) F hr hlocks w hl h11 ⟨(st_ne (by decide)).trans g0, (st_ne (by decide)).trans h10, fun a ha => (st_hi (by omega)).trans ((hi a ha))⟩
  | succ n ih =>
    intro k hk h1 M H locs ls w hl g0 h0 h1 h2 h3 h4 h5 h6 h7 h8 h9 h10 h11 hi
    exact bd_X6_bring_401 F w hl (show ¬ nI 9 ≤ nI k from nI_ge (by omega) (by decide)) h0 h1 h2 h3 h4 h5 h6 h7 h8 h9 g0 (nI_ne0 (by omega) (by omega)) h10 (fun f H1 locs1 ls1 w1 hl1 => ih (k + 1) (by omega) (by omega) _ H1 locs1 ls1 w1 (by rw [nI_1] at hl1; exact hl1) (st_at.trans (nI_1 k)) ((st_ne (by decide)).trans ((sA_ne (by decide)).trans st_at)) ((st_ne (by decide)).trans ((sA_ne (by decide)).trans ((st_ne (by decide)).trans ((st_ne (by decide)).trans ((st_ne (by decide)).trans h1))))) ((st_ne (by decide)).trans ((sA_ne (by decide)).trans ((st_ne (by decide)).trans ((st_ne (by decide)).trans ((st_ne (by decide)).trans h2))))) ((st_ne (by decide)).trans ((sA_ne (by decide)).trans ((st_ne (by decide)).trans ((st_ne (by decide)).trans ((st_ne (by decide)).trans h3))))) ((st_ne (by decide)).trans ((sA_ne (by decide)).trans ((st_ne (by decide)).trans ((st_ne (by decide)).trans ((st_ne (by decide)).trans h4))))) ((st_ne (by decide)).trans ((sA_ne (by decide)).trans ((st_ne (by decide)).trans ((st_ne (by decide)).trans ((st_ne (by decide)).trans h5))))) ((st_ne (by decide)).trans ((sA_ne (by decide)).trans ((st_ne (by decide)).trans ((st_ne (by decide)).trans ((st_ne (by decide)).trans h6))))) ((st_ne (by decide)).trans ((sA_ne (by decide)).trans ((st_ne (by decide)).trans ((st_ne (by decide)).trans ((st_ne (by decide)).trans h7))))) ((st_ne (by decide)).trans ((sA_ne (by decide)).trans ((st_ne (by decide)).trans ((st_ne (by decide)).trans ((st_ne (by decide)).trans h8))))) ((st_ne (by decide)).trans ((sA_ne (by decide)).trans ((st_ne (by decide)).trans ((st_ne (by decide)).trans ((st_ne (by decide)).trans h9))))) ((st_ne (by decide)).trans ((sA_ne (by decide)).trans ((st_ne (by decide)).trans ((st_ne (by decide)).trans ((st_ne (by decide)).trans h10))))) ((st_ne (by decide)).trans ((sA_ne (by decide)).trans ((st_ne (by decide)).trans ((st_ne (by decide)).trans ((st_ne (by decide)).trans h11))))) (fun a ha => (st_hi (by omega)).trans ((sA_hi (by omega)).trans ((st_hi (by omega)).trans ((st_hi (by omega)).trans ((st_hi (by omega)).trans ((hi a ha))))))))
set_option maxRecDepth 8000 in
theorem c_X6_bring_401 {l : Launch} {D : va_G} {B : Nat} {cy : Nat → ClassId} {M : Mem} (h0 : M.1 135 0 = 0) (h1 : M.1 44 0 = 0) (h2 : M.1 136 2 = 0) (h3 : M.1 137 2 = 0) (h4 : M.1 138 0 = 0) (h5 : M.1 138 1 = 0) (h6 : M.1 138 2 = 0) (h7 : M.1 138 3 = 0) (h8 : M.1 44 1 = 0) (h9 : M.1 44 2 = 0) (h10 : M.1 44 3 = 0) (h11 : M.1 140 0 = 0) (h12 : M.1 140 1 = 0) (h13 : M.1 22 2 = 0) : Cv l D B cy yX6_bring cX6_bring 11 2 48 [.ref (B + 135), .ref (B + 22), .ref (B + 44), .int 2] M (fun M1 => M1.1 136 2 = 9 ∧ M1.1 137 2 = 0 ∧ ∀ a, 146 ≤ a → M1.1 a = M.1 a) := by
  refine s_any (by decide) (Nat.le_of_ble_eq_true rfl) ?_
  intro p e s m below meth c ls F hr hlocks w hl
  have F : CallFix p m c cX6_bring 11 s _ TB RX6 := F
  have hx := F.1
  have hb := F.2.1
  have hl : lv_has ls 11 [(0, .ref (B + 135)), (1, .ref (B + 22)), (2, .ref (B + 44)), (3, .int 2)] := hl
  refine lv_iload_n hx hb dX6_bring_0 rfl (lv_at hl 3 rfl) ?_
  refine lv_if_lt (tgt := 21) hx hb dX6_bring_1 (by decide) (fun c1 => absurd c1 (by decide)) (fun _ => ?_)
  refine lv_iload_n hx hb dX6_bring_4 rfl (lv_at hl 3 rfl) ?_
  refine lv_bipush (v := 6) hx hb dX6_bring_5 (by decide) ?_
  refine lv_icmp_gt (tgt := 21) hx hb dX6_bring_7 (by decide) (fun c1 => absurd c1 (by decide)) (fun _ => ?_)
  refine lv_aload_n hx hb dX6_bring_10 rfl (lv_at hl 0 rfl) ?_
  refine f_6_0 F w (a := 135) rfl tb_107 dX6_bring_11 ?_
  refine r_val (v := 0) (h0) ?_
  refine lv_iload_n hx hb dX6_bring_14 rfl (lv_at hl 3 rfl) ?_
  refine lv_ishr hx hb dX6_bring_15 ?_
  refine r_val (v := 0) (by decide) ?_
  refine lv_iconst (v := 1) hx hb dX6_bring_16 (by decide) ?_
  refine lv_iand hx hb dX6_bring_17 ?_
  refine r_val (v := 0) (by decide) ?_
  refine lv_if_eq (tgt := 22) hx hb dX6_bring_18 (by decide) (fun _ => ?_) (fun c1 => absurd c1 (by decide))
  refine lv_iconst (v := 1) hx hb dX6_bring_22 (by decide) ?_
  refine lv_istore (lv' := [(4, .int 1), (0, .ref (B + 135)), (1, .ref (B + 22)), (2, .ref (B + 44)), (3, .int 2)]) hx hb dX6_bring_23 hl (by decide) rfl (fun ls hl => ?_)
  refine lv_iconst (v := 0) hx hb dX6_bring_25 (by decide) ?_
  refine lv_istore (lv' := [(5, .int 0), (4, .int 1), (0, .ref (B + 135)), (1, .ref (B + 22)), (2, .ref (B + 44)), (3, .int 2)]) hx hb dX6_bring_26 hl (by decide) rfl (fun ls hl => ?_)
  refine lv_iload hx hb dX6_bring_28 (lv_at hl 0 rfl) ?_
  refine lv_iload_n hx hb dX6_bring_30 rfl (lv_at hl 5 rfl) ?_
  refine lv_icmp_ge (tgt := 46) hx hb dX6_bring_31 (by decide) (fun c1 => absurd c1 (by decide)) (fun _ => ?_)
  refine lv_iload hx hb dX6_bring_34 (lv_at hl 1 rfl) ?_
  refine lv_iconst (v := 3) hx hb dX6_bring_36 (by decide) ?_
  refine lv_imul hx hb dX6_bring_37 ?_
  refine r_val (v := 3) (by decide) ?_
  refine lv_istore (lv' := [(4, .int 3), (5, .int 0), (0, .ref (B + 135)), (1, .ref (B + 22)), (2, .ref (B + 44)), (3, .int 2)]) hx hb dX6_bring_38 hl (by decide) rfl (fun ls hl => ?_)
  refine lv_iinc (v := 1) (lv' := [(5, .int 1), (4, .int 3), (0, .ref (B + 135)), (1, .ref (B + 22)), (2, .ref (B + 44)), (3, .int 2)]) hx hb dX6_bring_40 hl (k := 1) rfl (by decide) (by decide) rfl (fun ls hl => ?_)
  refine lv_goto (tgt := 28) hx hb dX6_bring_43 (by decide) ?_
  refine lv_iload hx hb dX6_bring_28 (lv_at hl 0 rfl) ?_
  refine lv_iload_n hx hb dX6_bring_30 rfl (lv_at hl 5 rfl) ?_
  refine lv_icmp_ge (tgt := 46) hx hb dX6_bring_31 (by decide) (fun c1 => absurd c1 (by decide)) (fun _ => ?_)
  refine lv_iload hx hb dX6_bring_34 (lv_at hl 1 rfl) ?_
  refine lv_iconst (v := 3) hx hb dX6_bring_36 (by decide) ?_
  refine lv_imul hx hb dX6_bring_37 ?_
  refine r_val (v := 9) (by decide) ?_
  refine lv_istore (lv' := [(4, .int 9), (5, .int 1), (0, .ref (B + 135)), (1, .ref (B + 22)), (2, .ref (B + 44)), (3, .int 2)]) hx hb dX6_bring_38 hl (by decide) rfl (fun ls hl => ?_)
  refine lv_iinc (v := 2) (lv' := [(5, .int 2), (4, .int 9), (0, .ref (B + 135)), (1, .ref (B + 22)), (2, .ref (B + 44)), (3, .int 2)]) hx hb dX6_bring_40 hl (k := 1) rfl (by decide) (by decide) rfl (fun ls hl => ?_)
  refine lv_goto (tgt := 28) hx hb dX6_bring_43 (by decide) ?_
  refine lv_iload hx hb dX6_bring_28 (lv_at hl 0 rfl) ?_
  refine lv_iload_n hx hb dX6_bring_30 rfl (lv_at hl 5 rfl) ?_
  refine lv_icmp_ge (tgt := 46) hx hb dX6_bring_31 (by decide) (fun _ => ?_) (fun c1 => absurd c1 (by decide))
  refine lv_aload_n hx hb dX6_bring_46 rfl (lv_at hl 4 rfl) ?_
  refine x_Vl F w (As := []) (rest := []) (a := 44) (by decide) (sh_9 rfl _ _) rfl (c_X9_kindsRead_345 (h1)) gv_X6_29 hv_X9_kindsRead ⟨Nat.le_of_ble_eq_true rfl, Nat.le_of_ble_eq_true rfl⟩ hl.1 rfl (Nat.le_of_ble_eq_true rfl) ⟨Nat.zero_le _, Nat.zero_le _⟩ dX6_bring_47 (fun H locs w => ?_)
  refine lv_lstore (lv' := [(5, .long 0), (4, .int 9), (0, .ref (B + 135)), (1, .ref (B + 22)), (2, .ref (B + 44)), (3, .int 2)]) hx hb dX6_bring_50 hl (by decide) rfl (fun ls hl => ?_)
  refine lv_aload_n hx hb dX6_bring_52 rfl (lv_at hl 4 rfl) ?_
  refine x_Vl F w (As := []) (rest := []) (a := 44) (by decide) (sh_9 rfl _ _) rfl (c_X9_linesRead_346 (h1)) gv_X6_33 hv_X9_linesRead ⟨Nat.le_of_ble_eq_true rfl, Nat.le_of_ble_eq_true rfl⟩ hl.1 rfl (Nat.le_of_ble_eq_true rfl) ⟨Nat.zero_le _, Nat.zero_le _⟩ dX6_bring_53 (fun H locs w => ?_)
  refine lv_lstore (lv' := [(7, .long 0), (5, .long 0), (4, .int 9), (0, .ref (B + 135)), (1, .ref (B + 22)), (2, .ref (B + 44)), (3, .int 2)]) hx hb dX6_bring_56 hl (by decide) rfl (fun ls hl => ?_)
  refine lv_aload_n hx hb dX6_bring_58 rfl (lv_at hl 3 rfl) ?_
  refine f_6_1 F w (a := 135) rfl tb_108 dX6_bring_59 ?_
  refine lv_iload_n hx hb dX6_bring_62 rfl (lv_at hl 6 rfl) ?_
  refine lv_iconst (v := 0) hx hb dX6_bring_63 (by decide) ?_
  refine g_iast F w (a := 136) rfl (j := 2) ⟨by decide, by decide⟩ (by decide) dX6_bring_64 (fun H locs w => ?_)
  rw [st_same (h2)] at w
  refine lv_aload_n hx hb dX6_bring_65 rfl (lv_at hl 3 rfl) ?_
  refine f_6_2 F w (a := 135) rfl tb_109 dX6_bring_66 ?_
  refine lv_iload_n hx hb dX6_bring_69 rfl (lv_at hl 6 rfl) ?_
  refine lv_bipush (v := (-2)) hx hb dX6_bring_70 (by decide) ?_
  refine g_iast F w (a := 137) rfl (j := 2) ⟨by decide, by decide⟩ (by decide) dX6_bring_72 (fun H locs w => ?_)
  refine lv_iconst (v := 0) hx hb dX6_bring_73 (by decide) ?_
  refine lv_istore (lv' := [(9, .int 0), (7, .long 0), (5, .long 0), (4, .int 9), (0, .ref (B + 135)), (1, .ref (B + 22)), (2, .ref (B + 44)), (3, .int 2)]) hx hb dX6_bring_74 hl (by decide) rfl (fun ls hl => ?_)
  refine lv_iload hx hb dX6_bring_76 (lv_at hl 0 rfl) ?_
  refine lv_iload hx hb dX6_bring_78 (lv_at hl 3 rfl) ?_
  refine lv_icmp_ge (tgt := 199) hx hb dX6_bring_80 (by decide) (fun c1 => absurd c1 (by decide)) (fun _ => ?_)
  refine lv_aload_n hx hb dX6_bring_83 rfl (lv_at hl 4 rfl) ?_
  refine lv_aload_n hx hb dX6_bring_84 rfl (lv_at hl 5 rfl) ?_
  refine f_0_4 F w (a := 22) rfl tb_556 dX6_bring_85 ?_
  refine lv_iload_n hx hb dX6_bring_88 rfl (lv_at hl 7 rfl) ?_
  refine lv_iload hx hb dX6_bring_89 (lv_at hl 0 rfl) ?_
  refine k_Vv F w (As := [.ref (B + 44), .int 2, .int 0]) (rest := []) (a := 135) (by decide) (sh_6 rfl _ _) rfl (c_X6_layRow_395 ((st_ne (by decide)).trans h4) ((st_ne (by decide)).trans h5) ((st_ne (by decide)).trans h6) ((st_ne (by decide)).trans h7) ((st_ne (by decide)).trans h8) ((st_ne (by decide)).trans h9) ((st_ne (by decide)).trans h10) ((st_ne (by decide)).trans h11) ((st_ne (by decide)).trans h12)) gv_X6_41 hv_X6_layRow ⟨Nat.le_of_ble_eq_true rfl, Nat.le_of_ble_eq_true rfl⟩ hl.1 rfl (Nat.le_of_ble_eq_true rfl) ⟨Nat.zero_le _, Nat.zero_le _⟩ dX6_bring_91 (fun M1 H locs hp w => ?_)
  obtain ⟨f21, hf⟩ := hp
  rw [hf] at w
  clear hf
  refine lv_iconst (v := 0) hx hb dX6_bring_94 (by decide) ?_
  refine lv_istore (lv' := [(10, .int 0), (9, .int 0), (7, .long 0), (5, .long 0), (4, .int 9), (0, .ref (B + 135)), (1, .ref (B + 22)), (2, .ref (B + 44)), (3, .int 2)]) hx hb dX6_bring_95 hl (by decide) rfl (fun ls hl => ?_)
  refine lv_iload hx hb dX6_bring_97 (lv_at hl 0 rfl) ?_
  refine lv_aload_n hx hb dX6_bring_99 rfl (lv_at hl 6 rfl) ?_
  refine f_0_2 F w (a := 22) rfl tb_562 dX6_bring_100 ?_
  refine r_val (v := 0) ((sA_ne (by decide)).trans ((st_ne (by decide)).trans ((st_ne (by decide)).trans ((st_ne (by decide)).trans h13)))) ?_
  refine lv_icmp_ge (tgt := 131) hx hb dX6_bring_103 (by decide) (fun _ => ?_) (fun c1 => absurd c1 (by decide))
  refine lv_aload_n hx hb dX6_bring_131 rfl (lv_at hl 5 rfl) ?_
  refine f_6_3 F w (a := 135) rfl tb_111 dX6_bring_132 ?_
  refine x_Vl F w (As := []) (rest := []) (a := 138) (by decide) (sh_9 rfl _ _) rfl (c_X9_kindsRead_396 ((sA_ne (by decide)).trans st_at) ((sA_ne (by decide)).trans ((st_ne (by decide)).trans ((st_ne (by decide)).trans ((st_ne (by decide)).trans h11)))) ((sA_ne (by decide)).trans ((st_ne (by decide)).trans ((st_ne (by decide)).trans ((st_ne (by decide)).trans h12))))) gv_X6_29 hv_X9_kindsRead ⟨Nat.le_of_ble_eq_true rfl, Nat.le_of_ble_eq_true rfl⟩ hl.1 rfl (Nat.le_of_ble_eq_true rfl) ⟨Nat.zero_le _, Nat.zero_le _⟩ dX6_bring_135 (fun H locs w => ?_)
  refine lv_lload hx hb dX6_bring_138 (lv_at hl 3 rfl) ?_
  refine W.lcmp hx hb dX6_bring_140 ?_
  refine r_val (v := 0) (by decide) ?_
  refine lv_if_ne (tgt := 193) hx hb dX6_bring_141 (by decide) (fun c1 => absurd c1 (by decide)) (fun _ => ?_)
  refine lv_aload_n hx hb dX6_bring_144 rfl (lv_at hl 5 rfl) ?_
  refine f_6_3 F w (a := 135) rfl tb_111 dX6_bring_145 ?_
  refine x_Vl F w (As := []) (rest := []) (a := 138) (by decide) (sh_9 rfl _ _) rfl (c_X9_linesRead_397 ((sA_ne (by decide)).trans st_at) ((sA_ne (by decide)).trans ((st_ne (by decide)).trans ((st_ne (by decide)).trans ((st_ne (by decide)).trans h11)))) ((sA_ne (by decide)).trans ((st_ne (by decide)).trans ((st_ne (by decide)).trans ((st_ne (by decide)).trans h12))))) gv_X6_33 hv_X9_linesRead ⟨Nat.le_of_ble_eq_true rfl, Nat.le_of_ble_eq_true rfl⟩ hl.1 rfl (Nat.le_of_ble_eq_true rfl) ⟨Nat.zero_le _, Nat.zero_le _⟩ dX6_bring_148 (fun H locs w => ?_)
  refine lv_lload hx hb dX6_bring_151 (lv_at hl 2 rfl) ?_
  refine W.lcmp hx hb dX6_bring_153 ?_
  refine r_val (v := 0) (by decide) ?_
  refine lv_if_ne (tgt := 193) hx hb dX6_bring_154 (by decide) (fun c1 => absurd c1 (by decide)) (fun _ => ?_)
  refine lv_aload_n hx hb dX6_bring_157 rfl (lv_at hl 5 rfl) ?_
  refine f_6_2 F w (a := 135) rfl tb_109 dX6_bring_158 ?_
  refine lv_iload_n hx hb dX6_bring_161 rfl (lv_at hl 8 rfl) ?_
  refine lv_aload_n hx hb dX6_bring_162 rfl (lv_at hl 5 rfl) ?_
  refine f_6_1 F w (a := 135) rfl tb_108 dX6_bring_163 ?_
  refine lv_iload_n hx hb dX6_bring_166 rfl (lv_at hl 8 rfl) ?_
  refine g_iald F w (a := 136) rfl (j := 2) ⟨by decide, by decide⟩ (by decide) dX6_bring_167 ?_
  refine r_val (v := 0) ((sA_ne (by decide)).trans ((st_ne (by decide)).trans ((st_ne (by decide)).trans ((st_ne (by decide)).trans h2)))) ?_
  refine lv_if_ne (tgt := 176) hx hb dX6_bring_168 (by decide) (fun c1 => absurd c1 (by decide)) (fun _ => ?_)
  refine lv_iload hx hb dX6_bring_171 (lv_at hl 1 rfl) ?_
  refine lv_goto (tgt := 182) hx hb dX6_bring_173 (by decide) ?_
  refine g_iast F w (a := 137) rfl (j := 2) ⟨by decide, by decide⟩ (by decide) dX6_bring_182 (fun H locs w => ?_)
  refine lv_aload_n hx hb dX6_bring_183 rfl (lv_at hl 5 rfl) ?_
  refine f_6_1 F w (a := 135) rfl tb_108 dX6_bring_184 ?_
  refine lv_iload_n hx hb dX6_bring_187 rfl (lv_at hl 8 rfl) ?_
  refine lv_dup2_11 hx hb dX6_bring_188 rfl rfl ?_
  refine g_iald F w (a := 136) rfl (j := 2) ⟨by decide, by decide⟩ (by decide) dX6_bring_189 ?_
  refine r_val (v := 0) ((st_ne (by decide)).trans ((sA_ne (by decide)).trans ((st_ne (by decide)).trans ((st_ne (by decide)).trans ((st_ne (by decide)).trans h2))))) ?_
  refine lv_iconst (v := 1) hx hb dX6_bring_190 (by decide) ?_
  refine lv_iadd hx hb dX6_bring_191 ?_
  refine r_val (v := 1) (by decide) ?_
  refine g_iast F w (a := 136) rfl (j := 2) ⟨by decide, by decide⟩ (by decide) dX6_bring_192 (fun H locs w => ?_)
  refine lv_iinc (v := 1) (lv' := [(9, .int 1), (10, .int 0), (7, .long 0), (5, .long 0), (4, .int 9), (0, .ref (B + 135)), (1, .ref (B + 22)), (2, .ref (B + 44)), (3, .int 2)]) hx hb dX6_bring_193 hl (k := 1) rfl (by decide) (by decide) rfl (fun ls hl => ?_)
  refine lv_goto (tgt := 76) hx hb dX6_bring_196 (by decide) ?_
  exact lp_X6_bring_401 F hr hlocks 8 1 (by decide) (by decide) _ H locs ls w (show lv_has ls 11 [(9, .int 1), (7, .long 0), (5, .long 0), (4, .int 9), (0, .ref (B + 135)), (1, .ref (B + 22)), (2, .ref (B + 44)), (3, .int 2)] from lv_sub hl [0, 2, 3, 4, 5, 6, 7, 8] rfl) (st_at) ((st_ne (by decide)).trans ((st_ne (by decide)).trans ((sA_ne (by decide)).trans st_at))) ((st_ne (by decide)).trans ((st_ne (by decide)).trans ((sA_ne (by decide)).trans ((st_ne (by decide)).trans ((st_ne (by decide)).trans ((st_ne (by decide)).trans h5)))))) ((st_ne (by decide)).trans ((st_ne (by decide)).trans ((sA_ne (by decide)).trans ((st_ne (by decide)).trans ((st_ne (by decide)).trans ((st_ne (by decide)).trans h6)))))) ((st_ne (by decide)).trans ((st_ne (by decide)).trans ((sA_ne (by decide)).trans ((st_ne (by decide)).trans ((st_ne (by decide)).trans ((st_ne (by decide)).trans h7)))))) ((st_ne (by decide)).trans ((st_ne (by decide)).trans ((sA_ne (by decide)).trans ((st_ne (by decide)).trans ((st_ne (by decide)).trans ((st_ne (by decide)).trans h8)))))) ((st_ne (by decide)).trans ((st_ne (by decide)).trans ((sA_ne (by decide)).trans ((st_ne (by decide)).trans ((st_ne (by decide)).trans ((st_ne (by decide)).trans h9)))))) ((st_ne (by decide)).trans ((st_ne (by decide)).trans ((sA_ne (by decide)).trans ((st_ne (by decide)).trans ((st_ne (by decide)).trans ((st_ne (by decide)).trans h10)))))) ((st_ne (by decide)).trans ((st_ne (by decide)).trans ((sA_ne (by decide)).trans ((st_ne (by decide)).trans ((st_ne (by decide)).trans ((st_ne (by decide)).trans h11)))))) ((st_ne (by decide)).trans ((st_ne (by decide)).trans ((sA_ne (by decide)).trans ((st_ne (by decide)).trans ((st_ne (by decide)).trans ((st_ne (by decide)).trans h12)))))) ((st_ne (by decide)).trans ((st_ne (by decide)).trans ((sA_ne (by decide)).trans ((st_ne (by decide)).trans ((st_ne (by decide)).trans ((st_ne (by decide)).trans h13)))))) ((st_ne (by decide)).trans st_at) ((st_ne (by decide)).trans ((st_ne (by decide)).trans ((sA_ne (by decide)).trans ((st_ne (by decide)).trans ((st_ne (by decide)).trans ((st_ne (by decide)).trans h0)))))) (fun a ha => (st_hi (by omega)).trans ((st_hi (by omega)).trans ((sA_hi (by omega)).trans ((st_hi (by omega)).trans ((st_hi (by omega)).trans ((st_hi (by omega)).trans rfl))))))
set_option maxRecDepth 4000 in
theorem c_X11_sources_402 {l : Launch} {D : va_G} {B : Nat} {cy : Nat → ClassId} {M : Mem} (h0 : M.1 22 2 = 0) (h1 : M.1 22 7 = 0) (h2 : M.1 135 0 = 0) (h3 : M.1 44 0 = 0) (h4 : M.1 136 2 = 0) (h5 : M.1 137 2 = 0) (h6 : M.1 138 0 = 0) (h7 : M.1 138 1 = 0) (h8 : M.1 138 2 = 0) (h9 : M.1 138 3 = 0) (h10 : M.1 44 1 = 0) (h11 : M.1 44 2 = 0) (h12 : M.1 44 3 = 0) (h13 : M.1 140 0 = 0) (h14 : M.1 140 1 = 0) : Ci l D B cy yX11_sources cX11_sources 2 (some .int) 3 78 [.ref (B + 0), .int 2] M (fun r Mx => r = 9 ∧ ∀ a, 146 ≤ a → Mx.1 a = M.1 a) := by
  refine s_any (by decide) (Nat.le_of_ble_eq_true rfl) ?_
  intro p e s m below meth c ls F hr hlocks w hl
  have F : CallFix p m c cX11_sources 2 s _ TB RX11 := F
  have hx := F.1
  have hb := F.2.1
  have hl : lv_has ls 2 [(0, .ref (B + 0)), (1, .int 2)] := hl
  refine lv_iload_n hx hb dX11_sources_0 rfl (lv_at hl 1 rfl) ?_
  refine lv_if_lt (tgt := 10) hx hb dX11_sources_1 (by decide) (fun c1 => absurd c1 (by decide)) (fun _ => ?_)
  refine lv_iload_n hx hb dX11_sources_4 rfl (lv_at hl 1 rfl) ?_
  refine lv_bipush (v := 6) hx hb dX11_sources_5 (by decide) ?_
  refine lv_icmp_le (tgt := 12) hx hb dX11_sources_7 (by decide) (fun _ => ?_) (fun c1 => absurd c1 (by decide))
  refine lv_aload_n hx hb dX11_sources_12 rfl (lv_at hl 0 rfl) ?_
  refine f_11_7 F w (a := 0) rfl tb_113 dX11_sources_13 ?_
  refine lv_aload_n hx hb dX11_sources_16 rfl (lv_at hl 0 rfl) ?_
  refine f_11_3 F w (a := 0) rfl tb_73 dX11_sources_17 ?_
  refine lv_aload_n hx hb dX11_sources_20 rfl (lv_at hl 0 rfl) ?_
  refine f_11_3 F w (a := 0) rfl tb_73 dX11_sources_21 ?_
  refine lv_aload_n hx hb dX11_sources_24 rfl (lv_at hl 0 rfl) ?_
  refine f_11_3 F w (a := 0) rfl tb_73 dX11_sources_25 ?_
  refine f_0_2 F w (a := 22) rfl tb_216 dX11_sources_28 ?_
  refine r_val (v := 0) (h0) ?_
  refine x_Vr F w (As := [.int 0]) (rest := [.ref (B + 22), .ref (B + 135)]) (a := 22) (by decide) (sh_0 rfl _ _) rfl (c_X0_stageOf_207 (h0) (h1)) gv_X11_196 hv_X0_stageOf ⟨Nat.le_of_ble_eq_true rfl, Nat.le_of_ble_eq_true rfl⟩ hl.1 rfl (Nat.le_of_ble_eq_true rfl) ⟨Nat.zero_le _, Nat.zero_le _⟩ dX11_sources_31 (fun H locs w => ?_)
  refine lv_iload_n hx hb dX11_sources_34 rfl (lv_at hl 1 rfl) ?_
  refine k_Vv F w (As := [.ref (B + 22), .ref (B + 44), .int 2]) (rest := []) (a := 135) (by decide) (sh_6 rfl _ _) rfl (c_X6_bring_401 (h2) (h3) (h4) (h5) (h6) (h7) (h8) (h9) (h10) (h11) (h12) (h13) (h14) (h0)) gv_X11_285 hv_X6_bring ⟨Nat.le_of_ble_eq_true rfl, Nat.le_of_ble_eq_true rfl⟩ hl.1 rfl (Nat.le_of_ble_eq_true rfl) ⟨Nat.zero_le _, Nat.zero_le _⟩ dX11_sources_35 (fun M1 H locs hp w => ?_)
  obtain ⟨e0, e1, e9⟩ := hp
  refine lv_aload_n hx hb dX11_sources_38 rfl (lv_at hl 0 rfl) ?_
  refine f_11_7 F w (a := 0) rfl tb_113 dX11_sources_39 ?_
  refine f_6_1 F w (a := 135) rfl tb_566 dX11_sources_42 ?_
  refine lv_iload_n hx hb dX11_sources_45 rfl (lv_at hl 1 rfl) ?_
  refine g_iald F w (a := 136) rfl (j := 2) ⟨by decide, by decide⟩ (by decide) dX11_sources_46 ?_
  refine r_val (v := 9) (e0) ?_
  exact e_i F w hr hlocks ⟨rfl, fun a ha => ((e9 a ha).trans (rfl))⟩ dX11_sources_47
set_option maxRecDepth 4000 in
theorem c_X12_in_403 {l : Launch} {D : va_G} {B : Nat} {cy : Nat → ClassId} {M : Mem} : Ci l D B cy yX12_in cX12_in 3 (some .boolean) 0 0 [.int 2, .int 0, .int 6] M (fun r M1 => r = 1 ∧ M1 = M) := by
  refine s_any (by decide) (Nat.le_of_ble_eq_true rfl) ?_
  intro p e s m below meth c ls F hr hlocks w hl
  have F : CallFix p m c cX12_in 3 s _ TB RX12 := F
  have hx := F.1
  have hb := F.2.1
  have hl : lv_has ls 3 [(0, .int 2), (1, .int 0), (2, .int 6)] := hl
  refine lv_iload_n hx hb dX12_in_0 rfl (lv_at hl 0 rfl) ?_
  refine lv_iload_n hx hb dX12_in_1 rfl (lv_at hl 1 rfl) ?_
  refine lv_icmp_lt (tgt := 14) hx hb dX12_in_2 (by decide) (fun c1 => absurd c1 (by decide)) (fun _ => ?_)
  refine lv_iload_n hx hb dX12_in_5 rfl (lv_at hl 0 rfl) ?_
  refine lv_iload_n hx hb dX12_in_6 rfl (lv_at hl 2 rfl) ?_
  refine lv_icmp_gt (tgt := 14) hx hb dX12_in_7 (by decide) (fun c1 => absurd c1 (by decide)) (fun _ => ?_)
  refine lv_iconst (v := 1) hx hb dX12_in_10 (by decide) ?_
  refine lv_goto (tgt := 15) hx hb dX12_in_11 (by decide) ?_
  exact e_z F w hr hlocks (by decide) ⟨rfl, rfl⟩ dX12_in_15
set_option maxRecDepth 4000 in
theorem c_X12_insert_404 {l : Launch} {D : va_G} {B : Nat} {cy : Nat → ClassId} {M : Mem} (h0 : M.1 148 0 = 1) (h1 : M.1 148 2 = 0) (h2 : M.1 148 14 = 0) : Cv l D B cy yX12_insert cX12_insert 4 0 0 [.ref (B + 148), .int 1, .int 0] M (fun M1 => M1 = (st M 148 0 2)) := by
  refine s_any (by decide) (Nat.le_of_ble_eq_true rfl) ?_
  intro p e s m below meth c ls F hr hlocks w hl
  have F : CallFix p m c cX12_insert 4 s _ TB RX12 := F
  have hx := F.1
  have hb := F.2.1
  have hl : lv_has ls 4 [(0, .ref (B + 148)), (1, .int 1), (2, .int 0)] := hl
  refine lv_aload_n hx hb dX12_insert_0 rfl (lv_at hl 0 rfl) ?_
  refine lv_iconst (v := 0) hx hb dX12_insert_1 (by decide) ?_
  refine g_iald F w (a := 148) rfl (j := 0) ⟨by decide, by decide⟩ (by decide) dX12_insert_2 ?_
  refine r_val (v := 1) (h0) ?_
  refine lv_istore_n (lv' := [(3, .int 1), (0, .ref (B + 148)), (1, .int 1), (2, .int 0)]) hx hb dX12_insert_3 rfl hl (by decide) rfl (fun ls hl => ?_)
  refine lv_iload_n hx hb dX12_insert_4 rfl (lv_at hl 0 rfl) ?_
  refine lv_iload_n hx hb dX12_insert_5 rfl (lv_at hl 2 rfl) ?_
  refine lv_icmp_le (tgt := 41) hx hb dX12_insert_6 (by decide) (fun _ => ?_) (fun c1 => absurd c1 (by decide))
  refine lv_aload_n hx hb dX12_insert_41 rfl (lv_at hl 1 rfl) ?_
  refine lv_iconst (v := 1) hx hb dX12_insert_42 (by decide) ?_
  refine lv_iload_n hx hb dX12_insert_43 rfl (lv_at hl 2 rfl) ?_
  refine lv_iadd hx hb dX12_insert_44 ?_
  refine r_val (v := 2) (by decide) ?_
  refine lv_iload_n hx hb dX12_insert_45 rfl (lv_at hl 3 rfl) ?_
  refine g_iast F w (a := 148) rfl (j := 2) ⟨by decide, by decide⟩ (by decide) dX12_insert_46 (fun H locs w => ?_)
  rw [st_same (h1)] at w
  refine lv_aload_n hx hb dX12_insert_47 rfl (lv_at hl 1 rfl) ?_
  refine lv_bipush (v := 13) hx hb dX12_insert_48 (by decide) ?_
  refine lv_iload_n hx hb dX12_insert_50 rfl (lv_at hl 2 rfl) ?_
  refine lv_iadd hx hb dX12_insert_51 ?_
  refine r_val (v := 14) (by decide) ?_
  refine lv_iconst (v := 0) hx hb dX12_insert_52 (by decide) ?_
  refine g_iast F w (a := 148) rfl (j := 14) ⟨by decide, by decide⟩ (by decide) dX12_insert_53 (fun H locs w => ?_)
  rw [st_same (h2)] at w
  refine lv_aload_n hx hb dX12_insert_54 rfl (lv_at hl 1 rfl) ?_
  refine lv_iconst (v := 0) hx hb dX12_insert_55 (by decide) ?_
  refine lv_dup2_11 hx hb dX12_insert_56 rfl rfl ?_
  refine g_iald F w (a := 148) rfl (j := 0) ⟨by decide, by decide⟩ (by decide) dX12_insert_57 ?_
  refine r_val (v := 1) (h0) ?_
  refine lv_iconst (v := 1) hx hb dX12_insert_58 (by decide) ?_
  refine lv_iadd hx hb dX12_insert_59 ?_
  refine r_val (v := 2) (by decide) ?_
  refine g_iast F w (a := 148) rfl (j := 0) ⟨by decide, by decide⟩ (by decide) dX12_insert_60 (fun H locs w => ?_)
  exact e_v F w hr hlocks rfl dX12_insert_61
set_option maxRecDepth 4000 in
theorem c_X12_insert_405 {l : Launch} {D : va_G} {B : Nat} {cy : Nat → ClassId} {M : Mem} {p2 : Int32} (h0 : M.1 148 0 = 0) (h1 : M.1 148 13 = 0) : Cv l D B cy yX12_insert cX12_insert 4 0 0 [.ref (B + 148), .int 0, .int p2] M (fun M1 => M1 = (st (st M 148 1 p2) 148 0 1)) := by
  refine s_any (by decide) (Nat.le_of_ble_eq_true rfl) ?_
  intro p e s m below meth c ls F hr hlocks w hl
  have F : CallFix p m c cX12_insert 4 s _ TB RX12 := F
  have hx := F.1
  have hb := F.2.1
  have hl : lv_has ls 4 [(0, .ref (B + 148)), (1, .int 0), (2, .int p2)] := hl
  refine lv_aload_n hx hb dX12_insert_0 rfl (lv_at hl 0 rfl) ?_
  refine lv_iconst (v := 0) hx hb dX12_insert_1 (by decide) ?_
  refine g_iald F w (a := 148) rfl (j := 0) ⟨by decide, by decide⟩ (by decide) dX12_insert_2 ?_
  refine r_val (v := 0) (h0) ?_
  refine lv_istore_n (lv' := [(3, .int 0), (0, .ref (B + 148)), (1, .int 0), (2, .int p2)]) hx hb dX12_insert_3 rfl hl (by decide) rfl (fun ls hl => ?_)
  refine lv_iload_n hx hb dX12_insert_4 rfl (lv_at hl 0 rfl) ?_
  refine lv_iload_n hx hb dX12_insert_5 rfl (lv_at hl 2 rfl) ?_
  refine lv_icmp_le (tgt := 41) hx hb dX12_insert_6 (by decide) (fun _ => ?_) (fun c1 => absurd c1 (by decide))
  refine lv_aload_n hx hb dX12_insert_41 rfl (lv_at hl 1 rfl) ?_
  refine lv_iconst (v := 1) hx hb dX12_insert_42 (by decide) ?_
  refine lv_iload_n hx hb dX12_insert_43 rfl (lv_at hl 2 rfl) ?_
  refine lv_iadd hx hb dX12_insert_44 ?_
  refine r_val (v := 1) (by decide) ?_
  refine lv_iload_n hx hb dX12_insert_45 rfl (lv_at hl 3 rfl) ?_
  refine g_iast F w (a := 148) rfl (j := 1) ⟨by decide, by decide⟩ (by decide) dX12_insert_46 (fun H locs w => ?_)
  refine lv_aload_n hx hb dX12_insert_47 rfl (lv_at hl 1 rfl) ?_
  refine lv_bipush (v := 13) hx hb dX12_insert_48 (by decide) ?_
  refine lv_iload_n hx hb dX12_insert_50 rfl (lv_at hl 2 rfl) ?_
  refine lv_iadd hx hb dX12_insert_51 ?_
  refine r_val (v := 13) (by decide) ?_
  refine lv_iconst (v := 0) hx hb dX12_insert_52 (by decide) ?_
  refine g_iast F w (a := 148) rfl (j := 13) ⟨by decide, by decide⟩ (by decide) dX12_insert_53 (fun H locs w => ?_)
  rw [st_same ((st_ne (by decide)).trans h1)] at w
  refine lv_aload_n hx hb dX12_insert_54 rfl (lv_at hl 1 rfl) ?_
  refine lv_iconst (v := 0) hx hb dX12_insert_55 (by decide) ?_
  refine lv_dup2_11 hx hb dX12_insert_56 rfl rfl ?_
  refine g_iald F w (a := 148) rfl (j := 0) ⟨by decide, by decide⟩ (by decide) dX12_insert_57 ?_
  refine r_val (v := 0) ((st_ne (by decide)).trans h0) ?_
  refine lv_iconst (v := 1) hx hb dX12_insert_58 (by decide) ?_
  refine lv_iadd hx hb dX12_insert_59 ?_
  refine r_val (v := 1) (by decide) ?_
  refine g_iast F w (a := 148) rfl (j := 0) ⟨by decide, by decide⟩ (by decide) dX12_insert_60 (fun H locs w => ?_)
  exact e_v F w hr hlocks rfl dX12_insert_61
set_option maxRecDepth 4000 in
theorem c_X12_insert_406 {l : Launch} {D : va_G} {B : Nat} {cy : Nat → ClassId} {M : Mem} {p2 : Int32} (h0 : M.1 148 0 = 1) (h1 : M.1 148 14 = 0) : Cv l D B cy yX12_insert cX12_insert 4 0 0 [.ref (B + 148), .int 1, .int p2] M (fun M1 => M1 = (st (st M 148 2 p2) 148 0 2)) := by
  refine s_any (by decide) (Nat.le_of_ble_eq_true rfl) ?_
  intro p e s m below meth c ls F hr hlocks w hl
  have F : CallFix p m c cX12_insert 4 s _ TB RX12 := F
  have hx := F.1
  have hb := F.2.1
  have hl : lv_has ls 4 [(0, .ref (B + 148)), (1, .int 1), (2, .int p2)] := hl
  refine lv_aload_n hx hb dX12_insert_0 rfl (lv_at hl 0 rfl) ?_
  refine lv_iconst (v := 0) hx hb dX12_insert_1 (by decide) ?_
  refine g_iald F w (a := 148) rfl (j := 0) ⟨by decide, by decide⟩ (by decide) dX12_insert_2 ?_
  refine r_val (v := 1) (h0) ?_
  refine lv_istore_n (lv' := [(3, .int 1), (0, .ref (B + 148)), (1, .int 1), (2, .int p2)]) hx hb dX12_insert_3 rfl hl (by decide) rfl (fun ls hl => ?_)
  refine lv_iload_n hx hb dX12_insert_4 rfl (lv_at hl 0 rfl) ?_
  refine lv_iload_n hx hb dX12_insert_5 rfl (lv_at hl 2 rfl) ?_
  refine lv_icmp_le (tgt := 41) hx hb dX12_insert_6 (by decide) (fun _ => ?_) (fun c1 => absurd c1 (by decide))
  refine lv_aload_n hx hb dX12_insert_41 rfl (lv_at hl 1 rfl) ?_
  refine lv_iconst (v := 1) hx hb dX12_insert_42 (by decide) ?_
  refine lv_iload_n hx hb dX12_insert_43 rfl (lv_at hl 2 rfl) ?_
  refine lv_iadd hx hb dX12_insert_44 ?_
  refine r_val (v := 2) (by decide) ?_
  refine lv_iload_n hx hb dX12_insert_45 rfl (lv_at hl 3 rfl) ?_
  refine g_iast F w (a := 148) rfl (j := 2) ⟨by decide, by decide⟩ (by decide) dX12_insert_46 (fun H locs w => ?_)
  refine lv_aload_n hx hb dX12_insert_47 rfl (lv_at hl 1 rfl) ?_
  refine lv_bipush (v := 13) hx hb dX12_insert_48 (by decide) ?_
  refine lv_iload_n hx hb dX12_insert_50 rfl (lv_at hl 2 rfl) ?_
  refine lv_iadd hx hb dX12_insert_51 ?_
  refine r_val (v := 14) (by decide) ?_
  refine lv_iconst (v := 0) hx hb dX12_insert_52 (by decide) ?_
  refine g_iast F w (a := 148) rfl (j := 14) ⟨by decide, by decide⟩ (by decide) dX12_insert_53 (fun H locs w => ?_)
  rw [st_same ((st_ne (by decide)).trans h1)] at w
  refine lv_aload_n hx hb dX12_insert_54 rfl (lv_at hl 1 rfl) ?_
  refine lv_iconst (v := 0) hx hb dX12_insert_55 (by decide) ?_
  refine lv_dup2_11 hx hb dX12_insert_56 rfl rfl ?_
  refine g_iald F w (a := 148) rfl (j := 0) ⟨by decide, by decide⟩ (by decide) dX12_insert_57 ?_
  refine r_val (v := 1) ((st_ne (by decide)).trans h0) ?_
  refine lv_iconst (v := 1) hx hb dX12_insert_58 (by decide) ?_
  refine lv_iadd hx hb dX12_insert_59 ?_
  refine r_val (v := 2) (by decide) ?_
  refine g_iast F w (a := 148) rfl (j := 0) ⟨by decide, by decide⟩ (by decide) dX12_insert_60 (fun H locs w => ?_)
  exact e_v F w hr hlocks rfl dX12_insert_61
set_option maxRecDepth 8000 in
theorem bd_X12_sourcesBy_407 {p : Program} {l : Launch} {e : Env} {s : State} {m : MethodId} {args : Array Value} {below : List Frame} {meth : Method} {c : Code} {D : va_G} {B : Nat} {cy : Nat → ClassId} {H H0 : Heap} {locs : List Loc} {Q : State → Prop} {ls : Array Slot} {M : Mem} {k : Nat} (F : CallFix p m c cX12_sourcesBy 7 s args TB RX12) (w : Wd D B cy s H0 M H locs) (hl : lv_has ls 7 [(4, .int (nI k)), (3, .int (nI k)), (2, .int 9), (0, .ref (B + 146)), (1, .int 2)]) (h0 : ¬ 9 ≤ (nI k)) (h1 : M.1 147 0 = 0) (h2 : M.1 147 1 = 0) (h3 : M.1 147 2 = 0) (h4 : M.1 147 3 = 0) (h5 : M.1 147 4 = 0) (h6 : M.1 147 5 = 0) (h7 : M.1 147 6 = 0) (h8 : M.1 147 7 = 0) (h9 : M.1 147 8 = 0) (h10 : M.1 147 9 = 0) (h11 : M.1 147 10 = 0) (h12 : M.1 147 11 = 0) (h13 : M.1 147 12 = 0) (h14 : M.1 147 13 = 0) (h15 : M.1 147 14 = 0) (h16 : M.1 147 15 = 0) (h17 : M.1 147 16 = 0) (h18 : M.1 147 17 = 0) (h19 : M.1 147 18 = 0) (h20 : M.1 147 19 = 0) (h21 : M.1 147 20 = 0) (h22 : M.1 147 21 = 0) (h23 : M.1 147 22 = 0) (h24 : M.1 147 23 = 0) (h25 : M.1 147 24 = 0) (h26 : M.1 147 25 = 0) (h27 : M.1 147 26 = 0) (h28 : M.1 147 27 = 0) (h29 : M.1 146 5 = 0) (h30 : ¬ (nI k) = 0) (kk : ∀ (H1 : Heap) (locs1 : List Loc) (ls1 : Array Slot), Wd D B cy s H0 (st (st (st (st (st (st (st (st (st (st (st (st (st (st (st (st (st (st (st (st (st (st (st (st (st (st (st (st (st (st (st (st M 148 0 0) 148 1 0) 148 2 0) 148 3 0) 148 4 0) 148 5 0) 148 6 0) 148 7 0) 148 8 0) 148 9 0) 148 10 0) 148 11 0) 148 12 0) 148 13 0) 148 14 0) 148 15 0) 148 16 0) 148 17 0) 148 18 0) 148 19 0) 148 20 0) 148 21 0) 148 22 0) 148 23 0) 148 24 0) 148 25 0) 148 26 0) 148 27 0) 148 1 ((((nI k) / 3) - ((nI k) / 3) / 3 * 3))) 148 0 1) 148 2 ((((nI k) / 1) - ((nI k) / 1) / 3 * 3))) 148 0 2) H1 locs1 → lv_has ls1 7 [(4, .int ((nI k) + 1)), (3, .int ((nI k) + 1)), (2, .int 9), (0, .ref (B + 146)), (1, .int 2)] → W p l e (rmm 3 66) s m args below meth c H1 locs1 0 0 Q (F0 m 34 ls1 [])) : W p l e (rmm 3 66) s m args below meth c H locs 0 0 Q (F0 m 34 ls []) := by
  have hx := F.1
  have hb := F.2.1
  refine lv_iload hx hb dX12_sourcesBy_34 (lv_at hl 0 rfl) ?_
  refine lv_iload_n hx hb dX12_sourcesBy_36 rfl (lv_at hl 2 rfl) ?_
  refine lv_icmp_ge (tgt := 152) hx hb dX12_sourcesBy_37 (by decide) (fun c1 => absurd c1 h0) (fun _ => ?_)
  refine lv_aload_n hx hb dX12_sourcesBy_40 rfl (lv_at hl 3 rfl) ?_
  refine f_12_2 F w (a := 146) rfl tb_127 dX12_sourcesBy_41 ?_
  refine lv_aload_n hx hb dX12_sourcesBy_44 rfl (lv_at hl 3 rfl) ?_
  refine f_12_1 F w (a := 146) rfl tb_126 dX12_sourcesBy_45 ?_
  refine x_Sv F w (As := [.ref (B + 148), .ref (B + 147)]) (rest := []) (c_X12_copy_390 (h1) (h2) (h3) (h4) (h5) (h6) (h7) (h8) (h9) (h10) (h11) (h12) (h13) (h14) (h15) (h16) (h17) (h18) (h19) (h20) (h21) (h22) (h23) (h24) (h25) (h26) (h27) (h28)) gs_X12_162 hs_X12_copy ⟨Nat.le_of_ble_eq_true rfl, Nat.le_of_ble_eq_true rfl⟩ hl.1 rfl (Nat.le_of_ble_eq_true rfl) ⟨Nat.zero_le _, Nat.zero_le _⟩ dX12_sourcesBy_48 (fun H locs w => ?_)
  refine lv_aload_n hx hb dX12_sourcesBy_51 rfl (lv_at hl 3 rfl) ?_
  refine f_12_2 F w (a := 146) rfl tb_127 dX12_sourcesBy_52 ?_
  refine lv_iconst (v := 0) hx hb dX12_sourcesBy_55 (by decide) ?_
  refine lv_iconst (v := 0) hx hb dX12_sourcesBy_56 (by decide) ?_
  refine g_iast F w (a := 148) rfl (j := 0) ⟨by decide, by decide⟩ (by decide) dX12_sourcesBy_57 (fun H locs w => ?_)
  rw [st_same ((st_ne (by decide)).trans ((st_ne (by decide)).trans ((st_ne (by decide)).trans ((st_ne (by decide)).trans ((st_ne (by decide)).trans ((st_ne (by decide)).trans ((st_ne (by decide)).trans ((st_ne (by decide)).trans ((st_ne (by decide)).trans ((st_ne (by decide)).trans ((st_ne (by decide)).trans ((st_ne (by decide)).trans ((st_ne (by decide)).trans ((st_ne (by decide)).trans ((st_ne (by decide)).trans ((st_ne (by decide)).trans ((st_ne (by decide)).trans ((st_ne (by decide)).trans ((st_ne (by decide)).trans ((st_ne (by decide)).trans ((st_ne (by decide)).trans ((st_ne (by decide)).trans ((st_ne (by decide)).trans ((st_ne (by decide)).trans ((st_ne (by decide)).trans ((st_ne (by decide)).trans ((st_ne (by decide)).trans st_at)))))))))))))))))))))))))))] at w
  refine lv_iload_n hx hb dX12_sourcesBy_58 rfl (lv_at hl 2 rfl) ?_
  refine lv_istore (lv' := [(5, .int 9), (4, .int (nI k)), (3, .int (nI k)), (2, .int 9), (0, .ref (B + 146)), (1, .int 2)]) hx hb dX12_sourcesBy_59 hl (by decide) rfl (fun ls hl => ?_)
  refine lv_iconst (v := 0) hx hb dX12_sourcesBy_61 (by decide) ?_
  refine lv_istore (lv' := [(6, .int 0), (5, .int 9), (4, .int (nI k)), (3, .int (nI k)), (2, .int 9), (0, .ref (B + 146)), (1, .int 2)]) hx hb dX12_sourcesBy_62 hl (by decide) rfl (fun ls hl => ?_)
  refine lv_iload hx hb dX12_sourcesBy_64 (lv_at hl 0 rfl) ?_
  refine lv_iload_n hx hb dX12_sourcesBy_66 rfl (lv_at hl 6 rfl) ?_
  refine lv_icmp_ge (tgt := 98) hx hb dX12_sourcesBy_67 (by decide) (fun c1 => absurd c1 (by decide)) (fun _ => ?_)
  refine lv_iload hx hb dX12_sourcesBy_70 (lv_at hl 1 rfl) ?_
  refine lv_iconst (v := 3) hx hb dX12_sourcesBy_72 (by decide) ?_
  refine lv_idiv hx hb dX12_sourcesBy_73 (by decide) ?_
  refine r_val (v := 3) (by decide) ?_
  refine lv_istore (lv' := [(5, .int 3), (6, .int 0), (4, .int (nI k)), (3, .int (nI k)), (2, .int 9), (0, .ref (B + 146)), (1, .int 2)]) hx hb dX12_sourcesBy_74 hl (by decide) rfl (fun ls hl => ?_)
  refine lv_aload_n hx hb dX12_sourcesBy_76 rfl (lv_at hl 5 rfl) ?_
  refine f_12_2 F w (a := 146) rfl tb_127 dX12_sourcesBy_77 ?_
  refine lv_iload hx hb dX12_sourcesBy_80 (lv_at hl 1 rfl) ?_
  refine lv_iload hx hb dX12_sourcesBy_82 (lv_at hl 2 rfl) ?_
  refine lv_iload hx hb dX12_sourcesBy_84 (lv_at hl 0 rfl) ?_
  refine lv_idiv hx hb dX12_sourcesBy_86 (by decide) ?_
  refine lv_iconst (v := 3) hx hb dX12_sourcesBy_87 (by decide) ?_
  refine lv_irem hx hb dX12_sourcesBy_88 (by decide) ?_
  refine x_Sv F w (As := [.ref (B + 148), .int 0, .int (((nI k) / 3) - ((nI k) / 3) / 3 * 3)]) (rest := []) (c_X12_insert_405 ((st_ne (by decide)).trans ((st_ne (by decide)).trans ((st_ne (by decide)).trans ((st_ne (by decide)).trans ((st_ne (by decide)).trans ((st_ne (by decide)).trans ((st_ne (by decide)).trans ((st_ne (by decide)).trans ((st_ne (by decide)).trans ((st_ne (by decide)).trans ((st_ne (by decide)).trans ((st_ne (by decide)).trans ((st_ne (by decide)).trans ((st_ne (by decide)).trans ((st_ne (by decide)).trans ((st_ne (by decide)).trans ((st_ne (by decide)).trans ((st_ne (by decide)).trans ((st_ne (by decide)).trans ((st_ne (by decide)).trans ((st_ne (by decide)).trans ((st_ne (by decide)).trans ((st_ne (by decide)).trans ((st_ne (by decide)).trans ((st_ne (by decide)).trans ((st_ne (by decide)).trans ((st_ne (by decide)).trans st_at))))))))))))))))))))))))))) ((st_ne (by decide)).trans ((st_ne (by decide)).trans ((st_ne (by decide)).trans ((st_ne (by decide)).trans ((st_ne (by decide)).trans ((st_ne (by decide)).trans ((st_ne (by decide)).trans ((st_ne (by decide)).trans ((st_ne (by decide)).trans ((st_ne (by decide)).trans ((st_ne (by decide)).trans ((st_ne (by decide)).trans ((st_ne (by decide)).trans ((st_ne (by decide)).trans st_at))))))))))))))) gs_X12_112 hs_X12_insert ⟨Nat.le_of_ble_eq_true rfl, Nat.le_of_ble_eq_true rfl⟩ hl.1 rfl (Nat.le_of_ble_eq_true rfl) ⟨Nat.zero_le _, Nat.zero_le _⟩ dX12_sourcesBy_89 (fun H locs w => ?_)
  refine lv_iinc (v := 1) (lv' := [(6, .int 1), (5, .int 3), (4, .int (nI k)), (3, .int (nI k)), (2, .int 9), (0, .ref (B + 146)), (1, .int 2)]) hx hb dX12_sourcesBy_92 hl (k := 1) rfl (by decide) (by decide) rfl (fun ls hl => ?_)
  refine lv_goto (tgt := 64) hx hb dX12_sourcesBy_95 (by decide) ?_
  refine lv_iload hx hb dX12_sourcesBy_64 (lv_at hl 0 rfl) ?_
  refine lv_iload_n hx hb dX12_sourcesBy_66 rfl (lv_at hl 6 rfl) ?_
  refine lv_icmp_ge (tgt := 98) hx hb dX12_sourcesBy_67 (by decide) (fun c1 => absurd c1 (by decide)) (fun _ => ?_)
  refine lv_iload hx hb dX12_sourcesBy_70 (lv_at hl 1 rfl) ?_
  refine lv_iconst (v := 3) hx hb dX12_sourcesBy_72 (by decide) ?_
  refine lv_idiv hx hb dX12_sourcesBy_73 (by decide) ?_
  refine r_val (v := 1) (by decide) ?_
  refine lv_istore (lv' := [(5, .int 1), (6, .int 1), (4, .int (nI k)), (3, .int (nI k)), (2, .int 9), (0, .ref (B + 146)), (1, .int 2)]) hx hb dX12_sourcesBy_74 hl (by decide) rfl (fun ls hl => ?_)
  refine lv_aload_n hx hb dX12_sourcesBy_76 rfl (lv_at hl 5 rfl) ?_
  refine f_12_2 F w (a := 146) rfl tb_127 dX12_sourcesBy_77 ?_
  refine lv_iload hx hb dX12_sourcesBy_80 (lv_at hl 1 rfl) ?_
  refine lv_iload hx hb dX12_sourcesBy_82 (lv_at hl 2 rfl) ?_
  refine lv_iload hx hb dX12_sourcesBy_84 (lv_at hl 0 rfl) ?_
  refine lv_idiv hx hb dX12_sourcesBy_86 (by decide) ?_
  refine lv_iconst (v := 3) hx hb dX12_sourcesBy_87 (by decide) ?_
  refine lv_irem hx hb dX12_sourcesBy_88 (by decide) ?_
  refine x_Sv F w (As := [.ref (B + 148), .int 1, .int (((nI k) / 1) - ((nI k) / 1) / 3 * 3)]) (rest := []) (c_X12_insert_406 (st_at) ((st_ne (by decide)).trans ((st_ne (by decide)).trans ((st_ne (by decide)).trans ((st_ne (by decide)).trans ((st_ne (by decide)).trans ((st_ne (by decide)).trans ((st_ne (by decide)).trans ((st_ne (by decide)).trans ((st_ne (by decide)).trans ((st_ne (by decide)).trans ((st_ne (by decide)).trans ((st_ne (by decide)).trans ((st_ne (by decide)).trans ((st_ne (by decide)).trans ((st_ne (by decide)).trans st_at)))))))))))))))) gs_X12_112 hs_X12_insert ⟨Nat.le_of_ble_eq_true rfl, Nat.le_of_ble_eq_true rfl⟩ hl.1 rfl (Nat.le_of_ble_eq_true rfl) ⟨Nat.zero_le _, Nat.zero_le _⟩ dX12_sourcesBy_89 (fun H locs w => ?_)
  refine lv_iinc (v := 2) (lv' := [(6, .int 2), (5, .int 1), (4, .int (nI k)), (3, .int (nI k)), (2, .int 9), (0, .ref (B + 146)), (1, .int 2)]) hx hb dX12_sourcesBy_92 hl (k := 1) rfl (by decide) (by decide) rfl (fun ls hl => ?_)
  refine lv_goto (tgt := 64) hx hb dX12_sourcesBy_95 (by decide) ?_
  refine lv_iload hx hb dX12_sourcesBy_64 (lv_at hl 0 rfl) ?_
  refine lv_iload_n hx hb dX12_sourcesBy_66 rfl (lv_at hl 6 rfl) ?_
  refine lv_icmp_ge (tgt := 98) hx hb dX12_sourcesBy_67 (by decide) (fun _ => ?_) (fun c1 => absurd c1 (by decide))
  refine lv_iconst (v := 0) hx hb dX12_sourcesBy_98 (by decide) ?_
  refine lv_istore (lv' := [(6, .int 0), (5, .int 1), (4, .int (nI k)), (3, .int (nI k)), (2, .int 9), (0, .ref (B + 146)), (1, .int 2)]) hx hb dX12_sourcesBy_99 hl (by decide) rfl (fun ls hl => ?_)
  refine lv_iload hx hb dX12_sourcesBy_101 (lv_at hl 0 rfl) ?_
  refine lv_aload_n hx hb dX12_sourcesBy_103 rfl (lv_at hl 5 rfl) ?_
  refine f_12_5 F w (a := 146) rfl tb_227 dX12_sourcesBy_104 ?_
  refine r_val (v := 0) ((st_ne (by decide)).trans ((st_ne (by decide)).trans ((st_ne (by decide)).trans ((st_ne (by decide)).trans ((st_ne (by decide)).trans ((st_ne (by decide)).trans ((st_ne (by decide)).trans ((st_ne (by decide)).trans ((st_ne (by decide)).trans ((st_ne (by decide)).trans ((st_ne (by decide)).trans ((st_ne (by decide)).trans ((st_ne (by decide)).trans ((st_ne (by decide)).trans ((st_ne (by decide)).trans ((st_ne (by decide)).trans ((st_ne (by decide)).trans ((st_ne (by decide)).trans ((st_ne (by decide)).trans ((st_ne (by decide)).trans ((st_ne (by decide)).trans ((st_ne (by decide)).trans ((st_ne (by decide)).trans ((st_ne (by decide)).trans ((st_ne (by decide)).trans ((st_ne (by decide)).trans ((st_ne (by decide)).trans ((st_ne (by decide)).trans ((st_ne (by decide)).trans ((st_ne (by decide)).trans ((st_ne (by decide)).trans ((st_ne (by decide)).trans h29)))))))))))))))))))))))))))))))) ?_
  refine lv_icmp_ge (tgt := 123) hx hb dX12_sourcesBy_107 (by decide) (fun _ => ?_) (fun c1 => absurd c1 (by decide))
  refine lv_aload_n hx hb dX12_sourcesBy_123 rfl (lv_at hl 5 rfl) ?_
  refine x_Vi F w (As := []) (rest := []) (a := 146) (by decide) (sh_12 rfl _ _) rfl (c_X12_isDue_357 ((st_ne (by decide)).trans ((st_ne (by decide)).trans ((st_ne (by decide)).trans ((st_ne (by decide)).trans ((st_ne (by decide)).trans ((st_ne (by decide)).trans st_at))))))) gv_X12_306 hv_X12_isDue ⟨Nat.le_of_ble_eq_true rfl, Nat.le_of_ble_eq_true rfl⟩ hl.1 rfl (Nat.le_of_ble_eq_true rfl) ⟨Nat.zero_le _, Nat.zero_le _⟩ dX12_sourcesBy_124 (fun H locs w => ?_)
  refine lv_if_ne (tgt := 133) hx hb dX12_sourcesBy_127 (by decide) (fun _ => ?_) (fun c1 => absurd c1 (by decide))
  refine lv_iload_n hx hb dX12_sourcesBy_133 rfl (lv_at hl 3 rfl) ?_
  refine lv_if_ne (tgt := 143) hx hb dX12_sourcesBy_134 (by decide) (fun _ => ?_) (fun c1 => absurd c1 h30)
  refine lv_iinc (v := ((nI k) + 1)) (lv' := [(3, .int ((nI k) + 1)), (6, .int 0), (5, .int 1), (4, .int (nI k)), (2, .int 9), (0, .ref (B + 146)), (1, .int 2)]) hx hb dX12_sourcesBy_143 hl (k := 3) rfl rfl (by decide) rfl (fun ls hl => ?_)
  refine lv_iinc (v := ((nI k) + 1)) (lv' := [(4, .int ((nI k) + 1)), (3, .int ((nI k) + 1)), (6, .int 0), (5, .int 1), (2, .int 9), (0, .ref (B + 146)), (1, .int 2)]) hx hb dX12_sourcesBy_146 hl (k := 3) rfl rfl (by decide) rfl (fun ls hl => ?_)
  refine lv_goto (tgt := 34) hx hb dX12_sourcesBy_149 (by decide) ?_
  exact kk _ _ _ w (lv_sub hl [0, 1, 4, 5, 6] rfl)
set_option maxRecDepth 8000 in
theorem ex_X12_sourcesBy_407 {p : Program} {l : Launch} {e : Env} {s : State} {m : MethodId} {args : Array Value} {below : List Frame} {meth : Method} {c : Code} {D : va_G} {B : Nat} {cy : Nat → ClassId} {H : Heap} {locs : List Loc} {ls : Array Slot} {M : Mem} {post : Int32 → Mem → Prop} (F : CallFix p m c cX12_sourcesBy 7 s args TB RX12) (hr : meth.sig.returnType = (some .int)) (hlocks : meth.locks = false) (w : Wd D B cy s s.heap M H locs) (hl : lv_has ls 7 [(4, .int 9), (3, .int 9), (2, .int 9), (0, .ref (B + 146)), (1, .int 2)]) (hp : post 9 M) : W p l e (rmm 3 66) s m args below meth c H locs 0 0 (MQ below (va_Qi post (fun M1 t => Wp D B cy M1 t) (fun q => B ≤ q)) args s 0 0 (fun q => B ≤ q)) (F0 m 34 ls []) := by
  have hx := F.1
  have hb := F.2.1
  refine lv_iload hx hb dX12_sourcesBy_34 (lv_at hl 0 rfl) ?_
  refine lv_iload_n hx hb dX12_sourcesBy_36 rfl (lv_at hl 2 rfl) ?_
  refine lv_icmp_ge (tgt := 152) hx hb dX12_sourcesBy_37 (by decide) (fun _ => ?_) (fun c1 => absurd c1 (by decide))
  refine lv_iload_n hx hb dX12_sourcesBy_152 rfl (lv_at hl 1 rfl) ?_
  exact e_i F w hr hlocks hp dX12_sourcesBy_153
set_option maxRecDepth 8000 in
theorem lp_X12_sourcesBy_407 {p : Program} {l : Launch} {e : Env} {s : State} {m : MethodId} {args : Array Value} {below : List Frame} {meth : Method} {c : Code} {D : va_G} {B : Nat} {cy : Nat → ClassId} (F : CallFix p m c cX12_sourcesBy 7 s args TB RX12) (hr : meth.sig.returnType = (some .int)) (hlocks : meth.locks = false) : ∀ (n k : Nat), n + k = 9 → 1 ≤ k → ∀ (M : Mem) (H : Heap) (locs : List Loc) (ls : Array Slot), Wd D B cy s s.heap M H locs → lv_has ls 7 [(4, .int (nI k)), (3, .int (nI k)), (2, .int 9), (0, .ref (B + 146)), (1, .int 2)] → (M.1 147 0 = 0) → (M.1 147 1 = 0) → (M.1 147 2 = 0) → (M.1 147 3 = 0) → (M.1 147 4 = 0) → (M.1 147 5 = 0) → (M.1 147 6 = 0) → (M.1 147 7 = 0) → (M.1 147 8 = 0) → (M.1 147 9 = 0) → (M.1 147 10 = 0) → (M.1 147 11 = 0) → (M.1 147 12 = 0) → (M.1 147 13 = 0) → (M.1 147 14 = 0) → (M.1 147 15 = 0) → (M.1 147 16 = 0) → (M.1 147 17 = 0) → (M.1 147 18 = 0) → (M.1 147 19 = 0) → (M.1 147 20 = 0) → (M.1 147 21 = 0) → (M.1 147 22 = 0) → (M.1 147 23 = 0) → (M.1 147 24 = 0) → (M.1 147 25 = 0) → (M.1 147 26 = 0) → (M.1 147 27 = 0) → (M.1 146 5 = 0) → (M.1 146 26 = 0) → W p l e (rmm 3 66) s m args below meth c H locs 0 0 (MQ below (va_Qi (fun r M1 => r = 9 ∧ M1.1 146 26 = 0) (fun M1 t => Wp D B cy M1 t) (fun q => B ≤ q)) args s 0 0 (fun q => B ≤ q)) (F0 m 34 ls []) := by
  intro n
  induction n with
  | zero =>
    intro k hk h1 M H locs ls w hl h0 h1 h2 h3 h4 h5 h6 h7 h8 h9 h10 h11 h12 h13 h14 h15 h16 h17 h18 h19 h20 h21 h22 h23 h24 h25 h26 h27 h28 h29
    have hk : k = 9 := by omega
    subst hk
    exact ex_X12_sourcesBy_407 (post := fun r M1 => r = 9 ∧ M1.1 146 26 = 0) F hr hlocks w hl  ⟨rfl, h29⟩
  | succ n ih =>
    intro k hk h1 M H locs ls w hl h0 h1 h2 h3 h4 h5 h6 h7 h8 h9 h10 h11 h12 h13 h14 h15 h16 h17 h18 h19 h20 h21 h22 h23 h24 h25 h26 h27 h28 h29
    exact bd_X12_sourcesBy_407 F w hl (show ¬ nI 9 ≤ nI k from nI_ge (by omega) (by decide)) h0 h1 h2 h3 h4 h5 h6 h7 h8 h9 h10 h11 h12 h13 h14 h15 h16 h17 h18 h19 h20 h21 h22 h23 h24 h25 h26 h27 h28 (nI_ne0 (by omega) (by omega)) (fun H1 locs1 ls1 w1 hl1 => ih (k + 1) (by omega) (by omega) _ H1 locs1 ls1 w1 (by rw [nI_1] at hl1; exact hl1) ((st_ne (by decide)).trans ((st_ne (by decide)).trans ((st_ne (by decide)).trans ((st_ne (by decide)).trans ((st_ne (by decide)).trans ((st_ne (by decide)).trans ((st_ne (by decide)).trans ((st_ne (by decide)).trans ((st_ne (by decide)).trans ((st_ne (by decide)).trans ((st_ne (by decide)).trans ((st_ne (by decide)).trans ((st_ne (by decide)).trans ((st_ne (by decide)).trans ((st_ne (by decide)).trans ((st_ne (by decide)).trans ((st_ne (by decide)).trans ((st_ne (by decide)).trans ((st_ne (by decide)).trans ((st_ne (by decide)).trans ((st_ne (by decide)).trans ((st_ne (by decide)).trans ((st_ne (by decide)).trans ((st_ne (by decide)).trans ((st_ne (by decide)).trans ((st_ne (by decide)).trans ((st_ne (by decide)).trans ((st_ne (by decide)).trans ((st_ne (by decide)).trans ((st_ne (by decide)).trans ((st_ne (by decide)).trans ((st_ne (by decide)).trans h0)))))))))))))))))))))))))))))))) ((st_ne (by decide)).trans ((st_ne (by decide)).trans ((st_ne (by decide)).trans ((st_ne (by decide)).trans ((st_ne (by decide)).trans ((st_ne (by decide)).trans ((st_ne (by decide)).trans ((st_ne (by decide)).trans ((st_ne (by decide)).trans ((st_ne (by decide)).trans ((st_ne (by decide)).trans ((st_ne (by decide)).trans ((st_ne (by decide)).trans ((st_ne (by decide)).trans ((st_ne (by decide)).trans ((st_ne (by decide)).trans ((st_ne (by decide)).trans ((st_ne (by decide)).trans ((st_ne (by decide)).trans ((st_ne (by decide)).trans ((st_ne (by decide)).trans ((st_ne (by decide)).trans ((st_ne (by decide)).trans ((st_ne (by decide)).trans ((st_ne (by decide)).trans ((st_ne (by decide)).trans ((st_ne (by decide)).trans ((st_ne (by decide)).trans ((st_ne (by decide)).trans ((st_ne (by decide)).trans ((st_ne (by decide)).trans ((st_ne (by decide)).trans h1)))))))))))))))))))))))))))))))) ((st_ne (by decide)).trans ((st_ne (by decide)).trans ((st_ne (by decide)).trans ((st_ne (by decide)).trans ((st_ne (by decide)).trans ((st_ne (by decide)).trans ((st_ne (by decide)).trans ((st_ne (by decide)).trans ((st_ne (by decide)).trans ((st_ne (by decide)).trans ((st_ne (by decide)).trans ((st_ne (by decide)).trans ((st_ne (by decide)).trans ((st_ne (by decide)).trans ((st_ne (by decide)).trans ((st_ne (by decide)).trans ((st_ne (by decide)).trans ((st_ne (by decide)).trans ((st_ne (by decide)).trans ((st_ne (by decide)).trans ((st_ne (by decide)).trans ((st_ne (by decide)).trans ((st_ne (by decide)).trans ((st_ne (by decide)).trans ((st_ne (by decide)).trans ((st_ne (by decide)).trans ((st_ne (by decide)).trans ((st_ne (by decide)).trans ((st_ne (by decide)).trans ((st_ne (by decide)).trans ((st_ne (by decide)).trans ((st_ne (by decide)).trans h2)))))))))))))))))))))))))))))))) ((st_ne (by decide)).trans ((st_ne (by decide)).trans ((st_ne (by decide)).trans ((st_ne (by decide)).trans ((st_ne (by decide)).trans ((st_ne (by decide)).trans ((st_ne (by decide)).trans ((st_ne (by decide)).trans ((st_ne (by decide)).trans ((st_ne (by decide)).trans ((st_ne (by decide)).trans ((st_ne (by decide)).trans ((st_ne (by decide)).trans ((st_ne (by decide)).trans ((st_ne (by decide)).trans ((st_ne (by decide)).trans ((st_ne (by decide)).trans ((st_ne (by decide)).trans ((st_ne (by decide)).trans ((st_ne (by decide)).trans ((st_ne (by decide)).trans ((st_ne (by decide)).trans ((st_ne (by decide)).trans ((st_ne (by decide)).trans ((st_ne (by decide)).trans ((st_ne (by decide)).trans ((st_ne (by decide)).trans ((st_ne (by decide)).trans ((st_ne (by decide)).trans ((st_ne (by decide)).trans ((st_ne (by decide)).trans ((st_ne (by decide)).trans h3)))))))))))))))))))))))))))))))) ((st_ne (by decide)).trans ((st_ne (by decide)).trans ((st_ne (by decide)).trans ((st_ne (by decide)).trans ((st_ne (by decide)).trans ((st_ne (by decide)).trans ((st_ne (by decide)).trans ((st_ne (by decide)).trans ((st_ne (by decide)).trans ((st_ne (by decide)).trans ((st_ne (by decide)).trans ((st_ne (by decide)).trans ((st_ne (by decide)).trans ((st_ne (by decide)).trans ((st_ne (by decide)).trans ((st_ne (by decide)).trans ((st_ne (by decide)).trans ((st_ne (by decide)).trans ((st_ne (by decide)).trans ((st_ne (by decide)).trans ((st_ne (by decide)).trans ((st_ne (by decide)).trans ((st_ne (by decide)).trans ((st_ne (by decide)).trans ((st_ne (by decide)).trans ((st_ne (by decide)).trans ((st_ne (by decide)).trans ((st_ne (by decide)).trans ((st_ne (by decide)).trans ((st_ne (by decide)).trans ((st_ne (by decide)).trans ((st_ne (by decide)).trans h4)))))))))))))))))))))))))))))))) ((st_ne (by decide)).trans ((st_ne (by decide)).trans ((st_ne (by decide)).trans ((st_ne (by decide)).trans ((st_ne (by decide)).trans ((st_ne (by decide)).trans ((st_ne (by decide)).trans ((st_ne (by decide)).trans ((st_ne (by decide)).trans ((st_ne (by decide)).trans ((st_ne (by decide)).trans ((st_ne (by decide)).trans ((st_ne (by decide)).trans ((st_ne (by decide)).trans ((st_ne (by decide)).trans ((st_ne (by decide)).trans ((st_ne (by decide)).trans ((st_ne (by decide)).trans ((st_ne (by decide)).trans ((st_ne (by decide)).trans ((st_ne (by decide)).trans ((st_ne (by decide)).trans ((st_ne (by decide)).trans ((st_ne (by decide)).trans ((st_ne (by decide)).trans ((st_ne (by decide)).trans ((st_ne (by decide)).trans ((st_ne (by decide)).trans ((st_ne (by decide)).trans ((st_ne (by decide)).trans ((st_ne (by decide)).trans ((st_ne (by decide)).trans h5)))))))))))))))))))))))))))))))) ((st_ne (by decide)).trans ((st_ne (by decide)).trans ((st_ne (by decide)).trans ((st_ne (by decide)).trans ((st_ne (by decide)).trans ((st_ne (by decide)).trans ((st_ne (by decide)).trans ((st_ne (by decide)).trans ((st_ne (by decide)).trans ((st_ne (by decide)).trans ((st_ne (by decide)).trans ((st_ne (by decide)).trans ((st_ne (by decide)).trans ((st_ne (by decide)).trans ((st_ne (by decide)).trans ((st_ne (by decide)).trans ((st_ne (by decide)).trans ((st_ne (by decide)).trans ((st_ne (by decide)).trans ((st_ne (by decide)).trans ((st_ne (by decide)).trans ((st_ne (by decide)).trans ((st_ne (by decide)).trans ((st_ne (by decide)).trans ((st_ne (by decide)).trans ((st_ne (by decide)).trans ((st_ne (by decide)).trans ((st_ne (by decide)).trans ((st_ne (by decide)).trans ((st_ne (by decide)).trans ((st_ne (by decide)).trans ((st_ne (by decide)).trans h6)))))))))))))))))))))))))))))))) ((st_ne (by decide)).trans ((st_ne (by decide)).trans ((st_ne (by decide)).trans ((st_ne (by decide)).trans ((st_ne (by decide)).trans ((st_ne (by decide)).trans ((st_ne (by decide)).trans ((st_ne (by decide)).trans ((st_ne (by decide)).trans ((st_ne (by decide)).trans ((st_ne (by decide)).trans ((st_ne (by decide)).trans ((st_ne (by decide)).trans ((st_ne (by decide)).trans ((st_ne (by decide)).trans ((st_ne (by decide)).trans ((st_ne (by decide)).trans ((st_ne (by decide)).trans ((st_ne (by decide)).trans ((st_ne (by decide)).trans ((st_ne (by decide)).trans ((st_ne (by decide)).trans ((st_ne (by decide)).trans ((st_ne (by decide)).trans ((st_ne (by decide)).trans ((st_ne (by decide)).trans ((st_ne (by decide)).trans ((st_ne (by decide)).trans ((st_ne (by decide)).trans ((st_ne (by decide)).trans ((st_ne (by decide)).trans ((st_ne (by decide)).trans h7)))))))))))))))))))))))))))))))) ((st_ne (by decide)).trans ((st_ne (by decide)).trans ((st_ne (by decide)).trans ((st_ne (by decide)).trans ((st_ne (by decide)).trans ((st_ne (by decide)).trans ((st_ne (by decide)).trans ((st_ne (by decide)).trans ((st_ne (by decide)).trans ((st_ne (by decide)).trans ((st_ne (by decide)).trans ((st_ne (by decide)).trans ((st_ne (by decide)).trans ((st_ne (by decide)).trans ((st_ne (by decide)).trans ((st_ne (by decide)).trans ((st_ne (by decide)).trans ((st_ne (by decide)).trans ((st_ne (by decide)).trans ((st_ne (by decide)).trans ((st_ne (by decide)).trans ((st_ne (by decide)).trans ((st_ne (by decide)).trans ((st_ne (by decide)).trans ((st_ne (by decide)).trans ((st_ne (by decide)).trans ((st_ne (by decide)).trans ((st_ne (by decide)).trans ((st_ne (by decide)).trans ((st_ne (by decide)).trans ((st_ne (by decide)).trans ((st_ne (by decide)).trans h8)))))))))))))))))))))))))))))))) ((st_ne (by decide)).trans ((st_ne (by decide)).trans ((st_ne (by decide)).trans ((st_ne (by decide)).trans ((st_ne (by decide)).trans ((st_ne (by decide)).trans ((st_ne (by decide)).trans ((st_ne (by decide)).trans ((st_ne (by decide)).trans ((st_ne (by decide)).trans ((st_ne (by decide)).trans ((st_ne (by decide)).trans ((st_ne (by decide)).trans ((st_ne (by decide)).trans ((st_ne (by decide)).trans ((st_ne (by decide)).trans ((st_ne (by decide)).trans ((st_ne (by decide)).trans ((st_ne (by decide)).trans ((st_ne (by decide)).trans ((st_ne (by decide)).trans ((st_ne (by decide)).trans ((st_ne (by decide)).trans ((st_ne (by decide)).trans ((st_ne (by decide)).trans ((st_ne (by decide)).trans ((st_ne (by decide)).trans ((st_ne (by decide)).trans ((st_ne (by decide)).trans ((st_ne (by decide)).trans ((st_ne (by decide)).trans ((st_ne (by decide)).trans h9)))))))))))))))))))))))))))))))) ((st_ne (by decide)).trans ((st_ne (by decide)).trans ((st_ne (by decide)).trans ((st_ne (by decide)).trans ((st_ne (by decide)).trans ((st_ne (by decide)).trans ((st_ne (by decide)).trans ((st_ne (by decide)).trans ((st_ne (by decide)).trans ((st_ne (by decide)).trans ((st_ne (by decide)).trans ((st_ne (by decide)).trans ((st_ne (by decide)).trans ((st_ne (by decide)).trans ((st_ne (by decide)).trans ((st_ne (by decide)).trans ((st_ne (by decide)).trans ((st_ne (by decide)).trans ((st_ne (by decide)).trans ((st_ne (by decide)).trans ((st_ne (by decide)).trans ((st_ne (by decide)).trans ((st_ne (by decide)).trans ((st_ne (by decide)).trans ((st_ne (by decide)).trans ((st_ne (by decide)).trans ((st_ne (by decide)).trans ((st_ne (by decide)).trans ((st_ne (by decide)).trans ((st_ne (by decide)).trans ((st_ne (by decide)).trans ((st_ne (by decide)).trans h10)))))))))))))))))))))))))))))))) ((st_ne (by decide)).trans ((st_ne (by decide)).trans ((st_ne (by decide)).trans ((st_ne (by decide)).trans ((st_ne (by decide)).trans ((st_ne (by decide)).trans ((st_ne (by decide)).trans ((st_ne (by decide)).trans ((st_ne (by decide)).trans ((st_ne (by decide)).trans ((st_ne (by decide)).trans ((st_ne (by decide)).trans ((st_ne (by decide)).trans ((st_ne (by decide)).trans ((st_ne (by decide)).trans ((st_ne (by decide)).trans ((st_ne (by decide)).trans ((st_ne (by decide)).trans ((st_ne (by decide)).trans ((st_ne (by decide)).trans ((st_ne (by decide)).trans ((st_ne (by decide)).trans ((st_ne (by decide)).trans ((st_ne (by decide)).trans ((st_ne (by decide)).trans ((st_ne (by decide)).trans ((st_ne (by decide)).trans ((st_ne (by decide)).trans ((st_ne (by decide)).trans ((st_ne (by decide)).trans ((st_ne (by decide)).trans ((st_ne (by decide)).trans h11)))))))))))))))))))))))))))))))) ((st_ne (by decide)).trans ((st_ne (by decide)).trans ((st_ne (by decide)).trans ((st_ne (by decide)).trans ((st_ne (by decide)).trans ((st_ne (by decide)).trans ((st_ne (by decide)).trans ((st_ne (by decide)).trans ((st_ne (by decide)).trans ((st_ne (by decide)).trans ((st_ne (by decide)).trans ((st_ne (by decide)).trans ((st_ne (by decide)).trans ((st_ne (by decide)).trans ((st_ne (by decide)).trans ((st_ne (by decide)).trans ((st_ne (by decide)).trans ((st_ne (by decide)).trans ((st_ne (by decide)).trans ((st_ne (by decide)).trans ((st_ne (by decide)).trans ((st_ne (by decide)).trans ((st_ne (by decide)).trans ((st_ne (by decide)).trans ((st_ne (by decide)).trans ((st_ne (by decide)).trans ((st_ne (by decide)).trans ((st_ne (by decide)).trans ((st_ne (by decide)).trans ((st_ne (by decide)).trans ((st_ne (by decide)).trans ((st_ne (by decide)).trans h12)))))))))))))))))))))))))))))))) ((st_ne (by decide)).trans ((st_ne (by decide)).trans ((st_ne (by decide)).trans ((st_ne (by decide)).trans ((st_ne (by decide)).trans ((st_ne (by decide)).trans ((st_ne (by decide)).trans ((st_ne (by decide)).trans ((st_ne (by decide)).trans ((st_ne (by decide)).trans ((st_ne (by decide)).trans ((st_ne (by decide)).trans ((st_ne (by decide)).trans ((st_ne (by decide)).trans ((st_ne (by decide)).trans ((st_ne (by decide)).trans ((st_ne (by decide)).trans ((st_ne (by decide)).trans ((st_ne (by decide)).trans ((st_ne (by decide)).trans ((st_ne (by decide)).trans ((st_ne (by decide)).trans ((st_ne (by decide)).trans ((st_ne (by decide)).trans ((st_ne (by decide)).trans ((st_ne (by decide)).trans ((st_ne (by decide)).trans ((st_ne (by decide)).trans ((st_ne (by decide)).trans ((st_ne (by decide)).trans ((st_ne (by decide)).trans ((st_ne (by decide)).trans h13)))))))))))))))))))))))))))))))) ((st_ne (by decide)).trans ((st_ne (by decide)).trans ((st_ne (by decide)).trans ((st_ne (by decide)).trans ((st_ne (by decide)).trans ((st_ne (by decide)).trans ((st_ne (by decide)).trans ((st_ne (by decide)).trans ((st_ne (by decide)).trans ((st_ne (by decide)).trans ((st_ne (by decide)).trans ((st_ne (by decide)).trans ((st_ne (by decide)).trans ((st_ne (by decide)).trans ((st_ne (by decide)).trans ((st_ne (by decide)).trans ((st_ne (by decide)).trans ((st_ne (by decide)).trans ((st_ne (by decide)).trans ((st_ne (by decide)).trans ((st_ne (by decide)).trans ((st_ne (by decide)).trans ((st_ne (by decide)).trans ((st_ne (by decide)).trans ((st_ne (by decide)).trans ((st_ne (by decide)).trans ((st_ne (by decide)).trans ((st_ne (by decide)).trans ((st_ne (by decide)).trans ((st_ne (by decide)).trans ((st_ne (by decide)).trans ((st_ne (by decide)).trans h14)))))))))))))))))))))))))))))))) ((st_ne (by decide)).trans ((st_ne (by decide)).trans ((st_ne (by decide)).trans ((st_ne (by decide)).trans ((st_ne (by decide)).trans ((st_ne (by decide)).trans ((st_ne (by decide)).trans ((st_ne (by decide)).trans ((st_ne (by decide)).trans ((st_ne (by decide)).trans ((st_ne (by decide)).trans ((st_ne (by decide)).trans ((st_ne (by decide)).trans ((st_ne (by decide)).trans ((st_ne (by decide)).trans ((st_ne (by decide)).trans ((st_ne (by decide)).trans ((st_ne (by decide)).trans ((st_ne (by decide)).trans ((st_ne (by decide)).trans ((st_ne (by decide)).trans ((st_ne (by decide)).trans ((st_ne (by decide)).trans ((st_ne (by decide)).trans ((st_ne (by decide)).trans ((st_ne (by decide)).trans ((st_ne (by decide)).trans ((st_ne (by decide)).trans ((st_ne (by decide)).trans ((st_ne (by decide)).trans ((st_ne (by decide)).trans ((st_ne (by decide)).trans h15)))))))))))))))))))))))))))))))) ((st_ne (by decide)).trans ((st_ne (by decide)).trans ((st_ne (by decide)).trans ((st_ne (by decide)).trans ((st_ne (by decide)).trans ((st_ne (by decide)).trans ((st_ne (by decide)).trans ((st_ne (by decide)).trans ((st_ne (by decide)).trans ((st_ne (by decide)).trans ((st_ne (by decide)).trans ((st_ne (by decide)).trans ((st_ne (by decide)).trans ((st_ne (by decide)).trans ((st_ne (by decide)).trans ((st_ne (by decide)).trans ((st_ne (by decide)).trans ((st_ne (by decide)).trans ((st_ne (by decide)).trans ((st_ne (by decide)).trans ((st_ne (by decide)).trans ((st_ne (by decide)).trans ((st_ne (by decide)).trans ((st_ne (by decide)).trans ((st_ne (by decide)).trans ((st_ne (by decide)).trans ((st_ne (by decide)).trans ((st_ne (by decide)).trans ((st_ne (by decide)).trans ((st_ne (by decide)).trans ((st_ne (by decide)).trans ((st_ne (by decide)).trans h16)))))))))))))))))))))))))))))))) ((st_ne (by decide)).trans ((st_ne (by decide)).trans ((st_ne (by decide)).trans ((st_ne (by decide)).trans ((st_ne (by decide)).trans ((st_ne (by decide)).trans ((st_ne (by decide)).trans ((st_ne (by decide)).trans ((st_ne (by decide)).trans ((st_ne (by decide)).trans ((st_ne (by decide)).trans ((st_ne (by decide)).trans ((st_ne (by decide)).trans ((st_ne (by decide)).trans ((st_ne (by decide)).trans ((st_ne (by decide)).trans ((st_ne (by decide)).trans ((st_ne (by decide)).trans ((st_ne (by decide)).trans ((st_ne (by decide)).trans ((st_ne (by decide)).trans ((st_ne (by decide)).trans ((st_ne (by decide)).trans ((st_ne (by decide)).trans ((st_ne (by decide)).trans ((st_ne (by decide)).trans ((st_ne (by decide)).trans ((st_ne (by decide)).trans ((st_ne (by decide)).trans ((st_ne (by decide)).trans ((st_ne (by decide)).trans ((st_ne (by decide)).trans h17)))))))))))))))))))))))))))))))) ((st_ne (by decide)).trans ((st_ne (by decide)).trans ((st_ne (by decide)).trans ((st_ne (by decide)).trans ((st_ne (by decide)).trans ((st_ne (by decide)).trans ((st_ne (by decide)).trans ((st_ne (by decide)).trans ((st_ne (by decide)).trans ((st_ne (by decide)).trans ((st_ne (by decide)).trans ((st_ne (by decide)).trans ((st_ne (by decide)).trans ((st_ne (by decide)).trans ((st_ne (by decide)).trans ((st_ne (by decide)).trans ((st_ne (by decide)).trans ((st_ne (by decide)).trans ((st_ne (by decide)).trans ((st_ne (by decide)).trans ((st_ne (by decide)).trans ((st_ne (by decide)).trans ((st_ne (by decide)).trans ((st_ne (by decide)).trans ((st_ne (by decide)).trans ((st_ne (by decide)).trans ((st_ne (by decide)).trans ((st_ne (by decide)).trans ((st_ne (by decide)).trans ((st_ne (by decide)).trans ((st_ne (by decide)).trans ((st_ne (by decide)).trans h18)))))))))))))))))))))))))))))))) ((st_ne (by decide)).trans ((st_ne (by decide)).trans ((st_ne (by decide)).trans ((st_ne (by decide)).trans ((st_ne (by decide)).trans ((st_ne (by decide)).trans ((st_ne (by decide)).trans ((st_ne (by decide)).trans ((st_ne (by decide)).trans ((st_ne (by decide)).trans ((st_ne (by decide)).trans ((st_ne (by decide)).trans ((st_ne (by decide)).trans ((st_ne (by decide)).trans ((st_ne (by decide)).trans ((st_ne (by decide)).trans ((st_ne (by decide)).trans ((st_ne (by decide)).trans ((st_ne (by decide)).trans ((st_ne (by decide)).trans ((st_ne (by decide)).trans ((st_ne (by decide)).trans ((st_ne (by decide)).trans ((st_ne (by decide)).trans ((st_ne (by decide)).trans ((st_ne (by decide)).trans ((st_ne (by decide)).trans ((st_ne (by decide)).trans ((st_ne (by decide)).trans ((st_ne (by decide)).trans ((st_ne (by decide)).trans ((st_ne (by decide)).trans h19)))))))))))))))))))))))))))))))) ((st_ne (by decide)).trans ((st_ne (by decide)).trans ((st_ne (by decide)).trans ((st_ne (by decide)).trans ((st_ne (by decide)).trans ((st_ne (by decide)).trans ((st_ne (by decide)).trans ((st_ne (by decide)).trans ((st_ne (by decide)).trans ((st_ne (by decide)).trans ((st_ne (by decide)).trans ((st_ne (by decide)).trans ((st_ne (by decide)).trans ((st_ne (by decide)).trans ((st_ne (by decide)).trans ((st_ne (by decide)).trans ((st_ne (by decide)).trans ((st_ne (by decide)).trans ((st_ne (by decide)).trans ((st_ne (by decide)).trans ((st_ne (by decide)).trans ((st_ne (by decide)).trans ((st_ne (by decide)).trans ((st_ne (by decide)).trans ((st_ne (by decide)).trans ((st_ne (by decide)).trans ((st_ne (by decide)).trans ((st_ne (by decide)).trans ((st_ne (by decide)).trans ((st_ne (by decide)).trans ((st_ne (by decide)).trans ((st_ne (by decide)).trans h20)))))))))))))))))))))))))))))))) ((st_ne (by decide)).trans ((st_ne (by decide)).trans ((st_ne (by decide)).trans ((st_ne (by decide)).trans ((st_ne (by decide)).trans ((st_ne (by decide)).trans ((st_ne (by decide)).trans ((st_ne (by decide)).trans ((st_ne (by decide)).trans ((st_ne (by decide)).trans ((st_ne (by decide)).trans ((st_ne (by decide)).trans ((st_ne (by decide)).trans ((st_ne (by decide)).trans ((st_ne (by decide)).trans ((st_ne (by decide)).trans ((st_ne (by decide)).trans ((st_ne (by decide)).trans ((st_ne (by decide)).trans ((st_ne (by decide)).trans ((st_ne (by decide)).trans ((st_ne (by decide)).trans ((st_ne (by decide)).trans ((st_ne (by decide)).trans ((st_ne (by decide)).trans ((st_ne (by decide)).trans ((st_ne (by decide)).trans ((st_ne (by decide)).trans ((st_ne (by decide)).trans ((st_ne (by decide)).trans ((st_ne (by decide)).trans ((st_ne (by decide)).trans h21)))))))))))))))))))))))))))))))) ((st_ne (by decide)).trans ((st_ne (by decide)).trans ((st_ne (by decide)).trans ((st_ne (by decide)).trans ((st_ne (by decide)).trans ((st_ne (by decide)).trans ((st_ne (by decide)).trans ((st_ne (by decide)).trans ((st_ne (by decide)).trans ((st_ne (by decide)).trans ((st_ne (by decide)).trans ((st_ne (by decide)).trans ((st_ne (by decide)).trans ((st_ne (by decide)).trans ((st_ne (by decide)).trans ((st_ne (by decide)).trans ((st_ne (by decide)).trans ((st_ne (by decide)).trans ((st_ne (by decide)).trans ((st_ne (by decide)).trans ((st_ne (by decide)).trans ((st_ne (by decide)).trans ((st_ne (by decide)).trans ((st_ne (by decide)).trans ((st_ne (by decide)).trans ((st_ne (by decide)).trans ((st_ne (by decide)).trans ((st_ne (by decide)).trans ((st_ne (by decide)).trans ((st_ne (by decide)).trans ((st_ne (by decide)).trans ((st_ne (by decide)).trans h22)))))))))))))))))))))))))))))))) ((st_ne (by decide)).trans ((st_ne (by decide)).trans ((st_ne (by decide)).trans ((st_ne (by decide)).trans ((st_ne (by decide)).trans ((st_ne (by decide)).trans ((st_ne (by decide)).trans ((st_ne (by decide)).trans ((st_ne (by decide)).trans ((st_ne (by decide)).trans ((st_ne (by decide)).trans ((st_ne (by decide)).trans ((st_ne (by decide)).trans ((st_ne (by decide)).trans ((st_ne (by decide)).trans ((st_ne (by decide)).trans ((st_ne (by decide)).trans ((st_ne (by decide)).trans ((st_ne (by decide)).trans ((st_ne (by decide)).trans ((st_ne (by decide)).trans ((st_ne (by decide)).trans ((st_ne (by decide)).trans ((st_ne (by decide)).trans ((st_ne (by decide)).trans ((st_ne (by decide)).trans ((st_ne (by decide)).trans ((st_ne (by decide)).trans ((st_ne (by decide)).trans ((st_ne (by decide)).trans ((st_ne (by decide)).trans ((st_ne (by decide)).trans h23)))))))))))))))))))))))))))))))) ((st_ne (by decide)).trans ((st_ne (by decide)).trans ((st_ne (by decide)).trans ((st_ne (by decide)).trans ((st_ne (by decide)).trans ((st_ne (by decide)).trans ((st_ne (by decide)).trans ((st_ne (by decide)).trans ((st_ne (by decide)).trans ((st_ne (by decide)).trans ((st_ne (by decide)).trans ((st_ne (by decide)).trans ((st_ne (by decide)).trans ((st_ne (by decide)).trans ((st_ne (by decide)).trans ((st_ne (by decide)).trans ((st_ne (by decide)).trans ((st_ne (by decide)).trans ((st_ne (by decide)).trans ((st_ne (by decide)).trans ((st_ne (by decide)).trans ((st_ne (by decide)).trans ((st_ne (by decide)).trans ((st_ne (by decide)).trans ((st_ne (by decide)).trans ((st_ne (by decide)).trans ((st_ne (by decide)).trans ((st_ne (by decide)).trans ((st_ne (by decide)).trans ((st_ne (by decide)).trans ((st_ne (by decide)).trans ((st_ne (by decide)).trans h24)))))))))))))))))))))))))))))))) ((st_ne (by decide)).trans ((st_ne (by decide)).trans ((st_ne (by decide)).trans ((st_ne (by decide)).trans ((st_ne (by decide)).trans ((st_ne (by decide)).trans ((st_ne (by decide)).trans ((st_ne (by decide)).trans ((st_ne (by decide)).trans ((st_ne (by decide)).trans ((st_ne (by decide)).trans ((st_ne (by decide)).trans ((st_ne (by decide)).trans ((st_ne (by decide)).trans ((st_ne (by decide)).trans ((st_ne (by decide)).trans ((st_ne (by decide)).trans ((st_ne (by decide)).trans ((st_ne (by decide)).trans ((st_ne (by decide)).trans ((st_ne (by decide)).trans ((st_ne (by decide)).trans ((st_ne (by decide)).trans ((st_ne (by decide)).trans ((st_ne (by decide)).trans ((st_ne (by decide)).trans ((st_ne (by decide)).trans ((st_ne (by decide)).trans ((st_ne (by decide)).trans ((st_ne (by decide)).trans ((st_ne (by decide)).trans ((st_ne (by decide)).trans h25)))))))))))))))))))))))))))))))) ((st_ne (by decide)).trans ((st_ne (by decide)).trans ((st_ne (by decide)).trans ((st_ne (by decide)).trans ((st_ne (by decide)).trans ((st_ne (by decide)).trans ((st_ne (by decide)).trans ((st_ne (by decide)).trans ((st_ne (by decide)).trans ((st_ne (by decide)).trans ((st_ne (by decide)).trans ((st_ne (by decide)).trans ((st_ne (by decide)).trans ((st_ne (by decide)).trans ((st_ne (by decide)).trans ((st_ne (by decide)).trans ((st_ne (by decide)).trans ((st_ne (by decide)).trans ((st_ne (by decide)).trans ((st_ne (by decide)).trans ((st_ne (by decide)).trans ((st_ne (by decide)).trans ((st_ne (by decide)).trans ((st_ne (by decide)).trans ((st_ne (by decide)).trans ((st_ne (by decide)).trans ((st_ne (by decide)).trans ((st_ne (by decide)).trans ((st_ne (by decide)).trans ((st_ne (by decide)).trans ((st_ne (by decide)).trans ((st_ne (by decide)).trans h26)))))))))))))))))))))))))))))))) ((st_ne (by decide)).trans ((st_ne (by decide)).trans ((st_ne (by decide)).trans ((st_ne (by decide)).trans ((st_ne (by decide)).trans ((st_ne (by decide)).trans ((st_ne (by decide)).trans ((st_ne (by decide)).trans ((st_ne (by decide)).trans ((st_ne (by decide)).trans ((st_ne (by decide)).trans ((st_ne (by decide)).trans ((st_ne (by decide)).trans ((st_ne (by decide)).trans ((st_ne (by decide)).trans ((st_ne (by decide)).trans ((st_ne (by decide)).trans ((st_ne (by decide)).trans ((st_ne (by decide)).trans ((st_ne (by decide)).trans ((st_ne (by decide)).trans ((st_ne (by decide)).trans ((st_ne (by decide)).trans ((st_ne (by decide)).trans ((st_ne (by decide)).trans ((st_ne (by decide)).trans ((st_ne (by decide)).trans ((st_ne (by decide)).trans ((st_ne (by decide)).trans ((st_ne (by decide)).trans ((st_ne (by decide)).trans ((st_ne (by decide)).trans h27)))))))))))))))))))))))))))))))) ((st_ne (by decide)).trans ((st_ne (by decide)).trans ((st_ne (by decide)).trans ((st_ne (by decide)).trans ((st_ne (by decide)).trans ((st_ne (by decide)).trans ((st_ne (by decide)).trans ((st_ne (by decide)).trans ((st_ne (by decide)).trans ((st_ne (by decide)).trans ((st_ne (by decide)).trans ((st_ne (by decide)).trans ((st_ne (by decide)).trans ((st_ne (by decide)).trans ((st_ne (by decide)).trans ((st_ne (by decide)).trans ((st_ne (by decide)).trans ((st_ne (by decide)).trans ((st_ne (by decide)).trans ((st_ne (by decide)).trans ((st_ne (by decide)).trans ((st_ne (by decide)).trans ((st_ne (by decide)).trans ((st_ne (by decide)).trans ((st_ne (by decide)).trans ((st_ne (by decide)).trans ((st_ne (by decide)).trans ((st_ne (by decide)).trans ((st_ne (by decide)).trans ((st_ne (by decide)).trans ((st_ne (by decide)).trans ((st_ne (by decide)).trans h28)))))))))))))))))))))))))))))))) ((st_ne (by decide)).trans ((st_ne (by decide)).trans ((st_ne (by decide)).trans ((st_ne (by decide)).trans ((st_ne (by decide)).trans ((st_ne (by decide)).trans ((st_ne (by decide)).trans ((st_ne (by decide)).trans ((st_ne (by decide)).trans ((st_ne (by decide)).trans ((st_ne (by decide)).trans ((st_ne (by decide)).trans ((st_ne (by decide)).trans ((st_ne (by decide)).trans ((st_ne (by decide)).trans ((st_ne (by decide)).trans ((st_ne (by decide)).trans ((st_ne (by decide)).trans ((st_ne (by decide)).trans ((st_ne (by decide)).trans ((st_ne (by decide)).trans ((st_ne (by decide)).trans ((st_ne (by decide)).trans ((st_ne (by decide)).trans ((st_ne (by decide)).trans ((st_ne (by decide)).trans ((st_ne (by decide)).trans ((st_ne (by decide)).trans ((st_ne (by decide)).trans ((st_ne (by decide)).trans ((st_ne (by decide)).trans ((st_ne (by decide)).trans h29)))))))))))))))))))))))))))))))))
set_option maxRecDepth 8000 in
theorem c_X12_sourcesBy_407 {l : Launch} {D : va_G} {B : Nat} {cy : Nat → ClassId} {M : Mem} (h0 : M.1 146 5 = 0) (h1 : M.1 147 0 = 0) (h2 : M.1 148 0 = 0) (h3 : M.1 147 1 = 0) (h4 : M.1 148 1 = 0) (h5 : M.1 147 2 = 0) (h6 : M.1 148 2 = 0) (h7 : M.1 147 3 = 0) (h8 : M.1 148 3 = 0) (h9 : M.1 147 4 = 0) (h10 : M.1 148 4 = 0) (h11 : M.1 147 5 = 0) (h12 : M.1 148 5 = 0) (h13 : M.1 147 6 = 0) (h14 : M.1 148 6 = 0) (h15 : M.1 147 7 = 0) (h16 : M.1 148 7 = 0) (h17 : M.1 147 8 = 0) (h18 : M.1 148 8 = 0) (h19 : M.1 147 9 = 0) (h20 : M.1 148 9 = 0) (h21 : M.1 147 10 = 0) (h22 : M.1 148 10 = 0) (h23 : M.1 147 11 = 0) (h24 : M.1 148 11 = 0) (h25 : M.1 147 12 = 0) (h26 : M.1 148 12 = 0) (h27 : M.1 147 13 = 0) (h28 : M.1 148 13 = 0) (h29 : M.1 147 14 = 0) (h30 : M.1 148 14 = 0) (h31 : M.1 147 15 = 0) (h32 : M.1 148 15 = 0) (h33 : M.1 147 16 = 0) (h34 : M.1 148 16 = 0) (h35 : M.1 147 17 = 0) (h36 : M.1 148 17 = 0) (h37 : M.1 147 18 = 0) (h38 : M.1 148 18 = 0) (h39 : M.1 147 19 = 0) (h40 : M.1 148 19 = 0) (h41 : M.1 147 20 = 0) (h42 : M.1 148 20 = 0) (h43 : M.1 147 21 = 0) (h44 : M.1 148 21 = 0) (h45 : M.1 147 22 = 0) (h46 : M.1 148 22 = 0) (h47 : M.1 147 23 = 0) (h48 : M.1 148 23 = 0) (h49 : M.1 147 24 = 0) (h50 : M.1 148 24 = 0) (h51 : M.1 147 25 = 0) (h52 : M.1 148 25 = 0) (h53 : M.1 147 26 = 0) (h54 : M.1 148 26 = 0) (h55 : M.1 147 27 = 0) (h56 : M.1 148 27 = 0) (h57 : M.1 157 0 = 0) (h58 : M.1 157 1 = 0) (h59 : M.1 157 2 = 0) (h60 : M.1 157 3 = 0) (h61 : M.1 157 4 = 0) (h62 : M.1 157 5 = 0) (h63 : M.1 157 6 = 0) (h64 : M.1 157 7 = 0) (h65 : M.1 157 8 = 0) (h66 : M.1 157 9 = 0) (h67 : M.1 157 10 = 0) (h68 : M.1 157 11 = 0) (h69 : M.1 146 26 = 0) : Ci l D B cy yX12_sourcesBy cX12_sourcesBy 7 (some .int) 3 66 [.ref (B + 146), .int 2] M (fun r M1 => r = 9 ∧ M1.1 146 26 = 0) := by
  refine s_any (by decide) (Nat.le_of_ble_eq_true rfl) ?_
  intro p e s m below meth c ls F hr hlocks w hl
  have F : CallFix p m c cX12_sourcesBy 7 s _ TB RX12 := F
  have hx := F.1
  have hb := F.2.1
  have hl : lv_has ls 7 [(0, .ref (B + 146)), (1, .int 2)] := hl
  refine lv_aload_n hx hb dX12_sourcesBy_0 rfl (lv_at hl 0 rfl) ?_
  refine x_Vv F w (As := []) (rest := []) (a := 146) (by decide) (sh_12 rfl _ _) rfl (c_X12_laysDue_340 (h0) (h1) (h2) (h3) (h4) (h5) (h6) (h7) (h8) (h9) (h10) (h11) (h12) (h13) (h14) (h15) (h16) (h17) (h18) (h19) (h20) (h21) (h22) (h23) (h24) (h25) (h26) (h27) (h28) (h29) (h30) (h31) (h32) (h33) (h34) (h35) (h36) (h37) (h38) (h39) (h40) (h41) (h42) (h43) (h44) (h45) (h46) (h47) (h48) (h49) (h50) (h51) (h52) (h53) (h54) (h55) (h56) (h57) (h58) (h59) (h60) (h61) (h62) (h63) (h64) (h65) (h66) (h67) (h68)) gv_X12_303 hv_X12_laysDue ⟨Nat.le_of_ble_eq_true rfl, Nat.le_of_ble_eq_true rfl⟩ hl.1 rfl (Nat.le_of_ble_eq_true rfl) ⟨Nat.zero_le _, Nat.zero_le _⟩ dX12_sourcesBy_1 (fun H locs w => ?_)
  refine lv_aload_n hx hb dX12_sourcesBy_4 rfl (lv_at hl 0 rfl) ?_
  refine lv_bipush (v := (-2)) hx hb dX12_sourcesBy_5 (by decide) ?_
  refine u_12_26 F w (a := 146) rfl tb_567 dX12_sourcesBy_7 (fun H locs w => ?_)
  refine lv_iconst (v := 1) hx hb dX12_sourcesBy_10 (by decide) ?_
  refine lv_istore_n (lv' := [(2, .int 1), (0, .ref (B + 146)), (1, .int 2)]) hx hb dX12_sourcesBy_11 rfl hl (by decide) rfl (fun ls hl => ?_)
  refine lv_iconst (v := 0) hx hb dX12_sourcesBy_12 (by decide) ?_
  refine lv_istore_n (lv' := [(3, .int 0), (2, .int 1), (0, .ref (B + 146)), (1, .int 2)]) hx hb dX12_sourcesBy_13 rfl hl (by decide) rfl (fun ls hl => ?_)
  refine lv_iload_n hx hb dX12_sourcesBy_14 rfl (lv_at hl 0 rfl) ?_
  refine lv_iload_n hx hb dX12_sourcesBy_15 rfl (lv_at hl 3 rfl) ?_
  refine lv_icmp_ge (tgt := 29) hx hb dX12_sourcesBy_16 (by decide) (fun c1 => absurd c1 (by decide)) (fun _ => ?_)
  refine lv_iload_n hx hb dX12_sourcesBy_19 rfl (lv_at hl 1 rfl) ?_
  refine lv_iconst (v := 3) hx hb dX12_sourcesBy_20 (by decide) ?_
  refine lv_imul hx hb dX12_sourcesBy_21 ?_
  refine r_val (v := 3) (by decide) ?_
  refine lv_istore_n (lv' := [(2, .int 3), (3, .int 0), (0, .ref (B + 146)), (1, .int 2)]) hx hb dX12_sourcesBy_22 rfl hl (by decide) rfl (fun ls hl => ?_)
  refine lv_iinc (v := 1) (lv' := [(3, .int 1), (2, .int 3), (0, .ref (B + 146)), (1, .int 2)]) hx hb dX12_sourcesBy_23 hl (k := 1) rfl (by decide) (by decide) rfl (fun ls hl => ?_)
  refine lv_goto (tgt := 14) hx hb dX12_sourcesBy_26 (by decide) ?_
  refine lv_iload_n hx hb dX12_sourcesBy_14 rfl (lv_at hl 0 rfl) ?_
  refine lv_iload_n hx hb dX12_sourcesBy_15 rfl (lv_at hl 3 rfl) ?_
  refine lv_icmp_ge (tgt := 29) hx hb dX12_sourcesBy_16 (by decide) (fun c1 => absurd c1 (by decide)) (fun _ => ?_)
  refine lv_iload_n hx hb dX12_sourcesBy_19 rfl (lv_at hl 1 rfl) ?_
  refine lv_iconst (v := 3) hx hb dX12_sourcesBy_20 (by decide) ?_
  refine lv_imul hx hb dX12_sourcesBy_21 ?_
  refine r_val (v := 9) (by decide) ?_
  refine lv_istore_n (lv' := [(2, .int 9), (3, .int 1), (0, .ref (B + 146)), (1, .int 2)]) hx hb dX12_sourcesBy_22 rfl hl (by decide) rfl (fun ls hl => ?_)
  refine lv_iinc (v := 2) (lv' := [(3, .int 2), (2, .int 9), (0, .ref (B + 146)), (1, .int 2)]) hx hb dX12_sourcesBy_23 hl (k := 1) rfl (by decide) (by decide) rfl (fun ls hl => ?_)
  refine lv_goto (tgt := 14) hx hb dX12_sourcesBy_26 (by decide) ?_
  refine lv_iload_n hx hb dX12_sourcesBy_14 rfl (lv_at hl 0 rfl) ?_
  refine lv_iload_n hx hb dX12_sourcesBy_15 rfl (lv_at hl 3 rfl) ?_
  refine lv_icmp_ge (tgt := 29) hx hb dX12_sourcesBy_16 (by decide) (fun _ => ?_) (fun c1 => absurd c1 (by decide))
  refine lv_iconst (v := 0) hx hb dX12_sourcesBy_29 (by decide) ?_
  refine lv_istore_n (lv' := [(3, .int 0), (2, .int 9), (0, .ref (B + 146)), (1, .int 2)]) hx hb dX12_sourcesBy_30 rfl hl (by decide) rfl (fun ls hl => ?_)
  refine lv_iconst (v := 0) hx hb dX12_sourcesBy_31 (by decide) ?_
  refine lv_istore (lv' := [(4, .int 0), (3, .int 0), (2, .int 9), (0, .ref (B + 146)), (1, .int 2)]) hx hb dX12_sourcesBy_32 hl (by decide) rfl (fun ls hl => ?_)
  refine lv_iload hx hb dX12_sourcesBy_34 (lv_at hl 0 rfl) ?_
  refine lv_iload_n hx hb dX12_sourcesBy_36 rfl (lv_at hl 2 rfl) ?_
  refine lv_icmp_ge (tgt := 152) hx hb dX12_sourcesBy_37 (by decide) (fun c1 => absurd c1 (by decide)) (fun _ => ?_)
  refine lv_aload_n hx hb dX12_sourcesBy_40 rfl (lv_at hl 3 rfl) ?_
  refine f_12_2 F w (a := 146) rfl tb_127 dX12_sourcesBy_41 ?_
  refine lv_aload_n hx hb dX12_sourcesBy_44 rfl (lv_at hl 3 rfl) ?_
  refine f_12_1 F w (a := 146) rfl tb_126 dX12_sourcesBy_45 ?_
  refine x_Sv F w (As := [.ref (B + 148), .ref (B + 147)]) (rest := []) (c_X12_copy_211 ((st_ne (by decide)).trans h1) ((st_ne (by decide)).trans h2) ((st_ne (by decide)).trans h3) ((st_ne (by decide)).trans h4) ((st_ne (by decide)).trans h5) ((st_ne (by decide)).trans h6) ((st_ne (by decide)).trans h7) ((st_ne (by decide)).trans h8) ((st_ne (by decide)).trans h9) ((st_ne (by decide)).trans h10) ((st_ne (by decide)).trans h11) ((st_ne (by decide)).trans h12) ((st_ne (by decide)).trans h13) ((st_ne (by decide)).trans h14) ((st_ne (by decide)).trans h15) ((st_ne (by decide)).trans h16) ((st_ne (by decide)).trans h17) ((st_ne (by decide)).trans h18) ((st_ne (by decide)).trans h19) ((st_ne (by decide)).trans h20) ((st_ne (by decide)).trans h21) ((st_ne (by decide)).trans h22) ((st_ne (by decide)).trans h23) ((st_ne (by decide)).trans h24) ((st_ne (by decide)).trans h25) ((st_ne (by decide)).trans h26) ((st_ne (by decide)).trans h27) ((st_ne (by decide)).trans h28) ((st_ne (by decide)).trans h29) ((st_ne (by decide)).trans h30) ((st_ne (by decide)).trans h31) ((st_ne (by decide)).trans h32) ((st_ne (by decide)).trans h33) ((st_ne (by decide)).trans h34) ((st_ne (by decide)).trans h35) ((st_ne (by decide)).trans h36) ((st_ne (by decide)).trans h37) ((st_ne (by decide)).trans h38) ((st_ne (by decide)).trans h39) ((st_ne (by decide)).trans h40) ((st_ne (by decide)).trans h41) ((st_ne (by decide)).trans h42) ((st_ne (by decide)).trans h43) ((st_ne (by decide)).trans h44) ((st_ne (by decide)).trans h45) ((st_ne (by decide)).trans h46) ((st_ne (by decide)).trans h47) ((st_ne (by decide)).trans h48) ((st_ne (by decide)).trans h49) ((st_ne (by decide)).trans h50) ((st_ne (by decide)).trans h51) ((st_ne (by decide)).trans h52) ((st_ne (by decide)).trans h53) ((st_ne (by decide)).trans h54) ((st_ne (by decide)).trans h55) ((st_ne (by decide)).trans h56)) gs_X12_162 hs_X12_copy ⟨Nat.le_of_ble_eq_true rfl, Nat.le_of_ble_eq_true rfl⟩ hl.1 rfl (Nat.le_of_ble_eq_true rfl) ⟨Nat.zero_le _, Nat.zero_le _⟩ dX12_sourcesBy_48 (fun H locs w => ?_)
  refine lv_aload_n hx hb dX12_sourcesBy_51 rfl (lv_at hl 3 rfl) ?_
  refine f_12_2 F w (a := 146) rfl tb_127 dX12_sourcesBy_52 ?_
  refine lv_iconst (v := 0) hx hb dX12_sourcesBy_55 (by decide) ?_
  refine lv_iconst (v := 0) hx hb dX12_sourcesBy_56 (by decide) ?_
  refine g_iast F w (a := 148) rfl (j := 0) ⟨by decide, by decide⟩ (by decide) dX12_sourcesBy_57 (fun H locs w => ?_)
  rw [st_same ((st_ne (by decide)).trans h2)] at w
  refine lv_iload_n hx hb dX12_sourcesBy_58 rfl (lv_at hl 2 rfl) ?_
  refine lv_istore (lv' := [(5, .int 9), (4, .int 0), (3, .int 0), (2, .int 9), (0, .ref (B + 146)), (1, .int 2)]) hx hb dX12_sourcesBy_59 hl (by decide) rfl (fun ls hl => ?_)
  refine lv_iconst (v := 0) hx hb dX12_sourcesBy_61 (by decide) ?_
  refine lv_istore (lv' := [(6, .int 0), (5, .int 9), (4, .int 0), (3, .int 0), (2, .int 9), (0, .ref (B + 146)), (1, .int 2)]) hx hb dX12_sourcesBy_62 hl (by decide) rfl (fun ls hl => ?_)
  refine lv_iload hx hb dX12_sourcesBy_64 (lv_at hl 0 rfl) ?_
  refine lv_iload_n hx hb dX12_sourcesBy_66 rfl (lv_at hl 6 rfl) ?_
  refine lv_icmp_ge (tgt := 98) hx hb dX12_sourcesBy_67 (by decide) (fun c1 => absurd c1 (by decide)) (fun _ => ?_)
  refine lv_iload hx hb dX12_sourcesBy_70 (lv_at hl 1 rfl) ?_
  refine lv_iconst (v := 3) hx hb dX12_sourcesBy_72 (by decide) ?_
  refine lv_idiv hx hb dX12_sourcesBy_73 (by decide) ?_
  refine r_val (v := 3) (by decide) ?_
  refine lv_istore (lv' := [(5, .int 3), (6, .int 0), (4, .int 0), (3, .int 0), (2, .int 9), (0, .ref (B + 146)), (1, .int 2)]) hx hb dX12_sourcesBy_74 hl (by decide) rfl (fun ls hl => ?_)
  refine lv_aload_n hx hb dX12_sourcesBy_76 rfl (lv_at hl 5 rfl) ?_
  refine f_12_2 F w (a := 146) rfl tb_127 dX12_sourcesBy_77 ?_
  refine lv_iload hx hb dX12_sourcesBy_80 (lv_at hl 1 rfl) ?_
  refine lv_iload hx hb dX12_sourcesBy_82 (lv_at hl 2 rfl) ?_
  refine lv_iload hx hb dX12_sourcesBy_84 (lv_at hl 0 rfl) ?_
  refine lv_idiv hx hb dX12_sourcesBy_86 (by decide) ?_
  refine r_val (v := 0) (by decide) ?_
  refine lv_iconst (v := 3) hx hb dX12_sourcesBy_87 (by decide) ?_
  refine lv_irem hx hb dX12_sourcesBy_88 (by decide) ?_
  refine r_val (v := 0) (by decide) ?_
  refine x_Sv F w (As := [.ref (B + 148), .int 0, .int 0]) (rest := []) (c_X12_insert_389 ((st_ne (by decide)).trans h2) ((st_ne (by decide)).trans h4) ((st_ne (by decide)).trans h28)) gs_X12_112 hs_X12_insert ⟨Nat.le_of_ble_eq_true rfl, Nat.le_of_ble_eq_true rfl⟩ hl.1 rfl (Nat.le_of_ble_eq_true rfl) ⟨Nat.zero_le _, Nat.zero_le _⟩ dX12_sourcesBy_89 (fun H locs w => ?_)
  refine lv_iinc (v := 1) (lv' := [(6, .int 1), (5, .int 3), (4, .int 0), (3, .int 0), (2, .int 9), (0, .ref (B + 146)), (1, .int 2)]) hx hb dX12_sourcesBy_92 hl (k := 1) rfl (by decide) (by decide) rfl (fun ls hl => ?_)
  refine lv_goto (tgt := 64) hx hb dX12_sourcesBy_95 (by decide) ?_
  refine lv_iload hx hb dX12_sourcesBy_64 (lv_at hl 0 rfl) ?_
  refine lv_iload_n hx hb dX12_sourcesBy_66 rfl (lv_at hl 6 rfl) ?_
  refine lv_icmp_ge (tgt := 98) hx hb dX12_sourcesBy_67 (by decide) (fun c1 => absurd c1 (by decide)) (fun _ => ?_)
  refine lv_iload hx hb dX12_sourcesBy_70 (lv_at hl 1 rfl) ?_
  refine lv_iconst (v := 3) hx hb dX12_sourcesBy_72 (by decide) ?_
  refine lv_idiv hx hb dX12_sourcesBy_73 (by decide) ?_
  refine r_val (v := 1) (by decide) ?_
  refine lv_istore (lv' := [(5, .int 1), (6, .int 1), (4, .int 0), (3, .int 0), (2, .int 9), (0, .ref (B + 146)), (1, .int 2)]) hx hb dX12_sourcesBy_74 hl (by decide) rfl (fun ls hl => ?_)
  refine lv_aload_n hx hb dX12_sourcesBy_76 rfl (lv_at hl 5 rfl) ?_
  refine f_12_2 F w (a := 146) rfl tb_127 dX12_sourcesBy_77 ?_
  refine lv_iload hx hb dX12_sourcesBy_80 (lv_at hl 1 rfl) ?_
  refine lv_iload hx hb dX12_sourcesBy_82 (lv_at hl 2 rfl) ?_
  refine lv_iload hx hb dX12_sourcesBy_84 (lv_at hl 0 rfl) ?_
  refine lv_idiv hx hb dX12_sourcesBy_86 (by decide) ?_
  refine r_val (v := 0) (by decide) ?_
  refine lv_iconst (v := 3) hx hb dX12_sourcesBy_87 (by decide) ?_
  refine lv_irem hx hb dX12_sourcesBy_88 (by decide) ?_
  refine r_val (v := 0) (by decide) ?_
  refine x_Sv F w (As := [.ref (B + 148), .int 1, .int 0]) (rest := []) (c_X12_insert_404 (st_at) ((st_ne (by decide)).trans ((st_ne (by decide)).trans h6)) ((st_ne (by decide)).trans ((st_ne (by decide)).trans h30))) gs_X12_112 hs_X12_insert ⟨Nat.le_of_ble_eq_true rfl, Nat.le_of_ble_eq_true rfl⟩ hl.1 rfl (Nat.le_of_ble_eq_true rfl) ⟨Nat.zero_le _, Nat.zero_le _⟩ dX12_sourcesBy_89 (fun H locs w => ?_)
  refine lv_iinc (v := 2) (lv' := [(6, .int 2), (5, .int 1), (4, .int 0), (3, .int 0), (2, .int 9), (0, .ref (B + 146)), (1, .int 2)]) hx hb dX12_sourcesBy_92 hl (k := 1) rfl (by decide) (by decide) rfl (fun ls hl => ?_)
  refine lv_goto (tgt := 64) hx hb dX12_sourcesBy_95 (by decide) ?_
  refine lv_iload hx hb dX12_sourcesBy_64 (lv_at hl 0 rfl) ?_
  refine lv_iload_n hx hb dX12_sourcesBy_66 rfl (lv_at hl 6 rfl) ?_
  refine lv_icmp_ge (tgt := 98) hx hb dX12_sourcesBy_67 (by decide) (fun _ => ?_) (fun c1 => absurd c1 (by decide))
  refine lv_iconst (v := 0) hx hb dX12_sourcesBy_98 (by decide) ?_
  refine lv_istore (lv' := [(6, .int 0), (5, .int 1), (4, .int 0), (3, .int 0), (2, .int 9), (0, .ref (B + 146)), (1, .int 2)]) hx hb dX12_sourcesBy_99 hl (by decide) rfl (fun ls hl => ?_)
  refine lv_iload hx hb dX12_sourcesBy_101 (lv_at hl 0 rfl) ?_
  refine lv_aload_n hx hb dX12_sourcesBy_103 rfl (lv_at hl 5 rfl) ?_
  refine f_12_5 F w (a := 146) rfl tb_227 dX12_sourcesBy_104 ?_
  refine r_val (v := 0) ((st_ne (by decide)).trans ((st_ne (by decide)).trans ((st_ne (by decide)).trans h0))) ?_
  refine lv_icmp_ge (tgt := 123) hx hb dX12_sourcesBy_107 (by decide) (fun _ => ?_) (fun c1 => absurd c1 (by decide))
  refine lv_aload_n hx hb dX12_sourcesBy_123 rfl (lv_at hl 5 rfl) ?_
  refine x_Vi F w (As := []) (rest := []) (a := 146) (by decide) (sh_12 rfl _ _) rfl (c_X12_isDue_357 ((st_ne (by decide)).trans ((st_ne (by decide)).trans ((st_ne (by decide)).trans h52)))) gv_X12_306 hv_X12_isDue ⟨Nat.le_of_ble_eq_true rfl, Nat.le_of_ble_eq_true rfl⟩ hl.1 rfl (Nat.le_of_ble_eq_true rfl) ⟨Nat.zero_le _, Nat.zero_le _⟩ dX12_sourcesBy_124 (fun H locs w => ?_)
  refine lv_if_ne (tgt := 133) hx hb dX12_sourcesBy_127 (by decide) (fun _ => ?_) (fun c1 => absurd c1 (by decide))
  refine lv_iload_n hx hb dX12_sourcesBy_133 rfl (lv_at hl 3 rfl) ?_
  refine lv_if_ne (tgt := 143) hx hb dX12_sourcesBy_134 (by decide) (fun c1 => absurd c1 (by decide)) (fun _ => ?_)
  refine lv_aload_n hx hb dX12_sourcesBy_137 rfl (lv_at hl 5 rfl) ?_
  refine lv_iload hx hb dX12_sourcesBy_138 (lv_at hl 2 rfl) ?_
  refine u_12_26 F w (a := 146) rfl tb_567 dX12_sourcesBy_140 (fun H locs w => ?_)
  refine lv_iinc (v := 1) (lv' := [(3, .int 1), (6, .int 0), (5, .int 1), (4, .int 0), (2, .int 9), (0, .ref (B + 146)), (1, .int 2)]) hx hb dX12_sourcesBy_143 hl (k := 3) rfl (by decide) (by decide) rfl (fun ls hl => ?_)
  refine lv_iinc (v := 1) (lv' := [(4, .int 1), (3, .int 1), (6, .int 0), (5, .int 1), (2, .int 9), (0, .ref (B + 146)), (1, .int 2)]) hx hb dX12_sourcesBy_146 hl (k := 3) rfl (by decide) (by decide) rfl (fun ls hl => ?_)
  refine lv_goto (tgt := 34) hx hb dX12_sourcesBy_149 (by decide) ?_
  exact lp_X12_sourcesBy_407 F hr hlocks 8 1 (by decide) (by decide) _ H locs ls w (show lv_has ls 7 [(4, .int 1), (3, .int 1), (2, .int 9), (0, .ref (B + 146)), (1, .int 2)] from lv_sub hl [0, 1, 4, 5, 6] rfl) ((st_ne (by decide)).trans ((st_ne (by decide)).trans ((st_ne (by decide)).trans ((st_ne (by decide)).trans h1)))) ((st_ne (by decide)).trans ((st_ne (by decide)).trans ((st_ne (by decide)).trans ((st_ne (by decide)).trans h3)))) ((st_ne (by decide)).trans ((st_ne (by decide)).trans ((st_ne (by decide)).trans ((st_ne (by decide)).trans h5)))) ((st_ne (by decide)).trans ((st_ne (by decide)).trans ((st_ne (by decide)).trans ((st_ne (by decide)).trans h7)))) ((st_ne (by decide)).trans ((st_ne (by decide)).trans ((st_ne (by decide)).trans ((st_ne (by decide)).trans h9)))) ((st_ne (by decide)).trans ((st_ne (by decide)).trans ((st_ne (by decide)).trans ((st_ne (by decide)).trans h11)))) ((st_ne (by decide)).trans ((st_ne (by decide)).trans ((st_ne (by decide)).trans ((st_ne (by decide)).trans h13)))) ((st_ne (by decide)).trans ((st_ne (by decide)).trans ((st_ne (by decide)).trans ((st_ne (by decide)).trans h15)))) ((st_ne (by decide)).trans ((st_ne (by decide)).trans ((st_ne (by decide)).trans ((st_ne (by decide)).trans h17)))) ((st_ne (by decide)).trans ((st_ne (by decide)).trans ((st_ne (by decide)).trans ((st_ne (by decide)).trans h19)))) ((st_ne (by decide)).trans ((st_ne (by decide)).trans ((st_ne (by decide)).trans ((st_ne (by decide)).trans h21)))) ((st_ne (by decide)).trans ((st_ne (by decide)).trans ((st_ne (by decide)).trans ((st_ne (by decide)).trans h23)))) ((st_ne (by decide)).trans ((st_ne (by decide)).trans ((st_ne (by decide)).trans ((st_ne (by decide)).trans h25)))) ((st_ne (by decide)).trans ((st_ne (by decide)).trans ((st_ne (by decide)).trans ((st_ne (by decide)).trans h27)))) ((st_ne (by decide)).trans ((st_ne (by decide)).trans ((st_ne (by decide)).trans ((st_ne (by decide)).trans h29)))) ((st_ne (by decide)).trans ((st_ne (by decide)).trans ((st_ne (by decide)).trans ((st_ne (by decide)).trans h31)))) ((st_ne (by decide)).trans ((st_ne (by decide)).trans ((st_ne (by decide)).trans ((st_ne (by decide)).trans h33)))) ((st_ne (by decide)).trans ((st_ne (by decide)).trans ((st_ne (by decide)).trans ((st_ne (by decide)).trans h35)))) ((st_ne (by decide)).trans ((st_ne (by decide)).trans ((st_ne (by decide)).trans ((st_ne (by decide)).trans h37)))) ((st_ne (by decide)).trans ((st_ne (by decide)).trans ((st_ne (by decide)).trans ((st_ne (by decide)).trans h39)))) ((st_ne (by decide)).trans ((st_ne (by decide)).trans ((st_ne (by decide)).trans ((st_ne (by decide)).trans h41)))) ((st_ne (by decide)).trans ((st_ne (by decide)).trans ((st_ne (by decide)).trans ((st_ne (by decide)).trans h43)))) ((st_ne (by decide)).trans ((st_ne (by decide)).trans ((st_ne (by decide)).trans ((st_ne (by decide)).trans h45)))) ((st_ne (by decide)).trans ((st_ne (by decide)).trans ((st_ne (by decide)).trans ((st_ne (by decide)).trans h47)))) ((st_ne (by decide)).trans ((st_ne (by decide)).trans ((st_ne (by decide)).trans ((st_ne (by decide)).trans h49)))) ((st_ne (by decide)).trans ((st_ne (by decide)).trans ((st_ne (by decide)).trans ((st_ne (by decide)).trans h51)))) ((st_ne (by decide)).trans ((st_ne (by decide)).trans ((st_ne (by decide)).trans ((st_ne (by decide)).trans h53)))) ((st_ne (by decide)).trans ((st_ne (by decide)).trans ((st_ne (by decide)).trans ((st_ne (by decide)).trans h55)))) ((st_ne (by decide)).trans ((st_ne (by decide)).trans ((st_ne (by decide)).trans ((st_ne (by decide)).trans h0)))) (st_at)
set_option maxRecDepth 4000 in
theorem c_X12_sources_408 {l : Launch} {D : va_G} {B : Nat} {cy : Nat → ClassId} {M : Mem} (h0 : M.1 146 5 = 0) (h1 : M.1 147 0 = 0) (h2 : M.1 148 0 = 0) (h3 : M.1 147 1 = 0) (h4 : M.1 148 1 = 0) (h5 : M.1 147 2 = 0) (h6 : M.1 148 2 = 0) (h7 : M.1 147 3 = 0) (h8 : M.1 148 3 = 0) (h9 : M.1 147 4 = 0) (h10 : M.1 148 4 = 0) (h11 : M.1 147 5 = 0) (h12 : M.1 148 5 = 0) (h13 : M.1 147 6 = 0) (h14 : M.1 148 6 = 0) (h15 : M.1 147 7 = 0) (h16 : M.1 148 7 = 0) (h17 : M.1 147 8 = 0) (h18 : M.1 148 8 = 0) (h19 : M.1 147 9 = 0) (h20 : M.1 148 9 = 0) (h21 : M.1 147 10 = 0) (h22 : M.1 148 10 = 0) (h23 : M.1 147 11 = 0) (h24 : M.1 148 11 = 0) (h25 : M.1 147 12 = 0) (h26 : M.1 148 12 = 0) (h27 : M.1 147 13 = 0) (h28 : M.1 148 13 = 0) (h29 : M.1 147 14 = 0) (h30 : M.1 148 14 = 0) (h31 : M.1 147 15 = 0) (h32 : M.1 148 15 = 0) (h33 : M.1 147 16 = 0) (h34 : M.1 148 16 = 0) (h35 : M.1 147 17 = 0) (h36 : M.1 148 17 = 0) (h37 : M.1 147 18 = 0) (h38 : M.1 148 18 = 0) (h39 : M.1 147 19 = 0) (h40 : M.1 148 19 = 0) (h41 : M.1 147 20 = 0) (h42 : M.1 148 20 = 0) (h43 : M.1 147 21 = 0) (h44 : M.1 148 21 = 0) (h45 : M.1 147 22 = 0) (h46 : M.1 148 22 = 0) (h47 : M.1 147 23 = 0) (h48 : M.1 148 23 = 0) (h49 : M.1 147 24 = 0) (h50 : M.1 148 24 = 0) (h51 : M.1 147 25 = 0) (h52 : M.1 148 25 = 0) (h53 : M.1 147 26 = 0) (h54 : M.1 148 26 = 0) (h55 : M.1 147 27 = 0) (h56 : M.1 148 27 = 0) (h57 : M.1 157 0 = 0) (h58 : M.1 157 1 = 0) (h59 : M.1 157 2 = 0) (h60 : M.1 157 3 = 0) (h61 : M.1 157 4 = 0) (h62 : M.1 157 5 = 0) (h63 : M.1 157 6 = 0) (h64 : M.1 157 7 = 0) (h65 : M.1 157 8 = 0) (h66 : M.1 157 9 = 0) (h67 : M.1 157 10 = 0) (h68 : M.1 157 11 = 0) (h69 : M.1 146 26 = 0) : Ci l D B cy yX12_sources cX12_sources 2 (some .int) 4 92 [.ref (B + 146), .int 2] M (fun r _ => r = 9) := by
  refine s_any (by decide) (Nat.le_of_ble_eq_true rfl) ?_
  intro p e s m below meth c ls F hr hlocks w hl
  have F : CallFix p m c cX12_sources 2 s _ TB RX12 := F
  have hx := F.1
  have hb := F.2.1
  have hl : lv_has ls 2 [(0, .ref (B + 146)), (1, .int 2)] := hl
  refine lv_iload_n hx hb dX12_sources_0 rfl (lv_at hl 1 rfl) ?_
  refine lv_iconst (v := 0) hx hb dX12_sources_1 (by decide) ?_
  refine lv_bipush (v := 6) hx hb dX12_sources_2 (by decide) ?_
  refine x_Si F w (As := [.int 2, .int 0, .int 6]) (rest := []) (c_X12_in_403) gs_X12_55 hs_X12_in ⟨Nat.le_of_ble_eq_true rfl, Nat.le_of_ble_eq_true rfl⟩ hl.1 rfl (Nat.le_of_ble_eq_true rfl) ⟨Nat.zero_le _, Nat.zero_le _⟩ dX12_sources_4 (fun H locs w => ?_)
  refine lv_if_eq (tgt := 18) hx hb dX12_sources_7 (by decide) (fun c1 => absurd c1 (by decide)) (fun _ => ?_)
  refine lv_aload_n hx hb dX12_sources_10 rfl (lv_at hl 0 rfl) ?_
  refine lv_iload_n hx hb dX12_sources_11 rfl (lv_at hl 1 rfl) ?_
  refine k_Vi F w (As := [.int 2]) (rest := []) (a := 146) (by decide) (sh_12 rfl _ _) rfl (c_X12_sourcesBy_407 (h0) (h1) (h2) (h3) (h4) (h5) (h6) (h7) (h8) (h9) (h10) (h11) (h12) (h13) (h14) (h15) (h16) (h17) (h18) (h19) (h20) (h21) (h22) (h23) (h24) (h25) (h26) (h27) (h28) (h29) (h30) (h31) (h32) (h33) (h34) (h35) (h36) (h37) (h38) (h39) (h40) (h41) (h42) (h43) (h44) (h45) (h46) (h47) (h48) (h49) (h50) (h51) (h52) (h53) (h54) (h55) (h56) (h57) (h58) (h59) (h60) (h61) (h62) (h63) (h64) (h65) (h66) (h67) (h68) (h69)) gv_X12_321 hv_X12_sourcesBy ⟨Nat.le_of_ble_eq_true rfl, Nat.le_of_ble_eq_true rfl⟩ hl.1 rfl (Nat.le_of_ble_eq_true rfl) ⟨Nat.zero_le _, Nat.zero_le _⟩ dX12_sources_12 (fun r M1 H locs hp w => ?_)
  obtain ⟨rfl, e0⟩ := hp
  refine lv_goto (tgt := 19) hx hb dX12_sources_15 (by decide) ?_
  exact e_i (post := fun r _ => r = 9) F w hr hlocks rfl dX12_sources_19
set_option maxRecDepth 8000 in
theorem la_26_93 {p : Program} {l : Launch} {e : Env} {s : State} {m : MethodId} {below : List Frame} {meth : Method} {c : Code} {D : va_G} {B b : Nat} {cy : Nat → ClassId} {H : Heap} {locs : List Loc} {ls : Array Slot} {xs : Nat → Int32} {Q : State → Prop} (F : CallFix p m c code 4 s #[Value.ref b] TB RL) (hX : va_X b 6 xs s s.heap) (hbl : b < s.heap.size) (hbA : ¬ B ≤ b) (w : Wd D B cy s s.heap M0 H locs) (hl : lv_has ls 4 [(3, .int 0), (2, .ref (B + 146)), (1, .ref (B + 0)), (0, .ref b)]) (x1 : xs 1 = 2) (kk : ∀ (M1 : Mem) (H1 : Heap) (locs1 : List Loc), Wd D B cy s s.heap M1 H1 locs1 → W p l e room_1 s m #[Value.ref b] below meth c H1 locs1 159 13107 Q (F0 m 1065 ls [])) : W p l e room_1 s m #[Value.ref b] below meth c H locs 159 13107 Q (F0 m 996 ls []) := by
  have hx := F.1
  have hb := F.2.1
  refine lv_aload_n hx hb dL_law_996 rfl (lv_at hl 2 rfl) ?_
  refine lv_aload_n hx hb dL_law_997 rfl (lv_at hl 3 rfl) ?_
  refine lv_iload_n hx hb dL_law_998 rfl (lv_at hl 0 rfl) ?_
  refine lv_iconst (v := 1) hx hb dL_law_999 (by decide) ?_
  refine lv_iadd hx hb dL_law_1000 ?_
  refine r_val (v := 1) (by decide) ?_
  refine va_sld hx hb hX hbl hbA w.2.2.1 (vpi (by decide) (by decide)) dL_law_1001 ?_
  refine r_val (v := 2) ((congrArg xs (show (1 : Int32).toNatClampNeg = 1 by decide)).trans x1) ?_
  refine k_Vi F w (As := [.int 2]) (rest := []) (a := 0) (by decide) (sh_11 rfl _ _) rfl (c_X11_sources_402 (rfl) (rfl) (rfl) (rfl) (rfl) (rfl) (rfl) (rfl) (rfl) (rfl) (rfl) (rfl) (rfl) (rfl) (rfl)) gv_L_127 hv_X11_sources ⟨Nat.le_of_ble_eq_true rfl, Nat.le_of_ble_eq_true rfl⟩ hl.1 rfl (Nat.le_of_ble_eq_true rfl) ⟨Nat.le_of_ble_eq_true rfl, Nat.le_of_ble_eq_true rfl⟩ dL_law_1002 (fun r M1 H locs hp w => ?_)
  obtain ⟨rfl, e9⟩ := hp
  refine lv_aload_n hx hb dL_law_1005 rfl (lv_at hl 1 rfl) ?_
  refine lv_aload_n hx hb dL_law_1006 rfl (lv_at hl 3 rfl) ?_
  refine lv_iload_n hx hb dL_law_1007 rfl (lv_at hl 0 rfl) ?_
  refine lv_iconst (v := 1) hx hb dL_law_1008 (by decide) ?_
  refine lv_iadd hx hb dL_law_1009 ?_
  refine r_val (v := 1) (by decide) ?_
  refine va_sld hx hb hX hbl hbA w.2.2.1 (vpi (by decide) (by decide)) dL_law_1010 ?_
  refine r_val (v := 2) ((congrArg xs (show (1 : Int32).toNatClampNeg = 1 by decide)).trans x1) ?_
  refine k_Vi F w (As := [.int 2]) (rest := [.int 9]) (a := 146) (by decide) (sh_12 rfl _ _) rfl (c_X12_sources_408 ((congrFun (e9 146 (by decide)) 5).trans rfl) ((congrFun (e9 147 (by decide)) 0).trans rfl) ((congrFun (e9 148 (by decide)) 0).trans rfl) ((congrFun (e9 147 (by decide)) 1).trans rfl) ((congrFun (e9 148 (by decide)) 1).trans rfl) ((congrFun (e9 147 (by decide)) 2).trans rfl) ((congrFun (e9 148 (by decide)) 2).trans rfl) ((congrFun (e9 147 (by decide)) 3).trans rfl) ((congrFun (e9 148 (by decide)) 3).trans rfl) ((congrFun (e9 147 (by decide)) 4).trans rfl) ((congrFun (e9 148 (by decide)) 4).trans rfl) ((congrFun (e9 147 (by decide)) 5).trans rfl) ((congrFun (e9 148 (by decide)) 5).trans rfl) ((congrFun (e9 147 (by decide)) 6).trans rfl) ((congrFun (e9 148 (by decide)) 6).trans rfl) ((congrFun (e9 147 (by decide)) 7).trans rfl) ((congrFun (e9 148 (by decide)) 7).trans rfl) ((congrFun (e9 147 (by decide)) 8).trans rfl) ((congrFun (e9 148 (by decide)) 8).trans rfl) ((congrFun (e9 147 (by decide)) 9).trans rfl) ((congrFun (e9 148 (by decide)) 9).trans rfl) ((congrFun (e9 147 (by decide)) 10).trans rfl) ((congrFun (e9 148 (by decide)) 10).trans rfl) ((congrFun (e9 147 (by decide)) 11).trans rfl) ((congrFun (e9 148 (by decide)) 11).trans rfl) ((congrFun (e9 147 (by decide)) 12).trans rfl) ((congrFun (e9 148 (by decide)) 12).trans rfl) ((congrFun (e9 147 (by decide)) 13).trans rfl) ((congrFun (e9 148 (by decide)) 13).trans rfl) ((congrFun (e9 147 (by decide)) 14).trans rfl) ((congrFun (e9 148 (by decide)) 14).trans rfl) ((congrFun (e9 147 (by decide)) 15).trans rfl) ((congrFun (e9 148 (by decide)) 15).trans rfl) ((congrFun (e9 147 (by decide)) 16).trans rfl) ((congrFun (e9 148 (by decide)) 16).trans rfl) ((congrFun (e9 147 (by decide)) 17).trans rfl) ((congrFun (e9 148 (by decide)) 17).trans rfl) ((congrFun (e9 147 (by decide)) 18).trans rfl) ((congrFun (e9 148 (by decide)) 18).trans rfl) ((congrFun (e9 147 (by decide)) 19).trans rfl) ((congrFun (e9 148 (by decide)) 19).trans rfl) ((congrFun (e9 147 (by decide)) 20).trans rfl) ((congrFun (e9 148 (by decide)) 20).trans rfl) ((congrFun (e9 147 (by decide)) 21).trans rfl) ((congrFun (e9 148 (by decide)) 21).trans rfl) ((congrFun (e9 147 (by decide)) 22).trans rfl) ((congrFun (e9 148 (by decide)) 22).trans rfl) ((congrFun (e9 147 (by decide)) 23).trans rfl) ((congrFun (e9 148 (by decide)) 23).trans rfl) ((congrFun (e9 147 (by decide)) 24).trans rfl) ((congrFun (e9 148 (by decide)) 24).trans rfl) ((congrFun (e9 147 (by decide)) 25).trans rfl) ((congrFun (e9 148 (by decide)) 25).trans rfl) ((congrFun (e9 147 (by decide)) 26).trans rfl) ((congrFun (e9 148 (by decide)) 26).trans rfl) ((congrFun (e9 147 (by decide)) 27).trans rfl) ((congrFun (e9 148 (by decide)) 27).trans rfl) ((congrFun (e9 157 (by decide)) 0).trans rfl) ((congrFun (e9 157 (by decide)) 1).trans rfl) ((congrFun (e9 157 (by decide)) 2).trans rfl) ((congrFun (e9 157 (by decide)) 3).trans rfl) ((congrFun (e9 157 (by decide)) 4).trans rfl) ((congrFun (e9 157 (by decide)) 5).trans rfl) ((congrFun (e9 157 (by decide)) 6).trans rfl) ((congrFun (e9 157 (by decide)) 7).trans rfl) ((congrFun (e9 157 (by decide)) 8).trans rfl) ((congrFun (e9 157 (by decide)) 9).trans rfl) ((congrFun (e9 157 (by decide)) 10).trans rfl) ((congrFun (e9 157 (by decide)) 11).trans rfl) ((congrFun (e9 146 (by decide)) 26).trans rfl)) gv_L_130 hv_X12_sources ⟨Nat.le_of_ble_eq_true rfl, Nat.le_of_ble_eq_true rfl⟩ hl.1 rfl (Nat.le_of_ble_eq_true rfl) ⟨Nat.le_of_ble_eq_true rfl, Nat.le_of_ble_eq_true rfl⟩ dL_law_1011 (fun r M1 H locs hp w => ?_)
  obtain rfl := hp
  refine lv_icmp_eq (tgt := 1065) hx hb dL_law_1014 (by decide) (fun _ => ?_) (fun c1 => absurd c1 (by decide))
  exact kk _ _ _ w
set_option maxRecDepth 4000 in
theorem c_X9_insertTone_409 {l : Launch} {D : va_G} {B : Nat} {cy : Nat → ClassId} {M : Mem} (h0 : M.1 138 0 = 2) (h1 : M.1 140 1 = 0) (h2 : M.1 140 2 = 0) (h3 : M.1 140 0 = 0) : Cv l D B cy yX9_insertTone cX9_insertTone 4 0 0 [.ref (B + 138), .int 0, .int 0] M (fun M1 => ∃ f, M1 = sA (st M 138 0 3) 139 f) := by
  refine s_any (by decide) (Nat.le_of_ble_eq_true rfl) ?_
  intro p e s m below meth c ls F hr hlocks w hl
  have F : CallFix p m c cX9_insertTone 4 s _ TB RX9 := F
  have hx := F.1
  have hb := F.2.1
  have hl : lv_has ls 4 [(0, .ref (B + 138)), (1, .int 0), (2, .int 0)] := hl
  refine lv_iload_n hx hb dX9_insertTone_0 rfl (lv_at hl 1 rfl) ?_
  refine lv_if_lt (tgt := 21) hx hb dX9_insertTone_1 (by decide) (fun c1 => absurd c1 (by decide)) (fun _ => ?_)
  refine lv_iload_n hx hb dX9_insertTone_4 rfl (lv_at hl 1 rfl) ?_
  refine lv_aload_n hx hb dX9_insertTone_5 rfl (lv_at hl 0 rfl) ?_
  refine f_9_0 F w (a := 138) rfl tb_63 dX9_insertTone_6 ?_
  refine r_val (v := 2) (h0) ?_
  refine lv_icmp_gt (tgt := 21) hx hb dX9_insertTone_9 (by decide) (fun c1 => absurd c1 (by decide)) (fun _ => ?_)
  refine lv_aload_n hx hb dX9_insertTone_12 rfl (lv_at hl 0 rfl) ?_
  refine f_9_0 F w (a := 138) rfl tb_63 dX9_insertTone_13 ?_
  refine r_val (v := 2) (h0) ?_
  refine lv_bipush (v := 12) hx hb dX9_insertTone_16 (by decide) ?_
  refine lv_icmp_lt (tgt := 22) hx hb dX9_insertTone_18 (by decide) (fun _ => ?_) (fun c1 => absurd c1 (by decide))
  refine lv_aload_n hx hb dX9_insertTone_22 rfl (lv_at hl 0 rfl) ?_
  refine f_9_0 F w (a := 138) rfl tb_63 dX9_insertTone_23 ?_
  refine r_val (v := 2) (h0) ?_
  refine lv_istore_n (lv' := [(3, .int 2), (0, .ref (B + 138)), (1, .int 0), (2, .int 0)]) hx hb dX9_insertTone_26 rfl hl (by decide) rfl (fun ls hl => ?_)
  refine lv_iload_n hx hb dX9_insertTone_27 rfl (lv_at hl 0 rfl) ?_
  refine lv_iload_n hx hb dX9_insertTone_28 rfl (lv_at hl 2 rfl) ?_
  refine lv_icmp_le (tgt := 66) hx hb dX9_insertTone_29 (by decide) (fun c1 => absurd c1 (by decide)) (fun _ => ?_)
  refine lv_aload_n hx hb dX9_insertTone_32 rfl (lv_at hl 1 rfl) ?_
  refine f_9_4 F w (a := 138) rfl tb_67 dX9_insertTone_33 ?_
  refine lv_iload_n hx hb dX9_insertTone_36 rfl (lv_at hl 0 rfl) ?_
  refine lv_aload_n hx hb dX9_insertTone_37 rfl (lv_at hl 1 rfl) ?_
  refine f_9_4 F w (a := 138) rfl tb_67 dX9_insertTone_38 ?_
  refine lv_iload_n hx hb dX9_insertTone_41 rfl (lv_at hl 0 rfl) ?_
  refine lv_iconst (v := 1) hx hb dX9_insertTone_42 (by decide) ?_
  refine lv_isub hx hb dX9_insertTone_43 ?_
  refine r_val (v := 1) (by decide) ?_
  refine g_iald F w (a := 139) rfl (j := 1) ⟨by decide, by decide⟩ (by decide) dX9_insertTone_44 ?_
  refine lv_topi (fun v21 _ => ?_)
  refine g_iast F w (a := 139) rfl (j := 2) ⟨by decide, by decide⟩ (by decide) dX9_insertTone_45 (fun H locs w => ?_)
  obtain ⟨f22, w⟩ := hv_some w
  refine lv_aload_n hx hb dX9_insertTone_46 rfl (lv_at hl 1 rfl) ?_
  refine f_9_5 F w (a := 138) rfl tb_68 dX9_insertTone_47 ?_
  refine lv_iload_n hx hb dX9_insertTone_50 rfl (lv_at hl 0 rfl) ?_
  refine lv_aload_n hx hb dX9_insertTone_51 rfl (lv_at hl 1 rfl) ?_
  refine f_9_5 F w (a := 138) rfl tb_68 dX9_insertTone_52 ?_
  refine lv_iload_n hx hb dX9_insertTone_55 rfl (lv_at hl 0 rfl) ?_
  refine lv_iconst (v := 1) hx hb dX9_insertTone_56 (by decide) ?_
  refine lv_isub hx hb dX9_insertTone_57 ?_
  refine r_val (v := 1) (by decide) ?_
  refine g_iald F w (a := 140) rfl (j := 1) ⟨by decide, by decide⟩ (by decide) dX9_insertTone_58 ?_
  refine r_val (v := 0) ((sA_ne (by decide)).trans h1) ?_
  refine g_iast F w (a := 140) rfl (j := 2) ⟨by decide, by decide⟩ (by decide) dX9_insertTone_59 (fun H locs w => ?_)
  rw [st_same ((sA_ne (by decide)).trans h2)] at w
  refine lv_iinc (v := 1) (lv' := [(3, .int 1), (0, .ref (B + 138)), (1, .int 0), (2, .int 0)]) hx hb dX9_insertTone_60 hl (k := 0) rfl (by decide) (by decide) rfl (fun ls hl => ?_)
  refine lv_goto (tgt := 27) hx hb dX9_insertTone_63 (by decide) ?_
  refine lv_iload_n hx hb dX9_insertTone_27 rfl (lv_at hl 0 rfl) ?_
  refine lv_iload_n hx hb dX9_insertTone_28 rfl (lv_at hl 2 rfl) ?_
  refine lv_icmp_le (tgt := 66) hx hb dX9_insertTone_29 (by decide) (fun c1 => absurd c1 (by decide)) (fun _ => ?_)
  refine lv_aload_n hx hb dX9_insertTone_32 rfl (lv_at hl 1 rfl) ?_
  refine f_9_4 F w (a := 138) rfl tb_67 dX9_insertTone_33 ?_
  refine lv_iload_n hx hb dX9_insertTone_36 rfl (lv_at hl 0 rfl) ?_
  refine lv_aload_n hx hb dX9_insertTone_37 rfl (lv_at hl 1 rfl) ?_
  refine f_9_4 F w (a := 138) rfl tb_67 dX9_insertTone_38 ?_
  refine lv_iload_n hx hb dX9_insertTone_41 rfl (lv_at hl 0 rfl) ?_
  refine lv_iconst (v := 1) hx hb dX9_insertTone_42 (by decide) ?_
  refine lv_isub hx hb dX9_insertTone_43 ?_
  refine r_val (v := 0) (by decide) ?_
  refine g_iald F w (a := 139) rfl (j := 0) ⟨by decide, by decide⟩ (by decide) dX9_insertTone_44 ?_
  refine lv_topi (fun v23 _ => ?_)
  refine g_iast F w (a := 139) rfl (j := 1) ⟨by decide, by decide⟩ (by decide) dX9_insertTone_45 (fun H locs w => ?_)
  obtain ⟨f24, w⟩ := hv_some w
  refine lv_aload_n hx hb dX9_insertTone_46 rfl (lv_at hl 1 rfl) ?_
  refine f_9_5 F w (a := 138) rfl tb_68 dX9_insertTone_47 ?_
  refine lv_iload_n hx hb dX9_insertTone_50 rfl (lv_at hl 0 rfl) ?_
  refine lv_aload_n hx hb dX9_insertTone_51 rfl (lv_at hl 1 rfl) ?_
  refine f_9_5 F w (a := 138) rfl tb_68 dX9_insertTone_52 ?_
  refine lv_iload_n hx hb dX9_insertTone_55 rfl (lv_at hl 0 rfl) ?_
  refine lv_iconst (v := 1) hx hb dX9_insertTone_56 (by decide) ?_
  refine lv_isub hx hb dX9_insertTone_57 ?_
  refine r_val (v := 0) (by decide) ?_
  refine g_iald F w (a := 140) rfl (j := 0) ⟨by decide, by decide⟩ (by decide) dX9_insertTone_58 ?_
  refine r_val (v := 0) ((sA_ne (by decide)).trans ((sA_ne (by decide)).trans h3)) ?_
  refine g_iast F w (a := 140) rfl (j := 1) ⟨by decide, by decide⟩ (by decide) dX9_insertTone_59 (fun H locs w => ?_)
  rw [st_same ((sA_ne (by decide)).trans ((sA_ne (by decide)).trans h1))] at w
  refine lv_iinc (v := 0) (lv' := [(3, .int 0), (0, .ref (B + 138)), (1, .int 0), (2, .int 0)]) hx hb dX9_insertTone_60 hl (k := 0) rfl (by decide) (by decide) rfl (fun ls hl => ?_)
  refine lv_goto (tgt := 27) hx hb dX9_insertTone_63 (by decide) ?_
  refine lv_iload_n hx hb dX9_insertTone_27 rfl (lv_at hl 0 rfl) ?_
  refine lv_iload_n hx hb dX9_insertTone_28 rfl (lv_at hl 2 rfl) ?_
  refine lv_icmp_le (tgt := 66) hx hb dX9_insertTone_29 (by decide) (fun _ => ?_) (fun c1 => absurd c1 (by decide))
  refine lv_aload_n hx hb dX9_insertTone_66 rfl (lv_at hl 1 rfl) ?_
  refine f_9_4 F w (a := 138) rfl tb_67 dX9_insertTone_67 ?_
  refine lv_iload_n hx hb dX9_insertTone_70 rfl (lv_at hl 2 rfl) ?_
  refine lv_iload_n hx hb dX9_insertTone_71 rfl (lv_at hl 3 rfl) ?_
  refine g_iast F w (a := 139) rfl (j := 0) ⟨by decide, by decide⟩ (by decide) dX9_insertTone_72 (fun H locs w => ?_)
  obtain ⟨f25, w⟩ := hv_some w
  refine lv_aload_n hx hb dX9_insertTone_73 rfl (lv_at hl 1 rfl) ?_
  refine f_9_5 F w (a := 138) rfl tb_68 dX9_insertTone_74 ?_
  refine lv_iload_n hx hb dX9_insertTone_77 rfl (lv_at hl 2 rfl) ?_
  refine lv_iconst (v := 0) hx hb dX9_insertTone_78 (by decide) ?_
  refine g_iast F w (a := 140) rfl (j := 0) ⟨by decide, by decide⟩ (by decide) dX9_insertTone_79 (fun H locs w => ?_)
  rw [st_same ((sA_ne (by decide)).trans ((sA_ne (by decide)).trans ((sA_ne (by decide)).trans h3)))] at w
  refine lv_aload_n hx hb dX9_insertTone_80 rfl (lv_at hl 1 rfl) ?_
  refine lv_dup hx hb dX9_insertTone_81 rfl ?_
  refine f_9_0 F w (a := 138) rfl tb_63 dX9_insertTone_82 ?_
  refine r_val (v := 2) ((sA_ne (by decide)).trans ((sA_ne (by decide)).trans ((sA_ne (by decide)).trans h0))) ?_
  refine lv_iconst (v := 1) hx hb dX9_insertTone_85 (by decide) ?_
  refine lv_iadd hx hb dX9_insertTone_86 ?_
  refine r_val (v := 3) (by decide) ?_
  refine u_9_0 F w (a := 138) rfl tb_63 dX9_insertTone_87 (fun H locs w => ?_)
  exact e_v F w hr hlocks ⟨_, hv_ext (a := 139) (fun b hb => by simp [st, sA, hb]) rfl⟩ dX9_insertTone_90
set_option maxRecDepth 4000 in
theorem c_X6_layRow_410 {l : Launch} {D : va_G} {B : Nat} {cy : Nat → ClassId} {M : Mem} (h0 : M.1 138 0 = 0) (h1 : M.1 138 1 = 0) (h2 : M.1 138 2 = 0) (h3 : M.1 138 3 = 0) (h4 : M.1 44 1 = 0) (h5 : M.1 44 2 = 0) (h6 : M.1 44 3 = 0) (h7 : M.1 140 0 = 0) (h8 : M.1 140 1 = 0) (h9 : M.1 140 2 = 0) : Cv l D B cy yX6_layRow cX6_layRow 6 1 23 [.ref (B + 135), .ref (B + 44), .int 3, .int 0] M (fun M1 => ∃ f, M1 = sA (st (st (st M 138 0 1) 138 0 2) 138 0 3) 139 f) := by
  refine s_any (by decide) (Nat.le_of_ble_eq_true rfl) ?_
  intro p e s m below meth c ls F hr hlocks w hl
  have F : CallFix p m c cX6_layRow 6 s _ TB RX6 := F
  have hx := F.1
  have hb := F.2.1
  have hl : lv_has ls 6 [(0, .ref (B + 135)), (1, .ref (B + 44)), (2, .int 3), (3, .int 0)] := hl
  refine lv_aload_n hx hb dX6_layRow_0 rfl (lv_at hl 0 rfl) ?_
  refine f_6_3 F w (a := 135) rfl tb_111 dX6_layRow_1 ?_
  refine x_Vv F w (As := []) (rest := []) (a := 138) (by decide) (sh_9 rfl _ _) rfl (c_X9_clear_369 (h0) (h1) (h2) (h3)) gv_X6_62 hv_X9_clear ⟨Nat.le_of_ble_eq_true rfl, Nat.le_of_ble_eq_true rfl⟩ hl.1 rfl (Nat.le_of_ble_eq_true rfl) ⟨Nat.zero_le _, Nat.zero_le _⟩ dX6_layRow_4 (fun H locs w => ?_)
  refine lv_aload_n hx hb dX6_layRow_7 rfl (lv_at hl 0 rfl) ?_
  refine f_6_3 F w (a := 135) rfl tb_111 dX6_layRow_8 ?_
  refine lv_aload_n hx hb dX6_layRow_11 rfl (lv_at hl 1 rfl) ?_
  refine x_Vv F w (As := [.ref (B + 44)]) (rest := []) (a := 138) (by decide) (sh_9 rfl _ _) rfl (c_X9_copySyllables_370 (h4) (h1) (h5) (h2) (h6) (h3)) gv_X6_65 hv_X9_copySyllables ⟨Nat.le_of_ble_eq_true rfl, Nat.le_of_ble_eq_true rfl⟩ hl.1 rfl (Nat.le_of_ble_eq_true rfl) ⟨Nat.zero_le _, Nat.zero_le _⟩ dX6_layRow_12 (fun H locs w => ?_)
  refine lv_iload_n hx hb dX6_layRow_15 rfl (lv_at hl 3 rfl) ?_
  refine lv_istore (lv' := [(4, .int 0), (0, .ref (B + 135)), (1, .ref (B + 44)), (2, .int 3), (3, .int 0)]) hx hb dX6_layRow_16 hl (by decide) rfl (fun ls hl => ?_)
  refine lv_iconst (v := 0) hx hb dX6_layRow_18 (by decide) ?_
  refine lv_istore (lv' := [(5, .int 0), (4, .int 0), (0, .ref (B + 135)), (1, .ref (B + 44)), (2, .int 3), (3, .int 0)]) hx hb dX6_layRow_19 hl (by decide) rfl (fun ls hl => ?_)
  refine lv_iload hx hb dX6_layRow_21 (lv_at hl 0 rfl) ?_
  refine lv_iload_n hx hb dX6_layRow_23 rfl (lv_at hl 4 rfl) ?_
  refine lv_icmp_ge (tgt := 51) hx hb dX6_layRow_24 (by decide) (fun c1 => absurd c1 (by decide)) (fun _ => ?_)
  refine lv_aload_n hx hb dX6_layRow_27 rfl (lv_at hl 2 rfl) ?_
  refine f_6_3 F w (a := 135) rfl tb_111 dX6_layRow_28 ?_
  refine lv_iconst (v := 0) hx hb dX6_layRow_31 (by decide) ?_
  refine lv_iload hx hb dX6_layRow_32 (lv_at hl 1 rfl) ?_
  refine lv_iconst (v := 3) hx hb dX6_layRow_34 (by decide) ?_
  refine lv_irem hx hb dX6_layRow_35 (by decide) ?_
  refine r_val (v := 0) (by decide) ?_
  refine k_Vv F w (As := [.int 0, .int 0]) (rest := []) (a := 138) (by decide) (sh_9 rfl _ _) rfl (c_X9_insertTone_379 (h0) (h7)) gv_X6_69 hv_X9_insertTone ⟨Nat.le_of_ble_eq_true rfl, Nat.le_of_ble_eq_true rfl⟩ hl.1 rfl (Nat.le_of_ble_eq_true rfl) ⟨Nat.zero_le _, Nat.zero_le _⟩ dX6_layRow_36 (fun M1 H locs hp w => ?_)
  obtain ⟨f21, hf⟩ := hp
  rw [hf] at w
  clear hf
  refine lv_iload hx hb dX6_layRow_39 (lv_at hl 1 rfl) ?_
  refine lv_iconst (v := 3) hx hb dX6_layRow_41 (by decide) ?_
  refine lv_idiv hx hb dX6_layRow_42 (by decide) ?_
  refine r_val (v := 0) (by decide) ?_
  refine lv_istore (lv' := [(4, .int 0), (5, .int 0), (0, .ref (B + 135)), (1, .ref (B + 44)), (2, .int 3), (3, .int 0)]) hx hb dX6_layRow_43 hl (by decide) rfl (fun ls hl => ?_)
  refine lv_iinc (v := 1) (lv' := [(5, .int 1), (4, .int 0), (0, .ref (B + 135)), (1, .ref (B + 44)), (2, .int 3), (3, .int 0)]) hx hb dX6_layRow_45 hl (k := 1) rfl (by decide) (by decide) rfl (fun ls hl => ?_)
  refine lv_goto (tgt := 21) hx hb dX6_layRow_48 (by decide) ?_
  refine lv_iload hx hb dX6_layRow_21 (lv_at hl 0 rfl) ?_
  refine lv_iload_n hx hb dX6_layRow_23 rfl (lv_at hl 4 rfl) ?_
  refine lv_icmp_ge (tgt := 51) hx hb dX6_layRow_24 (by decide) (fun c1 => absurd c1 (by decide)) (fun _ => ?_)
  refine lv_aload_n hx hb dX6_layRow_27 rfl (lv_at hl 2 rfl) ?_
  refine f_6_3 F w (a := 135) rfl tb_111 dX6_layRow_28 ?_
  refine lv_iconst (v := 0) hx hb dX6_layRow_31 (by decide) ?_
  refine lv_iload hx hb dX6_layRow_32 (lv_at hl 1 rfl) ?_
  refine lv_iconst (v := 3) hx hb dX6_layRow_34 (by decide) ?_
  refine lv_irem hx hb dX6_layRow_35 (by decide) ?_
  refine r_val (v := 0) (by decide) ?_
  refine k_Vv F w (As := [.int 0, .int 0]) (rest := []) (a := 138) (by decide) (sh_9 rfl _ _) rfl (c_X9_insertTone_394 ((sA_ne (by decide)).trans st_at) ((sA_ne (by decide)).trans ((st_ne (by decide)).trans h7)) ((sA_ne (by decide)).trans ((st_ne (by decide)).trans h8))) gv_X6_69 hv_X9_insertTone ⟨Nat.le_of_ble_eq_true rfl, Nat.le_of_ble_eq_true rfl⟩ hl.1 rfl (Nat.le_of_ble_eq_true rfl) ⟨Nat.zero_le _, Nat.zero_le _⟩ dX6_layRow_36 (fun M1 H locs hp w => ?_)
  obtain ⟨f22, hf⟩ := hp
  rw [hf] at w
  clear hf
  refine lv_iload hx hb dX6_layRow_39 (lv_at hl 1 rfl) ?_
  refine lv_iconst (v := 3) hx hb dX6_layRow_41 (by decide) ?_
  refine lv_idiv hx hb dX6_layRow_42 (by decide) ?_
  refine r_val (v := 0) (by decide) ?_
  refine lv_istore (lv' := [(4, .int 0), (5, .int 1), (0, .ref (B + 135)), (1, .ref (B + 44)), (2, .int 3), (3, .int 0)]) hx hb dX6_layRow_43 hl (by decide) rfl (fun ls hl => ?_)
  refine lv_iinc (v := 2) (lv' := [(5, .int 2), (4, .int 0), (0, .ref (B + 135)), (1, .ref (B + 44)), (2, .int 3), (3, .int 0)]) hx hb dX6_layRow_45 hl (k := 1) rfl (by decide) (by decide) rfl (fun ls hl => ?_)
  refine lv_goto (tgt := 21) hx hb dX6_layRow_48 (by decide) ?_
  refine lv_iload hx hb dX6_layRow_21 (lv_at hl 0 rfl) ?_
  refine lv_iload_n hx hb dX6_layRow_23 rfl (lv_at hl 4 rfl) ?_
  refine lv_icmp_ge (tgt := 51) hx hb dX6_layRow_24 (by decide) (fun c1 => absurd c1 (by decide)) (fun _ => ?_)
  refine lv_aload_n hx hb dX6_layRow_27 rfl (lv_at hl 2 rfl) ?_
  refine f_6_3 F w (a := 135) rfl tb_111 dX6_layRow_28 ?_
  refine lv_iconst (v := 0) hx hb dX6_layRow_31 (by decide) ?_
  refine lv_iload hx hb dX6_layRow_32 (lv_at hl 1 rfl) ?_
  refine lv_iconst (v := 3) hx hb dX6_layRow_34 (by decide) ?_
  refine lv_irem hx hb dX6_layRow_35 (by decide) ?_
  refine r_val (v := 0) (by decide) ?_
  refine k_Vv F w (As := [.int 0, .int 0]) (rest := []) (a := 138) (by decide) (sh_9 rfl _ _) rfl (c_X9_insertTone_409 ((sA_ne (by decide)).trans st_at) ((sA_ne (by decide)).trans ((st_ne (by decide)).trans ((sA_ne (by decide)).trans ((st_ne (by decide)).trans h8)))) ((sA_ne (by decide)).trans ((st_ne (by decide)).trans ((sA_ne (by decide)).trans ((st_ne (by decide)).trans h9)))) ((sA_ne (by decide)).trans ((st_ne (by decide)).trans ((sA_ne (by decide)).trans ((st_ne (by decide)).trans h7))))) gv_X6_69 hv_X9_insertTone ⟨Nat.le_of_ble_eq_true rfl, Nat.le_of_ble_eq_true rfl⟩ hl.1 rfl (Nat.le_of_ble_eq_true rfl) ⟨Nat.zero_le _, Nat.zero_le _⟩ dX6_layRow_36 (fun M1 H locs hp w => ?_)
  obtain ⟨f23, hf⟩ := hp
  rw [hf] at w
  clear hf
  refine lv_iload hx hb dX6_layRow_39 (lv_at hl 1 rfl) ?_
  refine lv_iconst (v := 3) hx hb dX6_layRow_41 (by decide) ?_
  refine lv_idiv hx hb dX6_layRow_42 (by decide) ?_
  refine r_val (v := 0) (by decide) ?_
  refine lv_istore (lv' := [(4, .int 0), (5, .int 2), (0, .ref (B + 135)), (1, .ref (B + 44)), (2, .int 3), (3, .int 0)]) hx hb dX6_layRow_43 hl (by decide) rfl (fun ls hl => ?_)
  refine lv_iinc (v := 3) (lv' := [(5, .int 3), (4, .int 0), (0, .ref (B + 135)), (1, .ref (B + 44)), (2, .int 3), (3, .int 0)]) hx hb dX6_layRow_45 hl (k := 1) rfl (by decide) (by decide) rfl (fun ls hl => ?_)
  refine lv_goto (tgt := 21) hx hb dX6_layRow_48 (by decide) ?_
  refine lv_iload hx hb dX6_layRow_21 (lv_at hl 0 rfl) ?_
  refine lv_iload_n hx hb dX6_layRow_23 rfl (lv_at hl 4 rfl) ?_
  refine lv_icmp_ge (tgt := 51) hx hb dX6_layRow_24 (by decide) (fun _ => ?_) (fun c1 => absurd c1 (by decide))
  exact e_v F w hr hlocks ⟨_, hv_ext (a := 139) (fun b hb => by simp [st, sA, hb]) rfl⟩ dX6_layRow_51
set_option maxRecDepth 4000 in
theorem c_X9_kindsRead_411 {l : Launch} {D : va_G} {B : Nat} {cy : Nat → ClassId} {M : Mem} (h0 : M.1 138 0 = 3) (h1 : M.1 140 0 = 0) (h2 : M.1 140 1 = 0) (h3 : M.1 140 2 = 0) : Cl l D B cy yX9_kindsRead cX9_kindsRead 5 0 0 [.ref (B + 138)] M (fun r M1 => r = 0 ∧ M1 = M) := by
  refine s_any (by decide) (Nat.le_of_ble_eq_true rfl) ?_
  intro p e s m below meth c ls F hr hlocks w hl
  have F : CallFix p m c cX9_kindsRead 5 s _ TB RX9 := F
  have hx := F.1
  have hb := F.2.1
  have hl : lv_has ls 5 [(0, .ref (B + 138))] := hl
  refine lv_lconst (v := 0) hx hb dX9_kindsRead_0 (by decide) ?_
  refine lv_lstore_n (lv' := [(1, .long 0), (0, .ref (B + 138))]) hx hb dX9_kindsRead_1 rfl hl (by decide) rfl (fun ls hl => ?_)
  refine lv_iconst (v := 0) hx hb dX9_kindsRead_2 (by decide) ?_
  refine lv_istore_n (lv' := [(3, .int 0), (1, .long 0), (0, .ref (B + 138))]) hx hb dX9_kindsRead_3 rfl hl (by decide) rfl (fun ls hl => ?_)
  refine lv_iload_n hx hb dX9_kindsRead_4 rfl (lv_at hl 0 rfl) ?_
  refine lv_aload_n hx hb dX9_kindsRead_5 rfl (lv_at hl 2 rfl) ?_
  refine f_9_0 F w (a := 138) rfl tb_63 dX9_kindsRead_6 ?_
  refine r_val (v := 3) (h0) ?_
  refine lv_icmp_ge (tgt := 59) hx hb dX9_kindsRead_9 (by decide) (fun c1 => absurd c1 (by decide)) (fun _ => ?_)
  refine lv_aload_n hx hb dX9_kindsRead_12 rfl (lv_at hl 2 rfl) ?_
  refine f_9_5 F w (a := 138) rfl tb_68 dX9_kindsRead_13 ?_
  refine lv_iload_n hx hb dX9_kindsRead_16 rfl (lv_at hl 0 rfl) ?_
  refine g_iald F w (a := 140) rfl (j := 0) ⟨by decide, by decide⟩ (by decide) dX9_kindsRead_17 ?_
  refine r_val (v := 0) (h1) ?_
  refine lv_istore (lv' := [(4, .int 0), (3, .int 0), (1, .long 0), (0, .ref (B + 138))]) hx hb dX9_kindsRead_18 hl (by decide) rfl (fun ls hl => ?_)
  refine lv_iload hx hb dX9_kindsRead_20 (lv_at hl 0 rfl) ?_
  refine lv_if_eq (tgt := 53) hx hb dX9_kindsRead_22 (by decide) (fun _ => ?_) (fun c1 => absurd c1 (by decide))
  refine lv_iinc (v := 1) (lv' := [(3, .int 1), (4, .int 0), (1, .long 0), (0, .ref (B + 138))]) hx hb dX9_kindsRead_53 hl (k := 1) rfl (by decide) (by decide) rfl (fun ls hl => ?_)
  refine lv_goto (tgt := 4) hx hb dX9_kindsRead_56 (by decide) ?_
  refine lv_iload_n hx hb dX9_kindsRead_4 rfl (lv_at hl 0 rfl) ?_
  refine lv_aload_n hx hb dX9_kindsRead_5 rfl (lv_at hl 3 rfl) ?_
  refine f_9_0 F w (a := 138) rfl tb_63 dX9_kindsRead_6 ?_
  refine r_val (v := 3) (h0) ?_
  refine lv_icmp_ge (tgt := 59) hx hb dX9_kindsRead_9 (by decide) (fun c1 => absurd c1 (by decide)) (fun _ => ?_)
  refine lv_aload_n hx hb dX9_kindsRead_12 rfl (lv_at hl 3 rfl) ?_
  refine f_9_5 F w (a := 138) rfl tb_68 dX9_kindsRead_13 ?_
  refine lv_iload_n hx hb dX9_kindsRead_16 rfl (lv_at hl 0 rfl) ?_
  refine g_iald F w (a := 140) rfl (j := 1) ⟨by decide, by decide⟩ (by decide) dX9_kindsRead_17 ?_
  refine r_val (v := 0) (h2) ?_
  refine lv_istore (lv' := [(4, .int 0), (3, .int 1), (1, .long 0), (0, .ref (B + 138))]) hx hb dX9_kindsRead_18 hl (by decide) rfl (fun ls hl => ?_)
  refine lv_iload hx hb dX9_kindsRead_20 (lv_at hl 0 rfl) ?_
  refine lv_if_eq (tgt := 53) hx hb dX9_kindsRead_22 (by decide) (fun _ => ?_) (fun c1 => absurd c1 (by decide))
  refine lv_iinc (v := 2) (lv' := [(3, .int 2), (4, .int 0), (1, .long 0), (0, .ref (B + 138))]) hx hb dX9_kindsRead_53 hl (k := 1) rfl (by decide) (by decide) rfl (fun ls hl => ?_)
  refine lv_goto (tgt := 4) hx hb dX9_kindsRead_56 (by decide) ?_
  refine lv_iload_n hx hb dX9_kindsRead_4 rfl (lv_at hl 0 rfl) ?_
  refine lv_aload_n hx hb dX9_kindsRead_5 rfl (lv_at hl 3 rfl) ?_
  refine f_9_0 F w (a := 138) rfl tb_63 dX9_kindsRead_6 ?_
  refine r_val (v := 3) (h0) ?_
  refine lv_icmp_ge (tgt := 59) hx hb dX9_kindsRead_9 (by decide) (fun c1 => absurd c1 (by decide)) (fun _ => ?_)
  refine lv_aload_n hx hb dX9_kindsRead_12 rfl (lv_at hl 3 rfl) ?_
  refine f_9_5 F w (a := 138) rfl tb_68 dX9_kindsRead_13 ?_
  refine lv_iload_n hx hb dX9_kindsRead_16 rfl (lv_at hl 0 rfl) ?_
  refine g_iald F w (a := 140) rfl (j := 2) ⟨by decide, by decide⟩ (by decide) dX9_kindsRead_17 ?_
  refine r_val (v := 0) (h3) ?_
  refine lv_istore (lv' := [(4, .int 0), (3, .int 2), (1, .long 0), (0, .ref (B + 138))]) hx hb dX9_kindsRead_18 hl (by decide) rfl (fun ls hl => ?_)
  refine lv_iload hx hb dX9_kindsRead_20 (lv_at hl 0 rfl) ?_
  refine lv_if_eq (tgt := 53) hx hb dX9_kindsRead_22 (by decide) (fun _ => ?_) (fun c1 => absurd c1 (by decide))
  refine lv_iinc (v := 3) (lv' := [(3, .int 3), (4, .int 0), (1, .long 0), (0, .ref (B + 138))]) hx hb dX9_kindsRead_53 hl (k := 1) rfl (by decide) (by decide) rfl (fun ls hl => ?_)
  refine lv_goto (tgt := 4) hx hb dX9_kindsRead_56 (by decide) ?_
  refine lv_iload_n hx hb dX9_kindsRead_4 rfl (lv_at hl 0 rfl) ?_
  refine lv_aload_n hx hb dX9_kindsRead_5 rfl (lv_at hl 3 rfl) ?_
  refine f_9_0 F w (a := 138) rfl tb_63 dX9_kindsRead_6 ?_
  refine r_val (v := 3) (h0) ?_
  refine lv_icmp_ge (tgt := 59) hx hb dX9_kindsRead_9 (by decide) (fun _ => ?_) (fun c1 => absurd c1 (by decide))
  refine lv_lload_n hx hb dX9_kindsRead_59 rfl (lv_at hl 2 rfl) ?_
  exact e_l F w hr hlocks ⟨rfl, rfl⟩ dX9_kindsRead_60
set_option maxRecDepth 4000 in
theorem c_X9_linesRead_412 {l : Launch} {D : va_G} {B : Nat} {cy : Nat → ClassId} {M : Mem} (h0 : M.1 138 0 = 3) (h1 : M.1 140 0 = 0) (h2 : M.1 140 1 = 0) (h3 : M.1 140 2 = 0) : Cl l D B cy yX9_linesRead cX9_linesRead 5 0 0 [.ref (B + 138)] M (fun r M1 => r = 0 ∧ M1 = M) := by
  refine s_any (by decide) (Nat.le_of_ble_eq_true rfl) ?_
  intro p e s m below meth c ls F hr hlocks w hl
  have F : CallFix p m c cX9_linesRead 5 s _ TB RX9 := F
  have hx := F.1
  have hb := F.2.1
  have hl : lv_has ls 5 [(0, .ref (B + 138))] := hl
  refine lv_lconst (v := 0) hx hb dX9_linesRead_0 (by decide) ?_
  refine lv_lstore_n (lv' := [(1, .long 0), (0, .ref (B + 138))]) hx hb dX9_linesRead_1 rfl hl (by decide) rfl (fun ls hl => ?_)
  refine lv_iconst (v := 0) hx hb dX9_linesRead_2 (by decide) ?_
  refine lv_istore_n (lv' := [(3, .int 0), (1, .long 0), (0, .ref (B + 138))]) hx hb dX9_linesRead_3 rfl hl (by decide) rfl (fun ls hl => ?_)
  refine lv_iload_n hx hb dX9_linesRead_4 rfl (lv_at hl 0 rfl) ?_
  refine lv_aload_n hx hb dX9_linesRead_5 rfl (lv_at hl 2 rfl) ?_
  refine f_9_0 F w (a := 138) rfl tb_63 dX9_linesRead_6 ?_
  refine r_val (v := 3) (h0) ?_
  refine lv_icmp_ge (tgt := 55) hx hb dX9_linesRead_9 (by decide) (fun c1 => absurd c1 (by decide)) (fun _ => ?_)
  refine lv_aload_n hx hb dX9_linesRead_12 rfl (lv_at hl 2 rfl) ?_
  refine f_9_5 F w (a := 138) rfl tb_68 dX9_linesRead_13 ?_
  refine lv_iload_n hx hb dX9_linesRead_16 rfl (lv_at hl 0 rfl) ?_
  refine g_iald F w (a := 140) rfl (j := 0) ⟨by decide, by decide⟩ (by decide) dX9_linesRead_17 ?_
  refine r_val (v := 0) (h1) ?_
  refine lv_istore (lv' := [(4, .int 0), (3, .int 0), (1, .long 0), (0, .ref (B + 138))]) hx hb dX9_linesRead_18 hl (by decide) rfl (fun ls hl => ?_)
  refine lv_iload hx hb dX9_linesRead_20 (lv_at hl 0 rfl) ?_
  refine lv_if_eq (tgt := 49) hx hb dX9_linesRead_22 (by decide) (fun _ => ?_) (fun c1 => absurd c1 (by decide))
  refine lv_iinc (v := 1) (lv' := [(3, .int 1), (4, .int 0), (1, .long 0), (0, .ref (B + 138))]) hx hb dX9_linesRead_49 hl (k := 1) rfl (by decide) (by decide) rfl (fun ls hl => ?_)
  refine lv_goto (tgt := 4) hx hb dX9_linesRead_52 (by decide) ?_
  refine lv_iload_n hx hb dX9_linesRead_4 rfl (lv_at hl 0 rfl) ?_
  refine lv_aload_n hx hb dX9_linesRead_5 rfl (lv_at hl 3 rfl) ?_
  refine f_9_0 F w (a := 138) rfl tb_63 dX9_linesRead_6 ?_
  refine r_val (v := 3) (h0) ?_
  refine lv_icmp_ge (tgt := 55) hx hb dX9_linesRead_9 (by decide) (fun c1 => absurd c1 (by decide)) (fun _ => ?_)
  refine lv_aload_n hx hb dX9_linesRead_12 rfl (lv_at hl 3 rfl) ?_
  refine f_9_5 F w (a := 138) rfl tb_68 dX9_linesRead_13 ?_
  refine lv_iload_n hx hb dX9_linesRead_16 rfl (lv_at hl 0 rfl) ?_
  refine g_iald F w (a := 140) rfl (j := 1) ⟨by decide, by decide⟩ (by decide) dX9_linesRead_17 ?_
  refine r_val (v := 0) (h2) ?_
  refine lv_istore (lv' := [(4, .int 0), (3, .int 1), (1, .long 0), (0, .ref (B + 138))]) hx hb dX9_linesRead_18 hl (by decide) rfl (fun ls hl => ?_)
  refine lv_iload hx hb dX9_linesRead_20 (lv_at hl 0 rfl) ?_
  refine lv_if_eq (tgt := 49) hx hb dX9_linesRead_22 (by decide) (fun _ => ?_) (fun c1 => absurd c1 (by decide))
  refine lv_iinc (v := 2) (lv' := [(3, .int 2), (4, .int 0), (1, .long 0), (0, .ref (B + 138))]) hx hb dX9_linesRead_49 hl (k := 1) rfl (by decide) (by decide) rfl (fun ls hl => ?_)
  refine lv_goto (tgt := 4) hx hb dX9_linesRead_52 (by decide) ?_
  refine lv_iload_n hx hb dX9_linesRead_4 rfl (lv_at hl 0 rfl) ?_
  refine lv_aload_n hx hb dX9_linesRead_5 rfl (lv_at hl 3 rfl) ?_
  refine f_9_0 F w (a := 138) rfl tb_63 dX9_linesRead_6 ?_
  refine r_val (v := 3) (h0) ?_
  refine lv_icmp_ge (tgt := 55) hx hb dX9_linesRead_9 (by decide) (fun c1 => absurd c1 (by decide)) (fun _ => ?_)
  refine lv_aload_n hx hb dX9_linesRead_12 rfl (lv_at hl 3 rfl) ?_
  refine f_9_5 F w (a := 138) rfl tb_68 dX9_linesRead_13 ?_
  refine lv_iload_n hx hb dX9_linesRead_16 rfl (lv_at hl 0 rfl) ?_
  refine g_iald F w (a := 140) rfl (j := 2) ⟨by decide, by decide⟩ (by decide) dX9_linesRead_17 ?_
  refine r_val (v := 0) (h3) ?_
  refine lv_istore (lv' := [(4, .int 0), (3, .int 2), (1, .long 0), (0, .ref (B + 138))]) hx hb dX9_linesRead_18 hl (by decide) rfl (fun ls hl => ?_)
  refine lv_iload hx hb dX9_linesRead_20 (lv_at hl 0 rfl) ?_
  refine lv_if_eq (tgt := 49) hx hb dX9_linesRead_22 (by decide) (fun _ => ?_) (fun c1 => absurd c1 (by decide))
  refine lv_iinc (v := 3) (lv' := [(3, .int 3), (4, .int 0), (1, .long 0), (0, .ref (B + 138))]) hx hb dX9_linesRead_49 hl (k := 1) rfl (by decide) (by decide) rfl (fun ls hl => ?_)
  refine lv_goto (tgt := 4) hx hb dX9_linesRead_52 (by decide) ?_
  refine lv_iload_n hx hb dX9_linesRead_4 rfl (lv_at hl 0 rfl) ?_
  refine lv_aload_n hx hb dX9_linesRead_5 rfl (lv_at hl 3 rfl) ?_
  refine f_9_0 F w (a := 138) rfl tb_63 dX9_linesRead_6 ?_
  refine r_val (v := 3) (h0) ?_
  refine lv_icmp_ge (tgt := 55) hx hb dX9_linesRead_9 (by decide) (fun _ => ?_) (fun c1 => absurd c1 (by decide))
  refine lv_lload_n hx hb dX9_linesRead_55 rfl (lv_at hl 2 rfl) ?_
  exact e_l F w hr hlocks ⟨rfl, rfl⟩ dX9_linesRead_56
set_option maxRecDepth 4000 in
theorem c_X9_clear_413 {l : Launch} {D : va_G} {B : Nat} {cy : Nat → ClassId} {M : Mem} (h0 : M.1 138 0 = 3) (h1 : M.1 138 1 = 0) (h2 : M.1 138 2 = 0) (h3 : M.1 138 3 = 0) : Cv l D B cy yX9_clear cX9_clear 1 0 0 [.ref (B + 138)] M (fun M1 => M1 = (st M 138 0 0)) := by
  refine s_any (by decide) (Nat.le_of_ble_eq_true rfl) ?_
  intro p e s m below meth c ls F hr hlocks w hl
  have F : CallFix p m c cX9_clear 1 s _ TB RX9 := F
  have hx := F.1
  have hb := F.2.1
  have hl : lv_has ls 1 [(0, .ref (B + 138))] := hl
  refine lv_aload_n hx hb dX9_clear_0 rfl (lv_at hl 0 rfl) ?_
  refine lv_iconst (v := 0) hx hb dX9_clear_1 (by decide) ?_
  refine u_9_0 F w (a := 138) rfl tb_63 dX9_clear_2 (fun H locs w => ?_)
  refine lv_aload_n hx hb dX9_clear_5 rfl (lv_at hl 0 rfl) ?_
  refine lv_iconst (v := 0) hx hb dX9_clear_6 (by decide) ?_
  refine u_9_1 F w (a := 138) rfl tb_64 dX9_clear_7 (fun H locs w => ?_)
  rw [st_same ((st_ne (by decide)).trans h1)] at w
  refine lv_aload_n hx hb dX9_clear_10 rfl (lv_at hl 0 rfl) ?_
  refine lv_iconst (v := 0) hx hb dX9_clear_11 (by decide) ?_
  refine u_9_2 F w (a := 138) rfl tb_65 dX9_clear_12 (fun H locs w => ?_)
  rw [st_same ((st_ne (by decide)).trans h2)] at w
  refine lv_aload_n hx hb dX9_clear_15 rfl (lv_at hl 0 rfl) ?_
  refine lv_iconst (v := 0) hx hb dX9_clear_16 (by decide) ?_
  refine u_9_3 F w (a := 138) rfl tb_66 dX9_clear_17 (fun H locs w => ?_)
  rw [st_same ((st_ne (by decide)).trans h3)] at w
  exact e_v F w hr hlocks rfl dX9_clear_20
set_option maxRecDepth 4000 in
theorem c_X9_insertTone_414 {l : Launch} {D : va_G} {B : Nat} {cy : Nat → ClassId} {M : Mem} {p2 : Int32} (h0 : M.1 138 0 = 2) (h1 : M.1 140 1 = 0) (h2 : M.1 140 2 = 0) (h3 : M.1 140 0 = 0) : Cv l D B cy yX9_insertTone cX9_insertTone 4 0 0 [.ref (B + 138), .int 0, .int p2] M (fun M1 => ∃ f, M1 = sA (st M 138 0 3) 139 f) := by
  refine s_any (by decide) (Nat.le_of_ble_eq_true rfl) ?_
  intro p e s m below meth c ls F hr hlocks w hl
  have F : CallFix p m c cX9_insertTone 4 s _ TB RX9 := F
  have hx := F.1
  have hb := F.2.1
  have hl : lv_has ls 4 [(0, .ref (B + 138)), (1, .int 0), (2, .int p2)] := hl
  refine lv_iload_n hx hb dX9_insertTone_0 rfl (lv_at hl 1 rfl) ?_
  refine lv_if_lt (tgt := 21) hx hb dX9_insertTone_1 (by decide) (fun c1 => absurd c1 (by decide)) (fun _ => ?_)
  refine lv_iload_n hx hb dX9_insertTone_4 rfl (lv_at hl 1 rfl) ?_
  refine lv_aload_n hx hb dX9_insertTone_5 rfl (lv_at hl 0 rfl) ?_
  refine f_9_0 F w (a := 138) rfl tb_63 dX9_insertTone_6 ?_
  refine r_val (v := 2) (h0) ?_
  refine lv_icmp_gt (tgt := 21) hx hb dX9_insertTone_9 (by decide) (fun c1 => absurd c1 (by decide)) (fun _ => ?_)
  refine lv_aload_n hx hb dX9_insertTone_12 rfl (lv_at hl 0 rfl) ?_
  refine f_9_0 F w (a := 138) rfl tb_63 dX9_insertTone_13 ?_
  refine r_val (v := 2) (h0) ?_
  refine lv_bipush (v := 12) hx hb dX9_insertTone_16 (by decide) ?_
  refine lv_icmp_lt (tgt := 22) hx hb dX9_insertTone_18 (by decide) (fun _ => ?_) (fun c1 => absurd c1 (by decide))
  refine lv_aload_n hx hb dX9_insertTone_22 rfl (lv_at hl 0 rfl) ?_
  refine f_9_0 F w (a := 138) rfl tb_63 dX9_insertTone_23 ?_
  refine r_val (v := 2) (h0) ?_
  refine lv_istore_n (lv' := [(3, .int 2), (0, .ref (B + 138)), (1, .int 0), (2, .int p2)]) hx hb dX9_insertTone_26 rfl hl (by decide) rfl (fun ls hl => ?_)
  refine lv_iload_n hx hb dX9_insertTone_27 rfl (lv_at hl 0 rfl) ?_
  refine lv_iload_n hx hb dX9_insertTone_28 rfl (lv_at hl 2 rfl) ?_
  refine lv_icmp_le (tgt := 66) hx hb dX9_insertTone_29 (by decide) (fun c1 => absurd c1 (by decide)) (fun _ => ?_)
  refine lv_aload_n hx hb dX9_insertTone_32 rfl (lv_at hl 1 rfl) ?_
  refine f_9_4 F w (a := 138) rfl tb_67 dX9_insertTone_33 ?_
  refine lv_iload_n hx hb dX9_insertTone_36 rfl (lv_at hl 0 rfl) ?_
  refine lv_aload_n hx hb dX9_insertTone_37 rfl (lv_at hl 1 rfl) ?_
  refine f_9_4 F w (a := 138) rfl tb_67 dX9_insertTone_38 ?_
  refine lv_iload_n hx hb dX9_insertTone_41 rfl (lv_at hl 0 rfl) ?_
  refine lv_iconst (v := 1) hx hb dX9_insertTone_42 (by decide) ?_
  refine lv_isub hx hb dX9_insertTone_43 ?_
  refine r_val (v := 1) (by decide) ?_
  refine g_iald F w (a := 139) rfl (j := 1) ⟨by decide, by decide⟩ (by decide) dX9_insertTone_44 ?_
  refine lv_topi (fun v21 _ => ?_)
  refine g_iast F w (a := 139) rfl (j := 2) ⟨by decide, by decide⟩ (by decide) dX9_insertTone_45 (fun H locs w => ?_)
  obtain ⟨f22, w⟩ := hv_some w
  refine lv_aload_n hx hb dX9_insertTone_46 rfl (lv_at hl 1 rfl) ?_
  refine f_9_5 F w (a := 138) rfl tb_68 dX9_insertTone_47 ?_
  refine lv_iload_n hx hb dX9_insertTone_50 rfl (lv_at hl 0 rfl) ?_
  refine lv_aload_n hx hb dX9_insertTone_51 rfl (lv_at hl 1 rfl) ?_
  refine f_9_5 F w (a := 138) rfl tb_68 dX9_insertTone_52 ?_
  refine lv_iload_n hx hb dX9_insertTone_55 rfl (lv_at hl 0 rfl) ?_
  refine lv_iconst (v := 1) hx hb dX9_insertTone_56 (by decide) ?_
  refine lv_isub hx hb dX9_insertTone_57 ?_
  refine r_val (v := 1) (by decide) ?_
  refine g_iald F w (a := 140) rfl (j := 1) ⟨by decide, by decide⟩ (by decide) dX9_insertTone_58 ?_
  refine r_val (v := 0) ((sA_ne (by decide)).trans h1) ?_
  refine g_iast F w (a := 140) rfl (j := 2) ⟨by decide, by decide⟩ (by decide) dX9_insertTone_59 (fun H locs w => ?_)
  rw [st_same ((sA_ne (by decide)).trans h2)] at w
  refine lv_iinc (v := 1) (lv' := [(3, .int 1), (0, .ref (B + 138)), (1, .int 0), (2, .int p2)]) hx hb dX9_insertTone_60 hl (k := 0) rfl (by decide) (by decide) rfl (fun ls hl => ?_)
  refine lv_goto (tgt := 27) hx hb dX9_insertTone_63 (by decide) ?_
  refine lv_iload_n hx hb dX9_insertTone_27 rfl (lv_at hl 0 rfl) ?_
  refine lv_iload_n hx hb dX9_insertTone_28 rfl (lv_at hl 2 rfl) ?_
  refine lv_icmp_le (tgt := 66) hx hb dX9_insertTone_29 (by decide) (fun c1 => absurd c1 (by decide)) (fun _ => ?_)
  refine lv_aload_n hx hb dX9_insertTone_32 rfl (lv_at hl 1 rfl) ?_
  refine f_9_4 F w (a := 138) rfl tb_67 dX9_insertTone_33 ?_
  refine lv_iload_n hx hb dX9_insertTone_36 rfl (lv_at hl 0 rfl) ?_
  refine lv_aload_n hx hb dX9_insertTone_37 rfl (lv_at hl 1 rfl) ?_
  refine f_9_4 F w (a := 138) rfl tb_67 dX9_insertTone_38 ?_
  refine lv_iload_n hx hb dX9_insertTone_41 rfl (lv_at hl 0 rfl) ?_
  refine lv_iconst (v := 1) hx hb dX9_insertTone_42 (by decide) ?_
  refine lv_isub hx hb dX9_insertTone_43 ?_
  refine r_val (v := 0) (by decide) ?_
  refine g_iald F w (a := 139) rfl (j := 0) ⟨by decide, by decide⟩ (by decide) dX9_insertTone_44 ?_
  refine lv_topi (fun v23 _ => ?_)
  refine g_iast F w (a := 139) rfl (j := 1) ⟨by decide, by decide⟩ (by decide) dX9_insertTone_45 (fun H locs w => ?_)
  obtain ⟨f24, w⟩ := hv_some w
  refine lv_aload_n hx hb dX9_insertTone_46 rfl (lv_at hl 1 rfl) ?_
  refine f_9_5 F w (a := 138) rfl tb_68 dX9_insertTone_47 ?_
  refine lv_iload_n hx hb dX9_insertTone_50 rfl (lv_at hl 0 rfl) ?_
  refine lv_aload_n hx hb dX9_insertTone_51 rfl (lv_at hl 1 rfl) ?_
  refine f_9_5 F w (a := 138) rfl tb_68 dX9_insertTone_52 ?_
  refine lv_iload_n hx hb dX9_insertTone_55 rfl (lv_at hl 0 rfl) ?_
  refine lv_iconst (v := 1) hx hb dX9_insertTone_56 (by decide) ?_
  refine lv_isub hx hb dX9_insertTone_57 ?_
  refine r_val (v := 0) (by decide) ?_
  refine g_iald F w (a := 140) rfl (j := 0) ⟨by decide, by decide⟩ (by decide) dX9_insertTone_58 ?_
  refine r_val (v := 0) ((sA_ne (by decide)).trans ((sA_ne (by decide)).trans h3)) ?_
  refine g_iast F w (a := 140) rfl (j := 1) ⟨by decide, by decide⟩ (by decide) dX9_insertTone_59 (fun H locs w => ?_)
  rw [st_same ((sA_ne (by decide)).trans ((sA_ne (by decide)).trans h1))] at w
  refine lv_iinc (v := 0) (lv' := [(3, .int 0), (0, .ref (B + 138)), (1, .int 0), (2, .int p2)]) hx hb dX9_insertTone_60 hl (k := 0) rfl (by decide) (by decide) rfl (fun ls hl => ?_)
  refine lv_goto (tgt := 27) hx hb dX9_insertTone_63 (by decide) ?_
  refine lv_iload_n hx hb dX9_insertTone_27 rfl (lv_at hl 0 rfl) ?_
  refine lv_iload_n hx hb dX9_insertTone_28 rfl (lv_at hl 2 rfl) ?_
  refine lv_icmp_le (tgt := 66) hx hb dX9_insertTone_29 (by decide) (fun _ => ?_) (fun c1 => absurd c1 (by decide))
  refine lv_aload_n hx hb dX9_insertTone_66 rfl (lv_at hl 1 rfl) ?_
  refine f_9_4 F w (a := 138) rfl tb_67 dX9_insertTone_67 ?_
  refine lv_iload_n hx hb dX9_insertTone_70 rfl (lv_at hl 2 rfl) ?_
  refine lv_iload_n hx hb dX9_insertTone_71 rfl (lv_at hl 3 rfl) ?_
  refine g_iast F w (a := 139) rfl (j := 0) ⟨by decide, by decide⟩ (by decide) dX9_insertTone_72 (fun H locs w => ?_)
  obtain ⟨f25, w⟩ := hv_some w
  refine lv_aload_n hx hb dX9_insertTone_73 rfl (lv_at hl 1 rfl) ?_
  refine f_9_5 F w (a := 138) rfl tb_68 dX9_insertTone_74 ?_
  refine lv_iload_n hx hb dX9_insertTone_77 rfl (lv_at hl 2 rfl) ?_
  refine lv_iconst (v := 0) hx hb dX9_insertTone_78 (by decide) ?_
  refine g_iast F w (a := 140) rfl (j := 0) ⟨by decide, by decide⟩ (by decide) dX9_insertTone_79 (fun H locs w => ?_)
  rw [st_same ((sA_ne (by decide)).trans ((sA_ne (by decide)).trans ((sA_ne (by decide)).trans h3)))] at w
  refine lv_aload_n hx hb dX9_insertTone_80 rfl (lv_at hl 1 rfl) ?_
  refine lv_dup hx hb dX9_insertTone_81 rfl ?_
  refine f_9_0 F w (a := 138) rfl tb_63 dX9_insertTone_82 ?_
  refine r_val (v := 2) ((sA_ne (by decide)).trans ((sA_ne (by decide)).trans ((sA_ne (by decide)).trans h0))) ?_
  refine lv_iconst (v := 1) hx hb dX9_insertTone_85 (by decide) ?_
  refine lv_iadd hx hb dX9_insertTone_86 ?_
  refine r_val (v := 3) (by decide) ?_
  refine u_9_0 F w (a := 138) rfl tb_63 dX9_insertTone_87 (fun H locs w => ?_)
  exact e_v F w hr hlocks ⟨_, hv_ext (a := 139) (fun b hb => by simp [st, sA, hb]) rfl⟩ dX9_insertTone_90
set_option maxRecDepth 4000 in
theorem c_X6_layRow_415 {l : Launch} {D : va_G} {B : Nat} {cy : Nat → ClassId} {M : Mem} {p3 : Int32} (h0 : M.1 138 0 = 3) (h1 : M.1 138 1 = 0) (h2 : M.1 138 2 = 0) (h3 : M.1 138 3 = 0) (h4 : M.1 44 1 = 0) (h5 : M.1 44 2 = 0) (h6 : M.1 44 3 = 0) (h7 : M.1 140 0 = 0) (h8 : M.1 140 1 = 0) (h9 : M.1 140 2 = 0) : Cv l D B cy yX6_layRow cX6_layRow 6 1 23 [.ref (B + 135), .ref (B + 44), .int 3, .int p3] M (fun M1 => ∃ f, M1 = sA (st (st (st (st M 138 0 0) 138 0 1) 138 0 2) 138 0 3) 139 f) := by
  refine s_any (by decide) (Nat.le_of_ble_eq_true rfl) ?_
  intro p e s m below meth c ls F hr hlocks w hl
  have F : CallFix p m c cX6_layRow 6 s _ TB RX6 := F
  have hx := F.1
  have hb := F.2.1
  have hl : lv_has ls 6 [(0, .ref (B + 135)), (1, .ref (B + 44)), (2, .int 3), (3, .int p3)] := hl
  refine lv_aload_n hx hb dX6_layRow_0 rfl (lv_at hl 0 rfl) ?_
  refine f_6_3 F w (a := 135) rfl tb_111 dX6_layRow_1 ?_
  refine x_Vv F w (As := []) (rest := []) (a := 138) (by decide) (sh_9 rfl _ _) rfl (c_X9_clear_413 (h0) (h1) (h2) (h3)) gv_X6_62 hv_X9_clear ⟨Nat.le_of_ble_eq_true rfl, Nat.le_of_ble_eq_true rfl⟩ hl.1 rfl (Nat.le_of_ble_eq_true rfl) ⟨Nat.zero_le _, Nat.zero_le _⟩ dX6_layRow_4 (fun H locs w => ?_)
  refine lv_aload_n hx hb dX6_layRow_7 rfl (lv_at hl 0 rfl) ?_
  refine f_6_3 F w (a := 135) rfl tb_111 dX6_layRow_8 ?_
  refine lv_aload_n hx hb dX6_layRow_11 rfl (lv_at hl 1 rfl) ?_
  refine x_Vv F w (As := [.ref (B + 44)]) (rest := []) (a := 138) (by decide) (sh_9 rfl _ _) rfl (c_X9_copySyllables_370 ((st_ne (by decide)).trans h4) ((st_ne (by decide)).trans h1) ((st_ne (by decide)).trans h5) ((st_ne (by decide)).trans h2) ((st_ne (by decide)).trans h6) ((st_ne (by decide)).trans h3)) gv_X6_65 hv_X9_copySyllables ⟨Nat.le_of_ble_eq_true rfl, Nat.le_of_ble_eq_true rfl⟩ hl.1 rfl (Nat.le_of_ble_eq_true rfl) ⟨Nat.zero_le _, Nat.zero_le _⟩ dX6_layRow_12 (fun H locs w => ?_)
  refine lv_iload_n hx hb dX6_layRow_15 rfl (lv_at hl 3 rfl) ?_
  refine lv_istore (lv' := [(4, .int p3), (0, .ref (B + 135)), (1, .ref (B + 44)), (2, .int 3), (3, .int p3)]) hx hb dX6_layRow_16 hl (by decide) rfl (fun ls hl => ?_)
  refine lv_iconst (v := 0) hx hb dX6_layRow_18 (by decide) ?_
  refine lv_istore (lv' := [(5, .int 0), (4, .int p3), (0, .ref (B + 135)), (1, .ref (B + 44)), (2, .int 3), (3, .int p3)]) hx hb dX6_layRow_19 hl (by decide) rfl (fun ls hl => ?_)
  refine lv_iload hx hb dX6_layRow_21 (lv_at hl 0 rfl) ?_
  refine lv_iload_n hx hb dX6_layRow_23 rfl (lv_at hl 4 rfl) ?_
  refine lv_icmp_ge (tgt := 51) hx hb dX6_layRow_24 (by decide) (fun c1 => absurd c1 (by decide)) (fun _ => ?_)
  refine lv_aload_n hx hb dX6_layRow_27 rfl (lv_at hl 2 rfl) ?_
  refine f_6_3 F w (a := 135) rfl tb_111 dX6_layRow_28 ?_
  refine lv_iconst (v := 0) hx hb dX6_layRow_31 (by decide) ?_
  refine lv_iload hx hb dX6_layRow_32 (lv_at hl 1 rfl) ?_
  refine lv_iconst (v := 3) hx hb dX6_layRow_34 (by decide) ?_
  refine lv_irem hx hb dX6_layRow_35 (by decide) ?_
  refine k_Vv F w (As := [.int 0, .int (p3 - p3 / 3 * 3)]) (rest := []) (a := 138) (by decide) (sh_9 rfl _ _) rfl (c_X9_insertTone_384 (st_at) ((st_ne (by decide)).trans h7)) gv_X6_69 hv_X9_insertTone ⟨Nat.le_of_ble_eq_true rfl, Nat.le_of_ble_eq_true rfl⟩ hl.1 rfl (Nat.le_of_ble_eq_true rfl) ⟨Nat.zero_le _, Nat.zero_le _⟩ dX6_layRow_36 (fun M1 H locs hp w => ?_)
  obtain ⟨f21, hf⟩ := hp
  rw [hf] at w
  clear hf
  refine lv_iload hx hb dX6_layRow_39 (lv_at hl 1 rfl) ?_
  refine lv_iconst (v := 3) hx hb dX6_layRow_41 (by decide) ?_
  refine lv_idiv hx hb dX6_layRow_42 (by decide) ?_
  refine lv_istore (lv' := [(4, .int (p3 / 3)), (5, .int 0), (0, .ref (B + 135)), (1, .ref (B + 44)), (2, .int 3), (3, .int p3)]) hx hb dX6_layRow_43 hl (by decide) rfl (fun ls hl => ?_)
  refine lv_iinc (v := 1) (lv' := [(5, .int 1), (4, .int (p3 / 3)), (0, .ref (B + 135)), (1, .ref (B + 44)), (2, .int 3), (3, .int p3)]) hx hb dX6_layRow_45 hl (k := 1) rfl (by decide) (by decide) rfl (fun ls hl => ?_)
  refine lv_goto (tgt := 21) hx hb dX6_layRow_48 (by decide) ?_
  refine lv_iload hx hb dX6_layRow_21 (lv_at hl 0 rfl) ?_
  refine lv_iload_n hx hb dX6_layRow_23 rfl (lv_at hl 4 rfl) ?_
  refine lv_icmp_ge (tgt := 51) hx hb dX6_layRow_24 (by decide) (fun c1 => absurd c1 (by decide)) (fun _ => ?_)
  refine lv_aload_n hx hb dX6_layRow_27 rfl (lv_at hl 2 rfl) ?_
  refine f_6_3 F w (a := 135) rfl tb_111 dX6_layRow_28 ?_
  refine lv_iconst (v := 0) hx hb dX6_layRow_31 (by decide) ?_
  refine lv_iload hx hb dX6_layRow_32 (lv_at hl 1 rfl) ?_
  refine lv_iconst (v := 3) hx hb dX6_layRow_34 (by decide) ?_
  refine lv_irem hx hb dX6_layRow_35 (by decide) ?_
  refine k_Vv F w (As := [.int 0, .int ((p3 / 3) - (p3 / 3) / 3 * 3)]) (rest := []) (a := 138) (by decide) (sh_9 rfl _ _) rfl (c_X9_insertTone_399 ((sA_ne (by decide)).trans st_at) ((sA_ne (by decide)).trans ((st_ne (by decide)).trans ((st_ne (by decide)).trans h7))) ((sA_ne (by decide)).trans ((st_ne (by decide)).trans ((st_ne (by decide)).trans h8)))) gv_X6_69 hv_X9_insertTone ⟨Nat.le_of_ble_eq_true rfl, Nat.le_of_ble_eq_true rfl⟩ hl.1 rfl (Nat.le_of_ble_eq_true rfl) ⟨Nat.zero_le _, Nat.zero_le _⟩ dX6_layRow_36 (fun M1 H locs hp w => ?_)
  obtain ⟨f22, hf⟩ := hp
  rw [hf] at w
  clear hf
  refine lv_iload hx hb dX6_layRow_39 (lv_at hl 1 rfl) ?_
  refine lv_iconst (v := 3) hx hb dX6_layRow_41 (by decide) ?_
  refine lv_idiv hx hb dX6_layRow_42 (by decide) ?_
  refine lv_istore (lv' := [(4, .int ((p3 / 3) / 3)), (5, .int 1), (0, .ref (B + 135)), (1, .ref (B + 44)), (2, .int 3), (3, .int p3)]) hx hb dX6_layRow_43 hl (by decide) rfl (fun ls hl => ?_)
  refine lv_iinc (v := 2) (lv' := [(5, .int 2), (4, .int ((p3 / 3) / 3)), (0, .ref (B + 135)), (1, .ref (B + 44)), (2, .int 3), (3, .int p3)]) hx hb dX6_layRow_45 hl (k := 1) rfl (by decide) (by decide) rfl (fun ls hl => ?_)
  refine lv_goto (tgt := 21) hx hb dX6_layRow_48 (by decide) ?_
  refine lv_iload hx hb dX6_layRow_21 (lv_at hl 0 rfl) ?_
  refine lv_iload_n hx hb dX6_layRow_23 rfl (lv_at hl 4 rfl) ?_
  refine lv_icmp_ge (tgt := 51) hx hb dX6_layRow_24 (by decide) (fun c1 => absurd c1 (by decide)) (fun _ => ?_)
  refine lv_aload_n hx hb dX6_layRow_27 rfl (lv_at hl 2 rfl) ?_
  refine f_6_3 F w (a := 135) rfl tb_111 dX6_layRow_28 ?_
  refine lv_iconst (v := 0) hx hb dX6_layRow_31 (by decide) ?_
  refine lv_iload hx hb dX6_layRow_32 (lv_at hl 1 rfl) ?_
  refine lv_iconst (v := 3) hx hb dX6_layRow_34 (by decide) ?_
  refine lv_irem hx hb dX6_layRow_35 (by decide) ?_
  refine k_Vv F w (As := [.int 0, .int (((p3 / 3) / 3) - ((p3 / 3) / 3) / 3 * 3)]) (rest := []) (a := 138) (by decide) (sh_9 rfl _ _) rfl (c_X9_insertTone_414 ((sA_ne (by decide)).trans st_at) ((sA_ne (by decide)).trans ((st_ne (by decide)).trans ((sA_ne (by decide)).trans ((st_ne (by decide)).trans ((st_ne (by decide)).trans h8))))) ((sA_ne (by decide)).trans ((st_ne (by decide)).trans ((sA_ne (by decide)).trans ((st_ne (by decide)).trans ((st_ne (by decide)).trans h9))))) ((sA_ne (by decide)).trans ((st_ne (by decide)).trans ((sA_ne (by decide)).trans ((st_ne (by decide)).trans ((st_ne (by decide)).trans h7)))))) gv_X6_69 hv_X9_insertTone ⟨Nat.le_of_ble_eq_true rfl, Nat.le_of_ble_eq_true rfl⟩ hl.1 rfl (Nat.le_of_ble_eq_true rfl) ⟨Nat.zero_le _, Nat.zero_le _⟩ dX6_layRow_36 (fun M1 H locs hp w => ?_)
  obtain ⟨f23, hf⟩ := hp
  rw [hf] at w
  clear hf
  refine lv_iload hx hb dX6_layRow_39 (lv_at hl 1 rfl) ?_
  refine lv_iconst (v := 3) hx hb dX6_layRow_41 (by decide) ?_
  refine lv_idiv hx hb dX6_layRow_42 (by decide) ?_
  refine lv_istore (lv' := [(4, .int (((p3 / 3) / 3) / 3)), (5, .int 2), (0, .ref (B + 135)), (1, .ref (B + 44)), (2, .int 3), (3, .int p3)]) hx hb dX6_layRow_43 hl (by decide) rfl (fun ls hl => ?_)
  refine lv_iinc (v := 3) (lv' := [(5, .int 3), (4, .int (((p3 / 3) / 3) / 3)), (0, .ref (B + 135)), (1, .ref (B + 44)), (2, .int 3), (3, .int p3)]) hx hb dX6_layRow_45 hl (k := 1) rfl (by decide) (by decide) rfl (fun ls hl => ?_)
  refine lv_goto (tgt := 21) hx hb dX6_layRow_48 (by decide) ?_
  refine lv_iload hx hb dX6_layRow_21 (lv_at hl 0 rfl) ?_
  refine lv_iload_n hx hb dX6_layRow_23 rfl (lv_at hl 4 rfl) ?_
  refine lv_icmp_ge (tgt := 51) hx hb dX6_layRow_24 (by decide) (fun _ => ?_) (fun c1 => absurd c1 (by decide))
  exact e_v F w hr hlocks ⟨_, hv_ext (a := 139) (fun b hb => by simp [st, sA, hb]) rfl⟩ dX6_layRow_51
set_option maxRecDepth 8000 in
theorem bd_X6_bring_416 {p : Program} {l : Launch} {e : Env} {s : State} {m : MethodId} {args : Array Value} {below : List Frame} {meth : Method} {c : Code} {D : va_G} {B : Nat} {cy : Nat → ClassId} {H H0 : Heap} {locs : List Loc} {Q : State → Prop} {ls : Array Slot} {M : Mem} {k : Nat} (F : CallFix p m c cX6_bring 11 s args TB RX6) (w : Wd D B cy s H0 M H locs) (hl : lv_has ls 11 [(9, .int (nI k)), (7, .long 0), (5, .long 0), (4, .int 27), (0, .ref (B + 135)), (1, .ref (B + 22)), (2, .ref (B + 44)), (3, .int 3)]) (h0 : ¬ 27 ≤ (nI k)) (h1 : M.1 138 0 = 3) (h2 : M.1 138 1 = 0) (h3 : M.1 138 2 = 0) (h4 : M.1 138 3 = 0) (h5 : M.1 44 1 = 0) (h6 : M.1 44 2 = 0) (h7 : M.1 44 3 = 0) (h8 : M.1 140 0 = 0) (h9 : M.1 140 1 = 0) (h10 : M.1 140 2 = 0) (h11 : M.1 22 2 = 0) (h12 : M.1 136 3 = (nI k)) (h13 : ¬ (nI k) = 0) (h14 : M.1 137 3 = 0) (kk : ∀ (f : Nat → Int32) (H1 : Heap) (locs1 : List Loc) (ls1 : Array Slot), Wd D B cy s H0 (st (sA (st (st (st (st M 138 0 0) 138 0 1) 138 0 2) 138 0 3) 139 f) 136 3 (((nI k) + 1))) H1 locs1 → lv_has ls1 11 [(9, .int ((nI k) + 1)), (7, .long 0), (5, .long 0), (4, .int 27), (0, .ref (B + 135)), (1, .ref (B + 22)), (2, .ref (B + 44)), (3, .int 3)] → W p l e (rmm 2 48) s m args below meth c H1 locs1 0 0 Q (F0 m 76 ls1 [])) : W p l e (rmm 2 48) s m args below meth c H locs 0 0 Q (F0 m 76 ls []) := by
  have hx := F.1
  have hb := F.2.1
  refine lv_iload hx hb dX6_bring_76 (lv_at hl 0 rfl) ?_
  refine lv_iload hx hb dX6_bring_78 (lv_at hl 3 rfl) ?_
  refine lv_icmp_ge (tgt := 199) hx hb dX6_bring_80 (by decide) (fun c1 => absurd c1 h0) (fun _ => ?_)
  refine lv_aload_n hx hb dX6_bring_83 rfl (lv_at hl 4 rfl) ?_
  refine lv_aload_n hx hb dX6_bring_84 rfl (lv_at hl 5 rfl) ?_
  refine f_0_4 F w (a := 22) rfl tb_556 dX6_bring_85 ?_
  refine lv_iload_n hx hb dX6_bring_88 rfl (lv_at hl 7 rfl) ?_
  refine lv_iload hx hb dX6_bring_89 (lv_at hl 0 rfl) ?_
  refine k_Vv F w (As := [.ref (B + 44), .int 3, .int (nI k)]) (rest := []) (a := 135) (by decide) (sh_6 rfl _ _) rfl (c_X6_layRow_415 (h1) (h2) (h3) (h4) (h5) (h6) (h7) (h8) (h9) (h10)) gv_X6_41 hv_X6_layRow ⟨Nat.le_of_ble_eq_true rfl, Nat.le_of_ble_eq_true rfl⟩ hl.1 rfl (Nat.le_of_ble_eq_true rfl) ⟨Nat.zero_le _, Nat.zero_le _⟩ dX6_bring_91 (fun M1 H locs hp w => ?_)
  obtain ⟨f21, hf⟩ := hp
  rw [hf] at w
  clear hf
  refine lv_iconst (v := 0) hx hb dX6_bring_94 (by decide) ?_
  refine lv_istore (lv' := [(10, .int 0), (9, .int (nI k)), (7, .long 0), (5, .long 0), (4, .int 27), (0, .ref (B + 135)), (1, .ref (B + 22)), (2, .ref (B + 44)), (3, .int 3)]) hx hb dX6_bring_95 hl (by decide) rfl (fun ls hl => ?_)
  refine lv_iload hx hb dX6_bring_97 (lv_at hl 0 rfl) ?_
  refine lv_aload_n hx hb dX6_bring_99 rfl (lv_at hl 6 rfl) ?_
  refine f_0_2 F w (a := 22) rfl tb_562 dX6_bring_100 ?_
  refine r_val (v := 0) ((sA_ne (by decide)).trans ((st_ne (by decide)).trans ((st_ne (by decide)).trans ((st_ne (by decide)).trans ((st_ne (by decide)).trans h11))))) ?_
  refine lv_icmp_ge (tgt := 131) hx hb dX6_bring_103 (by decide) (fun _ => ?_) (fun c1 => absurd c1 (by decide))
  refine lv_aload_n hx hb dX6_bring_131 rfl (lv_at hl 5 rfl) ?_
  refine f_6_3 F w (a := 135) rfl tb_111 dX6_bring_132 ?_
  refine x_Vl F w (As := []) (rest := []) (a := 138) (by decide) (sh_9 rfl _ _) rfl (c_X9_kindsRead_411 ((sA_ne (by decide)).trans st_at) ((sA_ne (by decide)).trans ((st_ne (by decide)).trans ((st_ne (by decide)).trans ((st_ne (by decide)).trans ((st_ne (by decide)).trans h8))))) ((sA_ne (by decide)).trans ((st_ne (by decide)).trans ((st_ne (by decide)).trans ((st_ne (by decide)).trans ((st_ne (by decide)).trans h9))))) ((sA_ne (by decide)).trans ((st_ne (by decide)).trans ((st_ne (by decide)).trans ((st_ne (by decide)).trans ((st_ne (by decide)).trans h10)))))) gv_X6_29 hv_X9_kindsRead ⟨Nat.le_of_ble_eq_true rfl, Nat.le_of_ble_eq_true rfl⟩ hl.1 rfl (Nat.le_of_ble_eq_true rfl) ⟨Nat.zero_le _, Nat.zero_le _⟩ dX6_bring_135 (fun H locs w => ?_)
  refine lv_lload hx hb dX6_bring_138 (lv_at hl 3 rfl) ?_
  refine W.lcmp hx hb dX6_bring_140 ?_
  refine r_val (v := 0) (by decide) ?_
  refine lv_if_ne (tgt := 193) hx hb dX6_bring_141 (by decide) (fun c1 => absurd c1 (by decide)) (fun _ => ?_)
  refine lv_aload_n hx hb dX6_bring_144 rfl (lv_at hl 5 rfl) ?_
  refine f_6_3 F w (a := 135) rfl tb_111 dX6_bring_145 ?_
  refine x_Vl F w (As := []) (rest := []) (a := 138) (by decide) (sh_9 rfl _ _) rfl (c_X9_linesRead_412 ((sA_ne (by decide)).trans st_at) ((sA_ne (by decide)).trans ((st_ne (by decide)).trans ((st_ne (by decide)).trans ((st_ne (by decide)).trans ((st_ne (by decide)).trans h8))))) ((sA_ne (by decide)).trans ((st_ne (by decide)).trans ((st_ne (by decide)).trans ((st_ne (by decide)).trans ((st_ne (by decide)).trans h9))))) ((sA_ne (by decide)).trans ((st_ne (by decide)).trans ((st_ne (by decide)).trans ((st_ne (by decide)).trans ((st_ne (by decide)).trans h10)))))) gv_X6_33 hv_X9_linesRead ⟨Nat.le_of_ble_eq_true rfl, Nat.le_of_ble_eq_true rfl⟩ hl.1 rfl (Nat.le_of_ble_eq_true rfl) ⟨Nat.zero_le _, Nat.zero_le _⟩ dX6_bring_148 (fun H locs w => ?_)
  refine lv_lload hx hb dX6_bring_151 (lv_at hl 2 rfl) ?_
  refine W.lcmp hx hb dX6_bring_153 ?_
  refine r_val (v := 0) (by decide) ?_
  refine lv_if_ne (tgt := 193) hx hb dX6_bring_154 (by decide) (fun c1 => absurd c1 (by decide)) (fun _ => ?_)
  refine lv_aload_n hx hb dX6_bring_157 rfl (lv_at hl 5 rfl) ?_
  refine f_6_2 F w (a := 135) rfl tb_109 dX6_bring_158 ?_
  refine lv_iload_n hx hb dX6_bring_161 rfl (lv_at hl 8 rfl) ?_
  refine lv_aload_n hx hb dX6_bring_162 rfl (lv_at hl 5 rfl) ?_
  refine f_6_1 F w (a := 135) rfl tb_108 dX6_bring_163 ?_
  refine lv_iload_n hx hb dX6_bring_166 rfl (lv_at hl 8 rfl) ?_
  refine g_iald F w (a := 136) rfl (j := 3) ⟨by decide, by decide⟩ (by decide) dX6_bring_167 ?_
  refine r_val (v := (nI k)) ((sA_ne (by decide)).trans ((st_ne (by decide)).trans ((st_ne (by decide)).trans ((st_ne (by decide)).trans ((st_ne (by decide)).trans h12))))) ?_
  refine lv_if_ne (tgt := 176) hx hb dX6_bring_168 (by decide) (fun _ => ?_) (fun c1 => absurd c1 h13)
  refine lv_aload_n hx hb dX6_bring_176 rfl (lv_at hl 5 rfl) ?_
  refine f_6_2 F w (a := 135) rfl tb_109 dX6_bring_177 ?_
  refine lv_iload_n hx hb dX6_bring_180 rfl (lv_at hl 8 rfl) ?_
  refine g_iald F w (a := 137) rfl (j := 3) ⟨by decide, by decide⟩ (by decide) dX6_bring_181 ?_
  refine r_val (v := 0) ((sA_ne (by decide)).trans ((st_ne (by decide)).trans ((st_ne (by decide)).trans ((st_ne (by decide)).trans ((st_ne (by decide)).trans h14))))) ?_
  refine g_iast F w (a := 137) rfl (j := 3) ⟨by decide, by decide⟩ (by decide) dX6_bring_182 (fun H locs w => ?_)
  rw [st_same ((sA_ne (by decide)).trans ((st_ne (by decide)).trans ((st_ne (by decide)).trans ((st_ne (by decide)).trans ((st_ne (by decide)).trans h14)))))] at w
  refine lv_aload_n hx hb dX6_bring_183 rfl (lv_at hl 5 rfl) ?_
  refine f_6_1 F w (a := 135) rfl tb_108 dX6_bring_184 ?_
  refine lv_iload_n hx hb dX6_bring_187 rfl (lv_at hl 8 rfl) ?_
  refine lv_dup2_11 hx hb dX6_bring_188 rfl rfl ?_
  refine g_iald F w (a := 136) rfl (j := 3) ⟨by decide, by decide⟩ (by decide) dX6_bring_189 ?_
  refine r_val (v := (nI k)) ((sA_ne (by decide)).trans ((st_ne (by decide)).trans ((st_ne (by decide)).trans ((st_ne (by decide)).trans ((st_ne (by decide)).trans h12))))) ?_
  refine lv_iconst (v := 1) hx hb dX6_bring_190 (by decide) ?_
  refine lv_iadd hx hb dX6_bring_191 ?_
  refine g_iast F w (a := 136) rfl (j := 3) ⟨by decide, by decide⟩ (by decide) dX6_bring_192 (fun H locs w => ?_)
  refine lv_iinc (v := ((nI k) + 1)) (lv' := [(9, .int ((nI k) + 1)), (10, .int 0), (7, .long 0), (5, .long 0), (4, .int 27), (0, .ref (B + 135)), (1, .ref (B + 22)), (2, .ref (B + 44)), (3, .int 3)]) hx hb dX6_bring_193 hl (k := 1) rfl rfl (by decide) rfl (fun ls hl => ?_)
  refine lv_goto (tgt := 76) hx hb dX6_bring_196 (by decide) ?_
  exact kk _ _ _ _ w (lv_sub hl [0, 2, 3, 4, 5, 6, 7, 8] rfl)
set_option maxRecDepth 8000 in
theorem ex_X6_bring_416 {p : Program} {l : Launch} {e : Env} {s : State} {m : MethodId} {args : Array Value} {below : List Frame} {meth : Method} {c : Code} {D : va_G} {B : Nat} {cy : Nat → ClassId} {H : Heap} {locs : List Loc} {ls : Array Slot} {M : Mem} {post : Mem → Prop} (F : CallFix p m c cX6_bring 11 s args TB RX6) (hr : meth.sig.returnType = none) (hlocks : meth.locks = false) (w : Wd D B cy s s.heap M H locs) (hl : lv_has ls 11 [(9, .int 27), (7, .long 0), (5, .long 0), (4, .int 27), (0, .ref (B + 135)), (1, .ref (B + 22)), (2, .ref (B + 44)), (3, .int 3)]) (h0 : M.1 135 0 = 0) (hp : post (st M 135 0 8)) : W p l e (rmm 2 48) s m args below meth c H locs 0 0 (MQ below (va_Qv post (fun M1 t => Wp D B cy M1 t) (fun q => B ≤ q)) args s 0 0 (fun q => B ≤ q)) (F0 m 76 ls []) := by
  have hx := F.1
  have hb := F.2.1
  refine lv_iload hx hb dX6_bring_76 (lv_at hl 0 rfl) ?_
  refine lv_iload hx hb dX6_bring_78 (lv_at hl 3 rfl) ?_
  refine lv_icmp_ge (tgt := 199) hx hb dX6_bring_80 (by decide) (fun _ => ?_) (fun c1 => absurd c1 (by decide))
  refine lv_aload_n hx hb dX6_bring_199 rfl (lv_at hl 4 rfl) ?_
  refine lv_dup hx hb dX6_bring_200 rfl ?_
  refine f_6_0 F w (a := 135) rfl tb_107 dX6_bring_201 ?_
  refine r_val (v := 0) (h0) ?_
  refine lv_iconst (v := 1) hx hb dX6_bring_204 (by decide) ?_
  refine lv_iload_n hx hb dX6_bring_205 rfl (lv_at hl 7 rfl) ?_
  refine lv_ishl hx hb dX6_bring_206 ?_
  refine r_val (v := 8) (by decide) ?_
  refine lv_ior hx hb dX6_bring_207 ?_
  refine r_val (v := 8) (by decide) ?_
  refine u_6_0 F w (a := 135) rfl tb_107 dX6_bring_208 (fun H locs w => ?_)
  exact e_v F w hr hlocks hp dX6_bring_211
set_option maxRecDepth 8000 in
theorem lp_X6_bring_416 {p : Program} {l : Launch} {e : Env} {s : State} {m : MethodId} {args : Array Value} {below : List Frame} {meth : Method} {c : Code} {D : va_G} {B : Nat} {cy : Nat → ClassId} {Mb : Mem} (F : CallFix p m c cX6_bring 11 s args TB RX6) (hr : meth.sig.returnType = none) (hlocks : meth.locks = false) : ∀ (n k : Nat), n + k = 27 → 1 ≤ k → ∀ (M : Mem) (H : Heap) (locs : List Loc) (ls : Array Slot), Wd D B cy s s.heap M H locs → lv_has ls 11 [(9, .int (nI k)), (7, .long 0), (5, .long 0), (4, .int 27), (0, .ref (B + 135)), (1, .ref (B + 22)), (2, .ref (B + 44)), (3, .int 3)] → M.1 136 3 = nI k → (M.1 138 0 = 3) → (M.1 138 1 = 0) → (M.1 138 2 = 0) → (M.1 138 3 = 0) → (M.1 44 1 = 0) → (M.1 44 2 = 0) → (M.1 44 3 = 0) → (M.1 140 0 = 0) → (M.1 140 1 = 0) → (M.1 140 2 = 0) → (M.1 22 2 = 0) → (M.1 137 3 = 0) → (M.1 135 0 = 0) → (∀ a, 146 ≤ a → M.1 a = Mb.1 a) → W p l e (rmm 2 48) s m args below meth c H locs 0 0 (MQ below (va_Qv (fun M1 => M1.1 136 3 = 27 ∧ M1.1 137 3 = 0 ∧ ∀ a, 146 ≤ a → M1.1 a = Mb.1 a) (fun M1 t => Wp D B cy M1 t) (fun q => B ≤ q)) args s 0 0 (fun q => B ≤ q)) (F0 m 76 ls []) := by
  intro n
  induction n with
  | zero =>
    intro k hk h1 M H locs ls w hl g0 h0 h1 h2 h3 h4 h5 h6 h7 h8 h9 h10 h11 h12 hi
    have hk : k = 27 := by omega
    subst hk
    exact ex_X6_bring_416 (post := fun M1 => M1.1 136 3 = 27 ∧ M1.1 137 3 = 0 ∧ ∀ a, 146 ≤ a → M1.1 a = Mb.1 a) F hr hlocks w hl h12 ⟨(st_ne (by decide)).trans g0, (st_ne (by decide)).trans h11, fun a ha => (st_hi (by omega)).trans ((hi a ha))⟩
  | succ n ih =>
    intro k hk h1 M H locs ls w hl g0 h0 h1 h2 h3 h4 h5 h6 h7 h8 h9 h10 h11 h12 hi
    exact bd_X6_bring_416 F w hl (show ¬ nI 27 ≤ nI k from nI_ge (by omega) (by decide)) h0 h1 h2 h3 h4 h5 h6 h7 h8 h9 h10 g0 (nI_ne0 (by omega) (by omega)) h11 (fun f H1 locs1 ls1 w1 hl1 => ih (k + 1) (by omega) (by omega) _ H1 locs1 ls1 w1 (by rw [nI_1] at hl1; exact hl1) (st_at.trans (nI_1 k)) ((st_ne (by decide)).trans ((sA_ne (by decide)).trans st_at)) ((st_ne (by decide)).trans ((sA_ne (by decide)).trans ((st_ne (by decide)).trans ((st_ne (by decide)).trans ((st_ne (by decide)).trans ((st_ne (by decide)).trans h1)))))) ((st_ne (by decide)).trans ((sA_ne (by decide)).trans ((st_ne (by decide)).trans ((st_ne (by decide)).trans ((st_ne (by decide)).trans ((st_ne (by decide)).trans h2)))))) ((st_ne (by decide)).trans ((sA_ne (by decide)).trans ((st_ne (by decide)).trans ((st_ne (by decide)).trans ((st_ne (by decide)).trans ((st_ne (by decide)).trans h3)))))) ((st_ne (by decide)).trans ((sA_ne (by decide)).trans ((st_ne (by decide)).trans ((st_ne (by decide)).trans ((st_ne (by decide)).trans ((st_ne (by decide)).trans h4)))))) ((st_ne (by decide)).trans ((sA_ne (by decide)).trans ((st_ne (by decide)).trans ((st_ne (by decide)).trans ((st_ne (by decide)).trans ((st_ne (by decide)).trans h5)))))) ((st_ne (by decide)).trans ((sA_ne (by decide)).trans ((st_ne (by decide)).trans ((st_ne (by decide)).trans ((st_ne (by decide)).trans ((st_ne (by decide)).trans h6)))))) ((st_ne (by decide)).trans ((sA_ne (by decide)).trans ((st_ne (by decide)).trans ((st_ne (by decide)).trans ((st_ne (by decide)).trans ((st_ne (by decide)).trans h7)))))) ((st_ne (by decide)).trans ((sA_ne (by decide)).trans ((st_ne (by decide)).trans ((st_ne (by decide)).trans ((st_ne (by decide)).trans ((st_ne (by decide)).trans h8)))))) ((st_ne (by decide)).trans ((sA_ne (by decide)).trans ((st_ne (by decide)).trans ((st_ne (by decide)).trans ((st_ne (by decide)).trans ((st_ne (by decide)).trans h9)))))) ((st_ne (by decide)).trans ((sA_ne (by decide)).trans ((st_ne (by decide)).trans ((st_ne (by decide)).trans ((st_ne (by decide)).trans ((st_ne (by decide)).trans h10)))))) ((st_ne (by decide)).trans ((sA_ne (by decide)).trans ((st_ne (by decide)).trans ((st_ne (by decide)).trans ((st_ne (by decide)).trans ((st_ne (by decide)).trans h11)))))) ((st_ne (by decide)).trans ((sA_ne (by decide)).trans ((st_ne (by decide)).trans ((st_ne (by decide)).trans ((st_ne (by decide)).trans ((st_ne (by decide)).trans h12)))))) (fun a ha => (st_hi (by omega)).trans ((sA_hi (by omega)).trans ((st_hi (by omega)).trans ((st_hi (by omega)).trans ((st_hi (by omega)).trans ((st_hi (by omega)).trans ((hi a ha)))))))))
set_option maxRecDepth 8000 in
theorem c_X6_bring_416 {l : Launch} {D : va_G} {B : Nat} {cy : Nat → ClassId} {M : Mem} (h0 : M.1 135 0 = 0) (h1 : M.1 44 0 = 0) (h2 : M.1 136 3 = 0) (h3 : M.1 137 3 = 0) (h4 : M.1 138 0 = 0) (h5 : M.1 138 1 = 0) (h6 : M.1 138 2 = 0) (h7 : M.1 138 3 = 0) (h8 : M.1 44 1 = 0) (h9 : M.1 44 2 = 0) (h10 : M.1 44 3 = 0) (h11 : M.1 140 0 = 0) (h12 : M.1 140 1 = 0) (h13 : M.1 140 2 = 0) (h14 : M.1 22 2 = 0) : Cv l D B cy yX6_bring cX6_bring 11 2 48 [.ref (B + 135), .ref (B + 22), .ref (B + 44), .int 3] M (fun M1 => M1.1 136 3 = 27 ∧ M1.1 137 3 = 0 ∧ ∀ a, 146 ≤ a → M1.1 a = M.1 a) := by
  refine s_any (by decide) (Nat.le_of_ble_eq_true rfl) ?_
  intro p e s m below meth c ls F hr hlocks w hl
  have F : CallFix p m c cX6_bring 11 s _ TB RX6 := F
  have hx := F.1
  have hb := F.2.1
  have hl : lv_has ls 11 [(0, .ref (B + 135)), (1, .ref (B + 22)), (2, .ref (B + 44)), (3, .int 3)] := hl
  refine lv_iload_n hx hb dX6_bring_0 rfl (lv_at hl 3 rfl) ?_
  refine lv_if_lt (tgt := 21) hx hb dX6_bring_1 (by decide) (fun c1 => absurd c1 (by decide)) (fun _ => ?_)
  refine lv_iload_n hx hb dX6_bring_4 rfl (lv_at hl 3 rfl) ?_
  refine lv_bipush (v := 6) hx hb dX6_bring_5 (by decide) ?_
  refine lv_icmp_gt (tgt := 21) hx hb dX6_bring_7 (by decide) (fun c1 => absurd c1 (by decide)) (fun _ => ?_)
  refine lv_aload_n hx hb dX6_bring_10 rfl (lv_at hl 0 rfl) ?_
  refine f_6_0 F w (a := 135) rfl tb_107 dX6_bring_11 ?_
  refine r_val (v := 0) (h0) ?_
  refine lv_iload_n hx hb dX6_bring_14 rfl (lv_at hl 3 rfl) ?_
  refine lv_ishr hx hb dX6_bring_15 ?_
  refine r_val (v := 0) (by decide) ?_
  refine lv_iconst (v := 1) hx hb dX6_bring_16 (by decide) ?_
  refine lv_iand hx hb dX6_bring_17 ?_
  refine r_val (v := 0) (by decide) ?_
  refine lv_if_eq (tgt := 22) hx hb dX6_bring_18 (by decide) (fun _ => ?_) (fun c1 => absurd c1 (by decide))
  refine lv_iconst (v := 1) hx hb dX6_bring_22 (by decide) ?_
  refine lv_istore (lv' := [(4, .int 1), (0, .ref (B + 135)), (1, .ref (B + 22)), (2, .ref (B + 44)), (3, .int 3)]) hx hb dX6_bring_23 hl (by decide) rfl (fun ls hl => ?_)
  refine lv_iconst (v := 0) hx hb dX6_bring_25 (by decide) ?_
  refine lv_istore (lv' := [(5, .int 0), (4, .int 1), (0, .ref (B + 135)), (1, .ref (B + 22)), (2, .ref (B + 44)), (3, .int 3)]) hx hb dX6_bring_26 hl (by decide) rfl (fun ls hl => ?_)
  refine lv_iload hx hb dX6_bring_28 (lv_at hl 0 rfl) ?_
  refine lv_iload_n hx hb dX6_bring_30 rfl (lv_at hl 5 rfl) ?_
  refine lv_icmp_ge (tgt := 46) hx hb dX6_bring_31 (by decide) (fun c1 => absurd c1 (by decide)) (fun _ => ?_)
  refine lv_iload hx hb dX6_bring_34 (lv_at hl 1 rfl) ?_
  refine lv_iconst (v := 3) hx hb dX6_bring_36 (by decide) ?_
  refine lv_imul hx hb dX6_bring_37 ?_
  refine r_val (v := 3) (by decide) ?_
  refine lv_istore (lv' := [(4, .int 3), (5, .int 0), (0, .ref (B + 135)), (1, .ref (B + 22)), (2, .ref (B + 44)), (3, .int 3)]) hx hb dX6_bring_38 hl (by decide) rfl (fun ls hl => ?_)
  refine lv_iinc (v := 1) (lv' := [(5, .int 1), (4, .int 3), (0, .ref (B + 135)), (1, .ref (B + 22)), (2, .ref (B + 44)), (3, .int 3)]) hx hb dX6_bring_40 hl (k := 1) rfl (by decide) (by decide) rfl (fun ls hl => ?_)
  refine lv_goto (tgt := 28) hx hb dX6_bring_43 (by decide) ?_
  refine lv_iload hx hb dX6_bring_28 (lv_at hl 0 rfl) ?_
  refine lv_iload_n hx hb dX6_bring_30 rfl (lv_at hl 5 rfl) ?_
  refine lv_icmp_ge (tgt := 46) hx hb dX6_bring_31 (by decide) (fun c1 => absurd c1 (by decide)) (fun _ => ?_)
  refine lv_iload hx hb dX6_bring_34 (lv_at hl 1 rfl) ?_
  refine lv_iconst (v := 3) hx hb dX6_bring_36 (by decide) ?_
  refine lv_imul hx hb dX6_bring_37 ?_
  refine r_val (v := 9) (by decide) ?_
  refine lv_istore (lv' := [(4, .int 9), (5, .int 1), (0, .ref (B + 135)), (1, .ref (B + 22)), (2, .ref (B + 44)), (3, .int 3)]) hx hb dX6_bring_38 hl (by decide) rfl (fun ls hl => ?_)
  refine lv_iinc (v := 2) (lv' := [(5, .int 2), (4, .int 9), (0, .ref (B + 135)), (1, .ref (B + 22)), (2, .ref (B + 44)), (3, .int 3)]) hx hb dX6_bring_40 hl (k := 1) rfl (by decide) (by decide) rfl (fun ls hl => ?_)
  refine lv_goto (tgt := 28) hx hb dX6_bring_43 (by decide) ?_
  refine lv_iload hx hb dX6_bring_28 (lv_at hl 0 rfl) ?_
  refine lv_iload_n hx hb dX6_bring_30 rfl (lv_at hl 5 rfl) ?_
  refine lv_icmp_ge (tgt := 46) hx hb dX6_bring_31 (by decide) (fun c1 => absurd c1 (by decide)) (fun _ => ?_)
  refine lv_iload hx hb dX6_bring_34 (lv_at hl 1 rfl) ?_
  refine lv_iconst (v := 3) hx hb dX6_bring_36 (by decide) ?_
  refine lv_imul hx hb dX6_bring_37 ?_
  refine r_val (v := 27) (by decide) ?_
  refine lv_istore (lv' := [(4, .int 27), (5, .int 2), (0, .ref (B + 135)), (1, .ref (B + 22)), (2, .ref (B + 44)), (3, .int 3)]) hx hb dX6_bring_38 hl (by decide) rfl (fun ls hl => ?_)
  refine lv_iinc (v := 3) (lv' := [(5, .int 3), (4, .int 27), (0, .ref (B + 135)), (1, .ref (B + 22)), (2, .ref (B + 44)), (3, .int 3)]) hx hb dX6_bring_40 hl (k := 1) rfl (by decide) (by decide) rfl (fun ls hl => ?_)
  refine lv_goto (tgt := 28) hx hb dX6_bring_43 (by decide) ?_
  refine lv_iload hx hb dX6_bring_28 (lv_at hl 0 rfl) ?_
  refine lv_iload_n hx hb dX6_bring_30 rfl (lv_at hl 5 rfl) ?_
  refine lv_icmp_ge (tgt := 46) hx hb dX6_bring_31 (by decide) (fun _ => ?_) (fun c1 => absurd c1 (by decide))
  refine lv_aload_n hx hb dX6_bring_46 rfl (lv_at hl 4 rfl) ?_
  refine x_Vl F w (As := []) (rest := []) (a := 44) (by decide) (sh_9 rfl _ _) rfl (c_X9_kindsRead_345 (h1)) gv_X6_29 hv_X9_kindsRead ⟨Nat.le_of_ble_eq_true rfl, Nat.le_of_ble_eq_true rfl⟩ hl.1 rfl (Nat.le_of_ble_eq_true rfl) ⟨Nat.zero_le _, Nat.zero_le _⟩ dX6_bring_47 (fun H locs w => ?_)
  refine lv_lstore (lv' := [(5, .long 0), (4, .int 27), (0, .ref (B + 135)), (1, .ref (B + 22)), (2, .ref (B + 44)), (3, .int 3)]) hx hb dX6_bring_50 hl (by decide) rfl (fun ls hl => ?_)
  refine lv_aload_n hx hb dX6_bring_52 rfl (lv_at hl 4 rfl) ?_
  refine x_Vl F w (As := []) (rest := []) (a := 44) (by decide) (sh_9 rfl _ _) rfl (c_X9_linesRead_346 (h1)) gv_X6_33 hv_X9_linesRead ⟨Nat.le_of_ble_eq_true rfl, Nat.le_of_ble_eq_true rfl⟩ hl.1 rfl (Nat.le_of_ble_eq_true rfl) ⟨Nat.zero_le _, Nat.zero_le _⟩ dX6_bring_53 (fun H locs w => ?_)
  refine lv_lstore (lv' := [(7, .long 0), (5, .long 0), (4, .int 27), (0, .ref (B + 135)), (1, .ref (B + 22)), (2, .ref (B + 44)), (3, .int 3)]) hx hb dX6_bring_56 hl (by decide) rfl (fun ls hl => ?_)
  refine lv_aload_n hx hb dX6_bring_58 rfl (lv_at hl 3 rfl) ?_
  refine f_6_1 F w (a := 135) rfl tb_108 dX6_bring_59 ?_
  refine lv_iload_n hx hb dX6_bring_62 rfl (lv_at hl 6 rfl) ?_
  refine lv_iconst (v := 0) hx hb dX6_bring_63 (by decide) ?_
  refine g_iast F w (a := 136) rfl (j := 3) ⟨by decide, by decide⟩ (by decide) dX6_bring_64 (fun H locs w => ?_)
  rw [st_same (h2)] at w
  refine lv_aload_n hx hb dX6_bring_65 rfl (lv_at hl 3 rfl) ?_
  refine f_6_2 F w (a := 135) rfl tb_109 dX6_bring_66 ?_
  refine lv_iload_n hx hb dX6_bring_69 rfl (lv_at hl 6 rfl) ?_
  refine lv_bipush (v := (-2)) hx hb dX6_bring_70 (by decide) ?_
  refine g_iast F w (a := 137) rfl (j := 3) ⟨by decide, by decide⟩ (by decide) dX6_bring_72 (fun H locs w => ?_)
  refine lv_iconst (v := 0) hx hb dX6_bring_73 (by decide) ?_
  refine lv_istore (lv' := [(9, .int 0), (7, .long 0), (5, .long 0), (4, .int 27), (0, .ref (B + 135)), (1, .ref (B + 22)), (2, .ref (B + 44)), (3, .int 3)]) hx hb dX6_bring_74 hl (by decide) rfl (fun ls hl => ?_)
  refine lv_iload hx hb dX6_bring_76 (lv_at hl 0 rfl) ?_
  refine lv_iload hx hb dX6_bring_78 (lv_at hl 3 rfl) ?_
  refine lv_icmp_ge (tgt := 199) hx hb dX6_bring_80 (by decide) (fun c1 => absurd c1 (by decide)) (fun _ => ?_)
  refine lv_aload_n hx hb dX6_bring_83 rfl (lv_at hl 4 rfl) ?_
  refine lv_aload_n hx hb dX6_bring_84 rfl (lv_at hl 5 rfl) ?_
  refine f_0_4 F w (a := 22) rfl tb_556 dX6_bring_85 ?_
  refine lv_iload_n hx hb dX6_bring_88 rfl (lv_at hl 7 rfl) ?_
  refine lv_iload hx hb dX6_bring_89 (lv_at hl 0 rfl) ?_
  refine k_Vv F w (As := [.ref (B + 44), .int 3, .int 0]) (rest := []) (a := 135) (by decide) (sh_6 rfl _ _) rfl (c_X6_layRow_410 ((st_ne (by decide)).trans h4) ((st_ne (by decide)).trans h5) ((st_ne (by decide)).trans h6) ((st_ne (by decide)).trans h7) ((st_ne (by decide)).trans h8) ((st_ne (by decide)).trans h9) ((st_ne (by decide)).trans h10) ((st_ne (by decide)).trans h11) ((st_ne (by decide)).trans h12) ((st_ne (by decide)).trans h13)) gv_X6_41 hv_X6_layRow ⟨Nat.le_of_ble_eq_true rfl, Nat.le_of_ble_eq_true rfl⟩ hl.1 rfl (Nat.le_of_ble_eq_true rfl) ⟨Nat.zero_le _, Nat.zero_le _⟩ dX6_bring_91 (fun M1 H locs hp w => ?_)
  obtain ⟨f21, hf⟩ := hp
  rw [hf] at w
  clear hf
  refine lv_iconst (v := 0) hx hb dX6_bring_94 (by decide) ?_
  refine lv_istore (lv' := [(10, .int 0), (9, .int 0), (7, .long 0), (5, .long 0), (4, .int 27), (0, .ref (B + 135)), (1, .ref (B + 22)), (2, .ref (B + 44)), (3, .int 3)]) hx hb dX6_bring_95 hl (by decide) rfl (fun ls hl => ?_)
  refine lv_iload hx hb dX6_bring_97 (lv_at hl 0 rfl) ?_
  refine lv_aload_n hx hb dX6_bring_99 rfl (lv_at hl 6 rfl) ?_
  refine f_0_2 F w (a := 22) rfl tb_562 dX6_bring_100 ?_
  refine r_val (v := 0) ((sA_ne (by decide)).trans ((st_ne (by decide)).trans ((st_ne (by decide)).trans ((st_ne (by decide)).trans ((st_ne (by decide)).trans h14))))) ?_
  refine lv_icmp_ge (tgt := 131) hx hb dX6_bring_103 (by decide) (fun _ => ?_) (fun c1 => absurd c1 (by decide))
  refine lv_aload_n hx hb dX6_bring_131 rfl (lv_at hl 5 rfl) ?_
  refine f_6_3 F w (a := 135) rfl tb_111 dX6_bring_132 ?_
  refine x_Vl F w (As := []) (rest := []) (a := 138) (by decide) (sh_9 rfl _ _) rfl (c_X9_kindsRead_411 ((sA_ne (by decide)).trans st_at) ((sA_ne (by decide)).trans ((st_ne (by decide)).trans ((st_ne (by decide)).trans ((st_ne (by decide)).trans ((st_ne (by decide)).trans h11))))) ((sA_ne (by decide)).trans ((st_ne (by decide)).trans ((st_ne (by decide)).trans ((st_ne (by decide)).trans ((st_ne (by decide)).trans h12))))) ((sA_ne (by decide)).trans ((st_ne (by decide)).trans ((st_ne (by decide)).trans ((st_ne (by decide)).trans ((st_ne (by decide)).trans h13)))))) gv_X6_29 hv_X9_kindsRead ⟨Nat.le_of_ble_eq_true rfl, Nat.le_of_ble_eq_true rfl⟩ hl.1 rfl (Nat.le_of_ble_eq_true rfl) ⟨Nat.zero_le _, Nat.zero_le _⟩ dX6_bring_135 (fun H locs w => ?_)
  refine lv_lload hx hb dX6_bring_138 (lv_at hl 3 rfl) ?_
  refine W.lcmp hx hb dX6_bring_140 ?_
  refine r_val (v := 0) (by decide) ?_
  refine lv_if_ne (tgt := 193) hx hb dX6_bring_141 (by decide) (fun c1 => absurd c1 (by decide)) (fun _ => ?_)
  refine lv_aload_n hx hb dX6_bring_144 rfl (lv_at hl 5 rfl) ?_
  refine f_6_3 F w (a := 135) rfl tb_111 dX6_bring_145 ?_
  refine x_Vl F w (As := []) (rest := []) (a := 138) (by decide) (sh_9 rfl _ _) rfl (c_X9_linesRead_412 ((sA_ne (by decide)).trans st_at) ((sA_ne (by decide)).trans ((st_ne (by decide)).trans ((st_ne (by decide)).trans ((st_ne (by decide)).trans ((st_ne (by decide)).trans h11))))) ((sA_ne (by decide)).trans ((st_ne (by decide)).trans ((st_ne (by decide)).trans ((st_ne (by decide)).trans ((st_ne (by decide)).trans h12))))) ((sA_ne (by decide)).trans ((st_ne (by decide)).trans ((st_ne (by decide)).trans ((st_ne (by decide)).trans ((st_ne (by decide)).trans h13)))))) gv_X6_33 hv_X9_linesRead ⟨Nat.le_of_ble_eq_true rfl, Nat.le_of_ble_eq_true rfl⟩ hl.1 rfl (Nat.le_of_ble_eq_true rfl) ⟨Nat.zero_le _, Nat.zero_le _⟩ dX6_bring_148 (fun H locs w => ?_)
  refine lv_lload hx hb dX6_bring_151 (lv_at hl 2 rfl) ?_
  refine W.lcmp hx hb dX6_bring_153 ?_
  refine r_val (v := 0) (by decide) ?_
  refine lv_if_ne (tgt := 193) hx hb dX6_bring_154 (by decide) (fun c1 => absurd c1 (by decide)) (fun _ => ?_)
  refine lv_aload_n hx hb dX6_bring_157 rfl (lv_at hl 5 rfl) ?_
  refine f_6_2 F w (a := 135) rfl tb_109 dX6_bring_158 ?_
  refine lv_iload_n hx hb dX6_bring_161 rfl (lv_at hl 8 rfl) ?_
  refine lv_aload_n hx hb dX6_bring_162 rfl (lv_at hl 5 rfl) ?_
  refine f_6_1 F w (a := 135) rfl tb_108 dX6_bring_163 ?_
  refine lv_iload_n hx hb dX6_bring_166 rfl (lv_at hl 8 rfl) ?_
  refine g_iald F w (a := 136) rfl (j := 3) ⟨by decide, by decide⟩ (by decide) dX6_bring_167 ?_
  refine r_val (v := 0) ((sA_ne (by decide)).trans ((st_ne (by decide)).trans ((st_ne (by decide)).trans ((st_ne (by decide)).trans ((st_ne (by decide)).trans h2))))) ?_
  refine lv_if_ne (tgt := 176) hx hb dX6_bring_168 (by decide) (fun c1 => absurd c1 (by decide)) (fun _ => ?_)
  refine lv_iload hx hb dX6_bring_171 (lv_at hl 1 rfl) ?_
  refine lv_goto (tgt := 182) hx hb dX6_bring_173 (by decide) ?_
  refine g_iast F w (a := 137) rfl (j := 3) ⟨by decide, by decide⟩ (by decide) dX6_bring_182 (fun H locs w => ?_)
  refine lv_aload_n hx hb dX6_bring_183 rfl (lv_at hl 5 rfl) ?_
  refine f_6_1 F w (a := 135) rfl tb_108 dX6_bring_184 ?_
  refine lv_iload_n hx hb dX6_bring_187 rfl (lv_at hl 8 rfl) ?_
  refine lv_dup2_11 hx hb dX6_bring_188 rfl rfl ?_
  refine g_iald F w (a := 136) rfl (j := 3) ⟨by decide, by decide⟩ (by decide) dX6_bring_189 ?_
  refine r_val (v := 0) ((st_ne (by decide)).trans ((sA_ne (by decide)).trans ((st_ne (by decide)).trans ((st_ne (by decide)).trans ((st_ne (by decide)).trans ((st_ne (by decide)).trans h2)))))) ?_
  refine lv_iconst (v := 1) hx hb dX6_bring_190 (by decide) ?_
  refine lv_iadd hx hb dX6_bring_191 ?_
  refine r_val (v := 1) (by decide) ?_
  refine g_iast F w (a := 136) rfl (j := 3) ⟨by decide, by decide⟩ (by decide) dX6_bring_192 (fun H locs w => ?_)
  refine lv_iinc (v := 1) (lv' := [(9, .int 1), (10, .int 0), (7, .long 0), (5, .long 0), (4, .int 27), (0, .ref (B + 135)), (1, .ref (B + 22)), (2, .ref (B + 44)), (3, .int 3)]) hx hb dX6_bring_193 hl (k := 1) rfl (by decide) (by decide) rfl (fun ls hl => ?_)
  refine lv_goto (tgt := 76) hx hb dX6_bring_196 (by decide) ?_
  exact lp_X6_bring_416 F hr hlocks 26 1 (by decide) (by decide) _ H locs ls w (show lv_has ls 11 [(9, .int 1), (7, .long 0), (5, .long 0), (4, .int 27), (0, .ref (B + 135)), (1, .ref (B + 22)), (2, .ref (B + 44)), (3, .int 3)] from lv_sub hl [0, 2, 3, 4, 5, 6, 7, 8] rfl) (st_at) ((st_ne (by decide)).trans ((st_ne (by decide)).trans ((sA_ne (by decide)).trans st_at))) ((st_ne (by decide)).trans ((st_ne (by decide)).trans ((sA_ne (by decide)).trans ((st_ne (by decide)).trans ((st_ne (by decide)).trans ((st_ne (by decide)).trans ((st_ne (by decide)).trans h5))))))) ((st_ne (by decide)).trans ((st_ne (by decide)).trans ((sA_ne (by decide)).trans ((st_ne (by decide)).trans ((st_ne (by decide)).trans ((st_ne (by decide)).trans ((st_ne (by decide)).trans h6))))))) ((st_ne (by decide)).trans ((st_ne (by decide)).trans ((sA_ne (by decide)).trans ((st_ne (by decide)).trans ((st_ne (by decide)).trans ((st_ne (by decide)).trans ((st_ne (by decide)).trans h7))))))) ((st_ne (by decide)).trans ((st_ne (by decide)).trans ((sA_ne (by decide)).trans ((st_ne (by decide)).trans ((st_ne (by decide)).trans ((st_ne (by decide)).trans ((st_ne (by decide)).trans h8))))))) ((st_ne (by decide)).trans ((st_ne (by decide)).trans ((sA_ne (by decide)).trans ((st_ne (by decide)).trans ((st_ne (by decide)).trans ((st_ne (by decide)).trans ((st_ne (by decide)).trans h9))))))) ((st_ne (by decide)).trans ((st_ne (by decide)).trans ((sA_ne (by decide)).trans ((st_ne (by decide)).trans ((st_ne (by decide)).trans ((st_ne (by decide)).trans ((st_ne (by decide)).trans h10))))))) ((st_ne (by decide)).trans ((st_ne (by decide)).trans ((sA_ne (by decide)).trans ((st_ne (by decide)).trans ((st_ne (by decide)).trans ((st_ne (by decide)).trans ((st_ne (by decide)).trans h11))))))) ((st_ne (by decide)).trans ((st_ne (by decide)).trans ((sA_ne (by decide)).trans ((st_ne (by decide)).trans ((st_ne (by decide)).trans ((st_ne (by decide)).trans ((st_ne (by decide)).trans h12))))))) ((st_ne (by decide)).trans ((st_ne (by decide)).trans ((sA_ne (by decide)).trans ((st_ne (by decide)).trans ((st_ne (by decide)).trans ((st_ne (by decide)).trans ((st_ne (by decide)).trans h13))))))) ((st_ne (by decide)).trans ((st_ne (by decide)).trans ((sA_ne (by decide)).trans ((st_ne (by decide)).trans ((st_ne (by decide)).trans ((st_ne (by decide)).trans ((st_ne (by decide)).trans h14))))))) ((st_ne (by decide)).trans st_at) ((st_ne (by decide)).trans ((st_ne (by decide)).trans ((sA_ne (by decide)).trans ((st_ne (by decide)).trans ((st_ne (by decide)).trans ((st_ne (by decide)).trans ((st_ne (by decide)).trans h0))))))) (fun a ha => (st_hi (by omega)).trans ((st_hi (by omega)).trans ((sA_hi (by omega)).trans ((st_hi (by omega)).trans ((st_hi (by omega)).trans ((st_hi (by omega)).trans ((st_hi (by omega)).trans rfl)))))))
set_option maxRecDepth 4000 in
theorem c_X11_sources_417 {l : Launch} {D : va_G} {B : Nat} {cy : Nat → ClassId} {M : Mem} (h0 : M.1 22 2 = 0) (h1 : M.1 22 7 = 0) (h2 : M.1 135 0 = 0) (h3 : M.1 44 0 = 0) (h4 : M.1 136 3 = 0) (h5 : M.1 137 3 = 0) (h6 : M.1 138 0 = 0) (h7 : M.1 138 1 = 0) (h8 : M.1 138 2 = 0) (h9 : M.1 138 3 = 0) (h10 : M.1 44 1 = 0) (h11 : M.1 44 2 = 0) (h12 : M.1 44 3 = 0) (h13 : M.1 140 0 = 0) (h14 : M.1 140 1 = 0) (h15 : M.1 140 2 = 0) : Ci l D B cy yX11_sources cX11_sources 2 (some .int) 3 78 [.ref (B + 0), .int 3] M (fun r Mx => r = 27 ∧ ∀ a, 146 ≤ a → Mx.1 a = M.1 a) := by
  refine s_any (by decide) (Nat.le_of_ble_eq_true rfl) ?_
  intro p e s m below meth c ls F hr hlocks w hl
  have F : CallFix p m c cX11_sources 2 s _ TB RX11 := F
  have hx := F.1
  have hb := F.2.1
  have hl : lv_has ls 2 [(0, .ref (B + 0)), (1, .int 3)] := hl
  refine lv_iload_n hx hb dX11_sources_0 rfl (lv_at hl 1 rfl) ?_
  refine lv_if_lt (tgt := 10) hx hb dX11_sources_1 (by decide) (fun c1 => absurd c1 (by decide)) (fun _ => ?_)
  refine lv_iload_n hx hb dX11_sources_4 rfl (lv_at hl 1 rfl) ?_
  refine lv_bipush (v := 6) hx hb dX11_sources_5 (by decide) ?_
  refine lv_icmp_le (tgt := 12) hx hb dX11_sources_7 (by decide) (fun _ => ?_) (fun c1 => absurd c1 (by decide))
  refine lv_aload_n hx hb dX11_sources_12 rfl (lv_at hl 0 rfl) ?_
  refine f_11_7 F w (a := 0) rfl tb_113 dX11_sources_13 ?_
  refine lv_aload_n hx hb dX11_sources_16 rfl (lv_at hl 0 rfl) ?_
  refine f_11_3 F w (a := 0) rfl tb_73 dX11_sources_17 ?_
  refine lv_aload_n hx hb dX11_sources_20 rfl (lv_at hl 0 rfl) ?_
  refine f_11_3 F w (a := 0) rfl tb_73 dX11_sources_21 ?_
  refine lv_aload_n hx hb dX11_sources_24 rfl (lv_at hl 0 rfl) ?_
  refine f_11_3 F w (a := 0) rfl tb_73 dX11_sources_25 ?_
  refine f_0_2 F w (a := 22) rfl tb_216 dX11_sources_28 ?_
  refine r_val (v := 0) (h0) ?_
  refine x_Vr F w (As := [.int 0]) (rest := [.ref (B + 22), .ref (B + 135)]) (a := 22) (by decide) (sh_0 rfl _ _) rfl (c_X0_stageOf_207 (h0) (h1)) gv_X11_196 hv_X0_stageOf ⟨Nat.le_of_ble_eq_true rfl, Nat.le_of_ble_eq_true rfl⟩ hl.1 rfl (Nat.le_of_ble_eq_true rfl) ⟨Nat.zero_le _, Nat.zero_le _⟩ dX11_sources_31 (fun H locs w => ?_)
  refine lv_iload_n hx hb dX11_sources_34 rfl (lv_at hl 1 rfl) ?_
  refine k_Vv F w (As := [.ref (B + 22), .ref (B + 44), .int 3]) (rest := []) (a := 135) (by decide) (sh_6 rfl _ _) rfl (c_X6_bring_416 (h2) (h3) (h4) (h5) (h6) (h7) (h8) (h9) (h10) (h11) (h12) (h13) (h14) (h15) (h0)) gv_X11_285 hv_X6_bring ⟨Nat.le_of_ble_eq_true rfl, Nat.le_of_ble_eq_true rfl⟩ hl.1 rfl (Nat.le_of_ble_eq_true rfl) ⟨Nat.zero_le _, Nat.zero_le _⟩ dX11_sources_35 (fun M1 H locs hp w => ?_)
  obtain ⟨e0, e1, e9⟩ := hp
  refine lv_aload_n hx hb dX11_sources_38 rfl (lv_at hl 0 rfl) ?_
  refine f_11_7 F w (a := 0) rfl tb_113 dX11_sources_39 ?_
  refine f_6_1 F w (a := 135) rfl tb_566 dX11_sources_42 ?_
  refine lv_iload_n hx hb dX11_sources_45 rfl (lv_at hl 1 rfl) ?_
  refine g_iald F w (a := 136) rfl (j := 3) ⟨by decide, by decide⟩ (by decide) dX11_sources_46 ?_
  refine r_val (v := 27) (e0) ?_
  exact e_i F w hr hlocks ⟨rfl, fun a ha => ((e9 a ha).trans (rfl))⟩ dX11_sources_47
set_option maxRecDepth 4000 in
theorem c_X12_in_418 {l : Launch} {D : va_G} {B : Nat} {cy : Nat → ClassId} {M : Mem} : Ci l D B cy yX12_in cX12_in 3 (some .boolean) 0 0 [.int 3, .int 0, .int 6] M (fun r M1 => r = 1 ∧ M1 = M) := by
  refine s_any (by decide) (Nat.le_of_ble_eq_true rfl) ?_
  intro p e s m below meth c ls F hr hlocks w hl
  have F : CallFix p m c cX12_in 3 s _ TB RX12 := F
  have hx := F.1
  have hb := F.2.1
  have hl : lv_has ls 3 [(0, .int 3), (1, .int 0), (2, .int 6)] := hl
  refine lv_iload_n hx hb dX12_in_0 rfl (lv_at hl 0 rfl) ?_
  refine lv_iload_n hx hb dX12_in_1 rfl (lv_at hl 1 rfl) ?_
  refine lv_icmp_lt (tgt := 14) hx hb dX12_in_2 (by decide) (fun c1 => absurd c1 (by decide)) (fun _ => ?_)
  refine lv_iload_n hx hb dX12_in_5 rfl (lv_at hl 0 rfl) ?_
  refine lv_iload_n hx hb dX12_in_6 rfl (lv_at hl 2 rfl) ?_
  refine lv_icmp_gt (tgt := 14) hx hb dX12_in_7 (by decide) (fun c1 => absurd c1 (by decide)) (fun _ => ?_)
  refine lv_iconst (v := 1) hx hb dX12_in_10 (by decide) ?_
  refine lv_goto (tgt := 15) hx hb dX12_in_11 (by decide) ?_
  exact e_z F w hr hlocks (by decide) ⟨rfl, rfl⟩ dX12_in_15
set_option maxRecDepth 4000 in
theorem c_X12_insert_419 {l : Launch} {D : va_G} {B : Nat} {cy : Nat → ClassId} {M : Mem} (h0 : M.1 148 0 = 2) (h1 : M.1 148 3 = 0) (h2 : M.1 148 15 = 0) : Cv l D B cy yX12_insert cX12_insert 4 0 0 [.ref (B + 148), .int 2, .int 0] M (fun M1 => M1 = (st M 148 0 3)) := by
  refine s_any (by decide) (Nat.le_of_ble_eq_true rfl) ?_
  intro p e s m below meth c ls F hr hlocks w hl
  have F : CallFix p m c cX12_insert 4 s _ TB RX12 := F
  have hx := F.1
  have hb := F.2.1
  have hl : lv_has ls 4 [(0, .ref (B + 148)), (1, .int 2), (2, .int 0)] := hl
  refine lv_aload_n hx hb dX12_insert_0 rfl (lv_at hl 0 rfl) ?_
  refine lv_iconst (v := 0) hx hb dX12_insert_1 (by decide) ?_
  refine g_iald F w (a := 148) rfl (j := 0) ⟨by decide, by decide⟩ (by decide) dX12_insert_2 ?_
  refine r_val (v := 2) (h0) ?_
  refine lv_istore_n (lv' := [(3, .int 2), (0, .ref (B + 148)), (1, .int 2), (2, .int 0)]) hx hb dX12_insert_3 rfl hl (by decide) rfl (fun ls hl => ?_)
  refine lv_iload_n hx hb dX12_insert_4 rfl (lv_at hl 0 rfl) ?_
  refine lv_iload_n hx hb dX12_insert_5 rfl (lv_at hl 2 rfl) ?_
  refine lv_icmp_le (tgt := 41) hx hb dX12_insert_6 (by decide) (fun _ => ?_) (fun c1 => absurd c1 (by decide))
  refine lv_aload_n hx hb dX12_insert_41 rfl (lv_at hl 1 rfl) ?_
  refine lv_iconst (v := 1) hx hb dX12_insert_42 (by decide) ?_
  refine lv_iload_n hx hb dX12_insert_43 rfl (lv_at hl 2 rfl) ?_
  refine lv_iadd hx hb dX12_insert_44 ?_
  refine r_val (v := 3) (by decide) ?_
  refine lv_iload_n hx hb dX12_insert_45 rfl (lv_at hl 3 rfl) ?_
  refine g_iast F w (a := 148) rfl (j := 3) ⟨by decide, by decide⟩ (by decide) dX12_insert_46 (fun H locs w => ?_)
  rw [st_same (h1)] at w
  refine lv_aload_n hx hb dX12_insert_47 rfl (lv_at hl 1 rfl) ?_
  refine lv_bipush (v := 13) hx hb dX12_insert_48 (by decide) ?_
  refine lv_iload_n hx hb dX12_insert_50 rfl (lv_at hl 2 rfl) ?_
  refine lv_iadd hx hb dX12_insert_51 ?_
  refine r_val (v := 15) (by decide) ?_
  refine lv_iconst (v := 0) hx hb dX12_insert_52 (by decide) ?_
  refine g_iast F w (a := 148) rfl (j := 15) ⟨by decide, by decide⟩ (by decide) dX12_insert_53 (fun H locs w => ?_)
  rw [st_same (h2)] at w
  refine lv_aload_n hx hb dX12_insert_54 rfl (lv_at hl 1 rfl) ?_
  refine lv_iconst (v := 0) hx hb dX12_insert_55 (by decide) ?_
  refine lv_dup2_11 hx hb dX12_insert_56 rfl rfl ?_
  refine g_iald F w (a := 148) rfl (j := 0) ⟨by decide, by decide⟩ (by decide) dX12_insert_57 ?_
  refine r_val (v := 2) (h0) ?_
  refine lv_iconst (v := 1) hx hb dX12_insert_58 (by decide) ?_
  refine lv_iadd hx hb dX12_insert_59 ?_
  refine r_val (v := 3) (by decide) ?_
  refine g_iast F w (a := 148) rfl (j := 0) ⟨by decide, by decide⟩ (by decide) dX12_insert_60 (fun H locs w => ?_)
  exact e_v F w hr hlocks rfl dX12_insert_61
set_option maxRecDepth 4000 in
theorem c_X12_insert_420 {l : Launch} {D : va_G} {B : Nat} {cy : Nat → ClassId} {M : Mem} {p2 : Int32} (h0 : M.1 148 0 = 1) (h1 : M.1 148 14 = 0) : Cv l D B cy yX12_insert cX12_insert 4 0 0 [.ref (B + 148), .int 1, .int p2] M (fun M1 => M1 = (st (st M 148 2 p2) 148 0 2)) := by
  refine s_any (by decide) (Nat.le_of_ble_eq_true rfl) ?_
  intro p e s m below meth c ls F hr hlocks w hl
  have F : CallFix p m c cX12_insert 4 s _ TB RX12 := F
  have hx := F.1
  have hb := F.2.1
  have hl : lv_has ls 4 [(0, .ref (B + 148)), (1, .int 1), (2, .int p2)] := hl
  refine lv_aload_n hx hb dX12_insert_0 rfl (lv_at hl 0 rfl) ?_
  refine lv_iconst (v := 0) hx hb dX12_insert_1 (by decide) ?_
  refine g_iald F w (a := 148) rfl (j := 0) ⟨by decide, by decide⟩ (by decide) dX12_insert_2 ?_
  refine r_val (v := 1) (h0) ?_
  refine lv_istore_n (lv' := [(3, .int 1), (0, .ref (B + 148)), (1, .int 1), (2, .int p2)]) hx hb dX12_insert_3 rfl hl (by decide) rfl (fun ls hl => ?_)
  refine lv_iload_n hx hb dX12_insert_4 rfl (lv_at hl 0 rfl) ?_
  refine lv_iload_n hx hb dX12_insert_5 rfl (lv_at hl 2 rfl) ?_
  refine lv_icmp_le (tgt := 41) hx hb dX12_insert_6 (by decide) (fun _ => ?_) (fun c1 => absurd c1 (by decide))
  refine lv_aload_n hx hb dX12_insert_41 rfl (lv_at hl 1 rfl) ?_
  refine lv_iconst (v := 1) hx hb dX12_insert_42 (by decide) ?_
  refine lv_iload_n hx hb dX12_insert_43 rfl (lv_at hl 2 rfl) ?_
  refine lv_iadd hx hb dX12_insert_44 ?_
  refine r_val (v := 2) (by decide) ?_
  refine lv_iload_n hx hb dX12_insert_45 rfl (lv_at hl 3 rfl) ?_
  refine g_iast F w (a := 148) rfl (j := 2) ⟨by decide, by decide⟩ (by decide) dX12_insert_46 (fun H locs w => ?_)
  refine lv_aload_n hx hb dX12_insert_47 rfl (lv_at hl 1 rfl) ?_
  refine lv_bipush (v := 13) hx hb dX12_insert_48 (by decide) ?_
  refine lv_iload_n hx hb dX12_insert_50 rfl (lv_at hl 2 rfl) ?_
  refine lv_iadd hx hb dX12_insert_51 ?_
  refine r_val (v := 14) (by decide) ?_
  refine lv_iconst (v := 0) hx hb dX12_insert_52 (by decide) ?_
  refine g_iast F w (a := 148) rfl (j := 14) ⟨by decide, by decide⟩ (by decide) dX12_insert_53 (fun H locs w => ?_)
  rw [st_same ((st_ne (by decide)).trans h1)] at w
  refine lv_aload_n hx hb dX12_insert_54 rfl (lv_at hl 1 rfl) ?_
  refine lv_iconst (v := 0) hx hb dX12_insert_55 (by decide) ?_
  refine lv_dup2_11 hx hb dX12_insert_56 rfl rfl ?_
  refine g_iald F w (a := 148) rfl (j := 0) ⟨by decide, by decide⟩ (by decide) dX12_insert_57 ?_
  refine r_val (v := 1) ((st_ne (by decide)).trans h0) ?_
  refine lv_iconst (v := 1) hx hb dX12_insert_58 (by decide) ?_
  refine lv_iadd hx hb dX12_insert_59 ?_
  refine r_val (v := 2) (by decide) ?_
  refine g_iast F w (a := 148) rfl (j := 0) ⟨by decide, by decide⟩ (by decide) dX12_insert_60 (fun H locs w => ?_)
  exact e_v F w hr hlocks rfl dX12_insert_61
set_option maxRecDepth 4000 in
theorem c_X12_insert_421 {l : Launch} {D : va_G} {B : Nat} {cy : Nat → ClassId} {M : Mem} {p2 : Int32} (h0 : M.1 148 0 = 2) (h1 : M.1 148 15 = 0) : Cv l D B cy yX12_insert cX12_insert 4 0 0 [.ref (B + 148), .int 2, .int p2] M (fun M1 => M1 = (st (st M 148 3 p2) 148 0 3)) := by
  refine s_any (by decide) (Nat.le_of_ble_eq_true rfl) ?_
  intro p e s m below meth c ls F hr hlocks w hl
  have F : CallFix p m c cX12_insert 4 s _ TB RX12 := F
  have hx := F.1
  have hb := F.2.1
  have hl : lv_has ls 4 [(0, .ref (B + 148)), (1, .int 2), (2, .int p2)] := hl
  refine lv_aload_n hx hb dX12_insert_0 rfl (lv_at hl 0 rfl) ?_
  refine lv_iconst (v := 0) hx hb dX12_insert_1 (by decide) ?_
  refine g_iald F w (a := 148) rfl (j := 0) ⟨by decide, by decide⟩ (by decide) dX12_insert_2 ?_
  refine r_val (v := 2) (h0) ?_
  refine lv_istore_n (lv' := [(3, .int 2), (0, .ref (B + 148)), (1, .int 2), (2, .int p2)]) hx hb dX12_insert_3 rfl hl (by decide) rfl (fun ls hl => ?_)
  refine lv_iload_n hx hb dX12_insert_4 rfl (lv_at hl 0 rfl) ?_
  refine lv_iload_n hx hb dX12_insert_5 rfl (lv_at hl 2 rfl) ?_
  refine lv_icmp_le (tgt := 41) hx hb dX12_insert_6 (by decide) (fun _ => ?_) (fun c1 => absurd c1 (by decide))
  refine lv_aload_n hx hb dX12_insert_41 rfl (lv_at hl 1 rfl) ?_
  refine lv_iconst (v := 1) hx hb dX12_insert_42 (by decide) ?_
  refine lv_iload_n hx hb dX12_insert_43 rfl (lv_at hl 2 rfl) ?_
  refine lv_iadd hx hb dX12_insert_44 ?_
  refine r_val (v := 3) (by decide) ?_
  refine lv_iload_n hx hb dX12_insert_45 rfl (lv_at hl 3 rfl) ?_
  refine g_iast F w (a := 148) rfl (j := 3) ⟨by decide, by decide⟩ (by decide) dX12_insert_46 (fun H locs w => ?_)
  refine lv_aload_n hx hb dX12_insert_47 rfl (lv_at hl 1 rfl) ?_
  refine lv_bipush (v := 13) hx hb dX12_insert_48 (by decide) ?_
  refine lv_iload_n hx hb dX12_insert_50 rfl (lv_at hl 2 rfl) ?_
  refine lv_iadd hx hb dX12_insert_51 ?_
  refine r_val (v := 15) (by decide) ?_
  refine lv_iconst (v := 0) hx hb dX12_insert_52 (by decide) ?_
  refine g_iast F w (a := 148) rfl (j := 15) ⟨by decide, by decide⟩ (by decide) dX12_insert_53 (fun H locs w => ?_)
  rw [st_same ((st_ne (by decide)).trans h1)] at w
  refine lv_aload_n hx hb dX12_insert_54 rfl (lv_at hl 1 rfl) ?_
  refine lv_iconst (v := 0) hx hb dX12_insert_55 (by decide) ?_
  refine lv_dup2_11 hx hb dX12_insert_56 rfl rfl ?_
  refine g_iald F w (a := 148) rfl (j := 0) ⟨by decide, by decide⟩ (by decide) dX12_insert_57 ?_
  refine r_val (v := 2) ((st_ne (by decide)).trans h0) ?_
  refine lv_iconst (v := 1) hx hb dX12_insert_58 (by decide) ?_
  refine lv_iadd hx hb dX12_insert_59 ?_
  refine r_val (v := 3) (by decide) ?_
  refine g_iast F w (a := 148) rfl (j := 0) ⟨by decide, by decide⟩ (by decide) dX12_insert_60 (fun H locs w => ?_)
  exact e_v F w hr hlocks rfl dX12_insert_61
set_option maxRecDepth 8000 in
theorem bd_X12_sourcesBy_422 {p : Program} {l : Launch} {e : Env} {s : State} {m : MethodId} {args : Array Value} {below : List Frame} {meth : Method} {c : Code} {D : va_G} {B : Nat} {cy : Nat → ClassId} {H H0 : Heap} {locs : List Loc} {Q : State → Prop} {ls : Array Slot} {M : Mem} {k : Nat} (F : CallFix p m c cX12_sourcesBy 7 s args TB RX12) (w : Wd D B cy s H0 M H locs) (hl : lv_has ls 7 [(4, .int (nI k)), (3, .int (nI k)), (2, .int 27), (0, .ref (B + 146)), (1, .int 3)]) (h0 : ¬ 27 ≤ (nI k)) (h1 : M.1 147 0 = 0) (h2 : M.1 147 1 = 0) (h3 : M.1 147 2 = 0) (h4 : M.1 147 3 = 0) (h5 : M.1 147 4 = 0) (h6 : M.1 147 5 = 0) (h7 : M.1 147 6 = 0) (h8 : M.1 147 7 = 0) (h9 : M.1 147 8 = 0) (h10 : M.1 147 9 = 0) (h11 : M.1 147 10 = 0) (h12 : M.1 147 11 = 0) (h13 : M.1 147 12 = 0) (h14 : M.1 147 13 = 0) (h15 : M.1 147 14 = 0) (h16 : M.1 147 15 = 0) (h17 : M.1 147 16 = 0) (h18 : M.1 147 17 = 0) (h19 : M.1 147 18 = 0) (h20 : M.1 147 19 = 0) (h21 : M.1 147 20 = 0) (h22 : M.1 147 21 = 0) (h23 : M.1 147 22 = 0) (h24 : M.1 147 23 = 0) (h25 : M.1 147 24 = 0) (h26 : M.1 147 25 = 0) (h27 : M.1 147 26 = 0) (h28 : M.1 147 27 = 0) (h29 : M.1 146 5 = 0) (h30 : ¬ (nI k) = 0) (kk : ∀ (H1 : Heap) (locs1 : List Loc) (ls1 : Array Slot), Wd D B cy s H0 (st (st (st (st (st (st (st (st (st (st (st (st (st (st (st (st (st (st (st (st (st (st (st (st (st (st (st (st (st (st (st (st (st (st M 148 0 0) 148 1 0) 148 2 0) 148 3 0) 148 4 0) 148 5 0) 148 6 0) 148 7 0) 148 8 0) 148 9 0) 148 10 0) 148 11 0) 148 12 0) 148 13 0) 148 14 0) 148 15 0) 148 16 0) 148 17 0) 148 18 0) 148 19 0) 148 20 0) 148 21 0) 148 22 0) 148 23 0) 148 24 0) 148 25 0) 148 26 0) 148 27 0) 148 1 ((((nI k) / 9) - ((nI k) / 9) / 3 * 3))) 148 0 1) 148 2 ((((nI k) / 3) - ((nI k) / 3) / 3 * 3))) 148 0 2) 148 3 ((((nI k) / 1) - ((nI k) / 1) / 3 * 3))) 148 0 3) H1 locs1 → lv_has ls1 7 [(4, .int ((nI k) + 1)), (3, .int ((nI k) + 1)), (2, .int 27), (0, .ref (B + 146)), (1, .int 3)] → W p l e (rmm 3 66) s m args below meth c H1 locs1 0 0 Q (F0 m 34 ls1 [])) : W p l e (rmm 3 66) s m args below meth c H locs 0 0 Q (F0 m 34 ls []) := by
  have hx := F.1
  have hb := F.2.1
  refine lv_iload hx hb dX12_sourcesBy_34 (lv_at hl 0 rfl) ?_
  refine lv_iload_n hx hb dX12_sourcesBy_36 rfl (lv_at hl 2 rfl) ?_
  refine lv_icmp_ge (tgt := 152) hx hb dX12_sourcesBy_37 (by decide) (fun c1 => absurd c1 h0) (fun _ => ?_)
  refine lv_aload_n hx hb dX12_sourcesBy_40 rfl (lv_at hl 3 rfl) ?_
  refine f_12_2 F w (a := 146) rfl tb_127 dX12_sourcesBy_41 ?_
  refine lv_aload_n hx hb dX12_sourcesBy_44 rfl (lv_at hl 3 rfl) ?_
  refine f_12_1 F w (a := 146) rfl tb_126 dX12_sourcesBy_45 ?_
  refine x_Sv F w (As := [.ref (B + 148), .ref (B + 147)]) (rest := []) (c_X12_copy_390 (h1) (h2) (h3) (h4) (h5) (h6) (h7) (h8) (h9) (h10) (h11) (h12) (h13) (h14) (h15) (h16) (h17) (h18) (h19) (h20) (h21) (h22) (h23) (h24) (h25) (h26) (h27) (h28)) gs_X12_162 hs_X12_copy ⟨Nat.le_of_ble_eq_true rfl, Nat.le_of_ble_eq_true rfl⟩ hl.1 rfl (Nat.le_of_ble_eq_true rfl) ⟨Nat.zero_le _, Nat.zero_le _⟩ dX12_sourcesBy_48 (fun H locs w => ?_)
  refine lv_aload_n hx hb dX12_sourcesBy_51 rfl (lv_at hl 3 rfl) ?_
  refine f_12_2 F w (a := 146) rfl tb_127 dX12_sourcesBy_52 ?_
  refine lv_iconst (v := 0) hx hb dX12_sourcesBy_55 (by decide) ?_
  refine lv_iconst (v := 0) hx hb dX12_sourcesBy_56 (by decide) ?_
  refine g_iast F w (a := 148) rfl (j := 0) ⟨by decide, by decide⟩ (by decide) dX12_sourcesBy_57 (fun H locs w => ?_)
  rw [st_same ((st_ne (by decide)).trans ((st_ne (by decide)).trans ((st_ne (by decide)).trans ((st_ne (by decide)).trans ((st_ne (by decide)).trans ((st_ne (by decide)).trans ((st_ne (by decide)).trans ((st_ne (by decide)).trans ((st_ne (by decide)).trans ((st_ne (by decide)).trans ((st_ne (by decide)).trans ((st_ne (by decide)).trans ((st_ne (by decide)).trans ((st_ne (by decide)).trans ((st_ne (by decide)).trans ((st_ne (by decide)).trans ((st_ne (by decide)).trans ((st_ne (by decide)).trans ((st_ne (by decide)).trans ((st_ne (by decide)).trans ((st_ne (by decide)).trans ((st_ne (by decide)).trans ((st_ne (by decide)).trans ((st_ne (by decide)).trans ((st_ne (by decide)).trans ((st_ne (by decide)).trans ((st_ne (by decide)).trans st_at)))))))))))))))))))))))))))] at w
  refine lv_iload_n hx hb dX12_sourcesBy_58 rfl (lv_at hl 2 rfl) ?_
  refine lv_istore (lv' := [(5, .int 27), (4, .int (nI k)), (3, .int (nI k)), (2, .int 27), (0, .ref (B + 146)), (1, .int 3)]) hx hb dX12_sourcesBy_59 hl (by decide) rfl (fun ls hl => ?_)
  refine lv_iconst (v := 0) hx hb dX12_sourcesBy_61 (by decide) ?_
  refine lv_istore (lv' := [(6, .int 0), (5, .int 27), (4, .int (nI k)), (3, .int (nI k)), (2, .int 27), (0, .ref (B + 146)), (1, .int 3)]) hx hb dX12_sourcesBy_62 hl (by decide) rfl (fun ls hl => ?_)
  refine lv_iload hx hb dX12_sourcesBy_64 (lv_at hl 0 rfl) ?_
  refine lv_iload_n hx hb dX12_sourcesBy_66 rfl (lv_at hl 6 rfl) ?_
  refine lv_icmp_ge (tgt := 98) hx hb dX12_sourcesBy_67 (by decide) (fun c1 => absurd c1 (by decide)) (fun _ => ?_)
  refine lv_iload hx hb dX12_sourcesBy_70 (lv_at hl 1 rfl) ?_
  refine lv_iconst (v := 3) hx hb dX12_sourcesBy_72 (by decide) ?_
  refine lv_idiv hx hb dX12_sourcesBy_73 (by decide) ?_
  refine r_val (v := 9) (by decide) ?_
  refine lv_istore (lv' := [(5, .int 9), (6, .int 0), (4, .int (nI k)), (3, .int (nI k)), (2, .int 27), (0, .ref (B + 146)), (1, .int 3)]) hx hb dX12_sourcesBy_74 hl (by decide) rfl (fun ls hl => ?_)
  refine lv_aload_n hx hb dX12_sourcesBy_76 rfl (lv_at hl 5 rfl) ?_
  refine f_12_2 F w (a := 146) rfl tb_127 dX12_sourcesBy_77 ?_
  refine lv_iload hx hb dX12_sourcesBy_80 (lv_at hl 1 rfl) ?_
  refine lv_iload hx hb dX12_sourcesBy_82 (lv_at hl 2 rfl) ?_
  refine lv_iload hx hb dX12_sourcesBy_84 (lv_at hl 0 rfl) ?_
  refine lv_idiv hx hb dX12_sourcesBy_86 (by decide) ?_
  refine lv_iconst (v := 3) hx hb dX12_sourcesBy_87 (by decide) ?_
  refine lv_irem hx hb dX12_sourcesBy_88 (by decide) ?_
  refine x_Sv F w (As := [.ref (B + 148), .int 0, .int (((nI k) / 9) - ((nI k) / 9) / 3 * 3)]) (rest := []) (c_X12_insert_405 ((st_ne (by decide)).trans ((st_ne (by decide)).trans ((st_ne (by decide)).trans ((st_ne (by decide)).trans ((st_ne (by decide)).trans ((st_ne (by decide)).trans ((st_ne (by decide)).trans ((st_ne (by decide)).trans ((st_ne (by decide)).trans ((st_ne (by decide)).trans ((st_ne (by decide)).trans ((st_ne (by decide)).trans ((st_ne (by decide)).trans ((st_ne (by decide)).trans ((st_ne (by decide)).trans ((st_ne (by decide)).trans ((st_ne (by decide)).trans ((st_ne (by decide)).trans ((st_ne (by decide)).trans ((st_ne (by decide)).trans ((st_ne (by decide)).trans ((st_ne (by decide)).trans ((st_ne (by decide)).trans ((st_ne (by decide)).trans ((st_ne (by decide)).trans ((st_ne (by decide)).trans ((st_ne (by decide)).trans st_at))))))))))))))))))))))))))) ((st_ne (by decide)).trans ((st_ne (by decide)).trans ((st_ne (by decide)).trans ((st_ne (by decide)).trans ((st_ne (by decide)).trans ((st_ne (by decide)).trans ((st_ne (by decide)).trans ((st_ne (by decide)).trans ((st_ne (by decide)).trans ((st_ne (by decide)).trans ((st_ne (by decide)).trans ((st_ne (by decide)).trans ((st_ne (by decide)).trans ((st_ne (by decide)).trans st_at))))))))))))))) gs_X12_112 hs_X12_insert ⟨Nat.le_of_ble_eq_true rfl, Nat.le_of_ble_eq_true rfl⟩ hl.1 rfl (Nat.le_of_ble_eq_true rfl) ⟨Nat.zero_le _, Nat.zero_le _⟩ dX12_sourcesBy_89 (fun H locs w => ?_)
  refine lv_iinc (v := 1) (lv' := [(6, .int 1), (5, .int 9), (4, .int (nI k)), (3, .int (nI k)), (2, .int 27), (0, .ref (B + 146)), (1, .int 3)]) hx hb dX12_sourcesBy_92 hl (k := 1) rfl (by decide) (by decide) rfl (fun ls hl => ?_)
  refine lv_goto (tgt := 64) hx hb dX12_sourcesBy_95 (by decide) ?_
  refine lv_iload hx hb dX12_sourcesBy_64 (lv_at hl 0 rfl) ?_
  refine lv_iload_n hx hb dX12_sourcesBy_66 rfl (lv_at hl 6 rfl) ?_
  refine lv_icmp_ge (tgt := 98) hx hb dX12_sourcesBy_67 (by decide) (fun c1 => absurd c1 (by decide)) (fun _ => ?_)
  refine lv_iload hx hb dX12_sourcesBy_70 (lv_at hl 1 rfl) ?_
  refine lv_iconst (v := 3) hx hb dX12_sourcesBy_72 (by decide) ?_
  refine lv_idiv hx hb dX12_sourcesBy_73 (by decide) ?_
  refine r_val (v := 3) (by decide) ?_
  refine lv_istore (lv' := [(5, .int 3), (6, .int 1), (4, .int (nI k)), (3, .int (nI k)), (2, .int 27), (0, .ref (B + 146)), (1, .int 3)]) hx hb dX12_sourcesBy_74 hl (by decide) rfl (fun ls hl => ?_)
  refine lv_aload_n hx hb dX12_sourcesBy_76 rfl (lv_at hl 5 rfl) ?_
  refine f_12_2 F w (a := 146) rfl tb_127 dX12_sourcesBy_77 ?_
  refine lv_iload hx hb dX12_sourcesBy_80 (lv_at hl 1 rfl) ?_
  refine lv_iload hx hb dX12_sourcesBy_82 (lv_at hl 2 rfl) ?_
  refine lv_iload hx hb dX12_sourcesBy_84 (lv_at hl 0 rfl) ?_
  refine lv_idiv hx hb dX12_sourcesBy_86 (by decide) ?_
  refine lv_iconst (v := 3) hx hb dX12_sourcesBy_87 (by decide) ?_
  refine lv_irem hx hb dX12_sourcesBy_88 (by decide) ?_
  refine x_Sv F w (As := [.ref (B + 148), .int 1, .int (((nI k) / 3) - ((nI k) / 3) / 3 * 3)]) (rest := []) (c_X12_insert_420 (st_at) ((st_ne (by decide)).trans ((st_ne (by decide)).trans ((st_ne (by decide)).trans ((st_ne (by decide)).trans ((st_ne (by decide)).trans ((st_ne (by decide)).trans ((st_ne (by decide)).trans ((st_ne (by decide)).trans ((st_ne (by decide)).trans ((st_ne (by decide)).trans ((st_ne (by decide)).trans ((st_ne (by decide)).trans ((st_ne (by decide)).trans ((st_ne (by decide)).trans ((st_ne (by decide)).trans st_at)))))))))))))))) gs_X12_112 hs_X12_insert ⟨Nat.le_of_ble_eq_true rfl, Nat.le_of_ble_eq_true rfl⟩ hl.1 rfl (Nat.le_of_ble_eq_true rfl) ⟨Nat.zero_le _, Nat.zero_le _⟩ dX12_sourcesBy_89 (fun H locs w => ?_)
  refine lv_iinc (v := 2) (lv' := [(6, .int 2), (5, .int 3), (4, .int (nI k)), (3, .int (nI k)), (2, .int 27), (0, .ref (B + 146)), (1, .int 3)]) hx hb dX12_sourcesBy_92 hl (k := 1) rfl (by decide) (by decide) rfl (fun ls hl => ?_)
  refine lv_goto (tgt := 64) hx hb dX12_sourcesBy_95 (by decide) ?_
  refine lv_iload hx hb dX12_sourcesBy_64 (lv_at hl 0 rfl) ?_
  refine lv_iload_n hx hb dX12_sourcesBy_66 rfl (lv_at hl 6 rfl) ?_
  refine lv_icmp_ge (tgt := 98) hx hb dX12_sourcesBy_67 (by decide) (fun c1 => absurd c1 (by decide)) (fun _ => ?_)
  refine lv_iload hx hb dX12_sourcesBy_70 (lv_at hl 1 rfl) ?_
  refine lv_iconst (v := 3) hx hb dX12_sourcesBy_72 (by decide) ?_
  refine lv_idiv hx hb dX12_sourcesBy_73 (by decide) ?_
  refine r_val (v := 1) (by decide) ?_
  refine lv_istore (lv' := [(5, .int 1), (6, .int 2), (4, .int (nI k)), (3, .int (nI k)), (2, .int 27), (0, .ref (B + 146)), (1, .int 3)]) hx hb dX12_sourcesBy_74 hl (by decide) rfl (fun ls hl => ?_)
  refine lv_aload_n hx hb dX12_sourcesBy_76 rfl (lv_at hl 5 rfl) ?_
  refine f_12_2 F w (a := 146) rfl tb_127 dX12_sourcesBy_77 ?_
  refine lv_iload hx hb dX12_sourcesBy_80 (lv_at hl 1 rfl) ?_
  refine lv_iload hx hb dX12_sourcesBy_82 (lv_at hl 2 rfl) ?_
  refine lv_iload hx hb dX12_sourcesBy_84 (lv_at hl 0 rfl) ?_
  refine lv_idiv hx hb dX12_sourcesBy_86 (by decide) ?_
  refine lv_iconst (v := 3) hx hb dX12_sourcesBy_87 (by decide) ?_
  refine lv_irem hx hb dX12_sourcesBy_88 (by decide) ?_
  refine x_Sv F w (As := [.ref (B + 148), .int 2, .int (((nI k) / 1) - ((nI k) / 1) / 3 * 3)]) (rest := []) (c_X12_insert_421 (st_at) ((st_ne (by decide)).trans ((st_ne (by decide)).trans ((st_ne (by decide)).trans ((st_ne (by decide)).trans ((st_ne (by decide)).trans ((st_ne (by decide)).trans ((st_ne (by decide)).trans ((st_ne (by decide)).trans ((st_ne (by decide)).trans ((st_ne (by decide)).trans ((st_ne (by decide)).trans ((st_ne (by decide)).trans ((st_ne (by decide)).trans ((st_ne (by decide)).trans ((st_ne (by decide)).trans ((st_ne (by decide)).trans st_at))))))))))))))))) gs_X12_112 hs_X12_insert ⟨Nat.le_of_ble_eq_true rfl, Nat.le_of_ble_eq_true rfl⟩ hl.1 rfl (Nat.le_of_ble_eq_true rfl) ⟨Nat.zero_le _, Nat.zero_le _⟩ dX12_sourcesBy_89 (fun H locs w => ?_)
  refine lv_iinc (v := 3) (lv' := [(6, .int 3), (5, .int 1), (4, .int (nI k)), (3, .int (nI k)), (2, .int 27), (0, .ref (B + 146)), (1, .int 3)]) hx hb dX12_sourcesBy_92 hl (k := 1) rfl (by decide) (by decide) rfl (fun ls hl => ?_)
  refine lv_goto (tgt := 64) hx hb dX12_sourcesBy_95 (by decide) ?_
  refine lv_iload hx hb dX12_sourcesBy_64 (lv_at hl 0 rfl) ?_
  refine lv_iload_n hx hb dX12_sourcesBy_66 rfl (lv_at hl 6 rfl) ?_
  refine lv_icmp_ge (tgt := 98) hx hb dX12_sourcesBy_67 (by decide) (fun _ => ?_) (fun c1 => absurd c1 (by decide))
  refine lv_iconst (v := 0) hx hb dX12_sourcesBy_98 (by decide) ?_
  refine lv_istore (lv' := [(6, .int 0), (5, .int 1), (4, .int (nI k)), (3, .int (nI k)), (2, .int 27), (0, .ref (B + 146)), (1, .int 3)]) hx hb dX12_sourcesBy_99 hl (by decide) rfl (fun ls hl => ?_)
  refine lv_iload hx hb dX12_sourcesBy_101 (lv_at hl 0 rfl) ?_
  refine lv_aload_n hx hb dX12_sourcesBy_103 rfl (lv_at hl 5 rfl) ?_
  refine f_12_5 F w (a := 146) rfl tb_227 dX12_sourcesBy_104 ?_
  refine r_val (v := 0) ((st_ne (by decide)).trans ((st_ne (by decide)).trans ((st_ne (by decide)).trans ((st_ne (by decide)).trans ((st_ne (by decide)).trans ((st_ne (by decide)).trans ((st_ne (by decide)).trans ((st_ne (by decide)).trans ((st_ne (by decide)).trans ((st_ne (by decide)).trans ((st_ne (by decide)).trans ((st_ne (by decide)).trans ((st_ne (by decide)).trans ((st_ne (by decide)).trans ((st_ne (by decide)).trans ((st_ne (by decide)).trans ((st_ne (by decide)).trans ((st_ne (by decide)).trans ((st_ne (by decide)).trans ((st_ne (by decide)).trans ((st_ne (by decide)).trans ((st_ne (by decide)).trans ((st_ne (by decide)).trans ((st_ne (by decide)).trans ((st_ne (by decide)).trans ((st_ne (by decide)).trans ((st_ne (by decide)).trans ((st_ne (by decide)).trans ((st_ne (by decide)).trans ((st_ne (by decide)).trans ((st_ne (by decide)).trans ((st_ne (by decide)).trans ((st_ne (by decide)).trans ((st_ne (by decide)).trans h29)))))))))))))))))))))))))))))))))) ?_
  refine lv_icmp_ge (tgt := 123) hx hb dX12_sourcesBy_107 (by decide) (fun _ => ?_) (fun c1 => absurd c1 (by decide))
  refine lv_aload_n hx hb dX12_sourcesBy_123 rfl (lv_at hl 5 rfl) ?_
  refine x_Vi F w (As := []) (rest := []) (a := 146) (by decide) (sh_12 rfl _ _) rfl (c_X12_isDue_357 ((st_ne (by decide)).trans ((st_ne (by decide)).trans ((st_ne (by decide)).trans ((st_ne (by decide)).trans ((st_ne (by decide)).trans ((st_ne (by decide)).trans ((st_ne (by decide)).trans ((st_ne (by decide)).trans st_at))))))))) gv_X12_306 hv_X12_isDue ⟨Nat.le_of_ble_eq_true rfl, Nat.le_of_ble_eq_true rfl⟩ hl.1 rfl (Nat.le_of_ble_eq_true rfl) ⟨Nat.zero_le _, Nat.zero_le _⟩ dX12_sourcesBy_124 (fun H locs w => ?_)
  refine lv_if_ne (tgt := 133) hx hb dX12_sourcesBy_127 (by decide) (fun _ => ?_) (fun c1 => absurd c1 (by decide))
  refine lv_iload_n hx hb dX12_sourcesBy_133 rfl (lv_at hl 3 rfl) ?_
  refine lv_if_ne (tgt := 143) hx hb dX12_sourcesBy_134 (by decide) (fun _ => ?_) (fun c1 => absurd c1 h30)
  refine lv_iinc (v := ((nI k) + 1)) (lv' := [(3, .int ((nI k) + 1)), (6, .int 0), (5, .int 1), (4, .int (nI k)), (2, .int 27), (0, .ref (B + 146)), (1, .int 3)]) hx hb dX12_sourcesBy_143 hl (k := 3) rfl rfl (by decide) rfl (fun ls hl => ?_)
  refine lv_iinc (v := ((nI k) + 1)) (lv' := [(4, .int ((nI k) + 1)), (3, .int ((nI k) + 1)), (6, .int 0), (5, .int 1), (2, .int 27), (0, .ref (B + 146)), (1, .int 3)]) hx hb dX12_sourcesBy_146 hl (k := 3) rfl rfl (by decide) rfl (fun ls hl => ?_)
  refine lv_goto (tgt := 34) hx hb dX12_sourcesBy_149 (by decide) ?_
  exact kk _ _ _ w (lv_sub hl [0, 1, 4, 5, 6] rfl)
set_option maxRecDepth 8000 in
theorem ex_X12_sourcesBy_422 {p : Program} {l : Launch} {e : Env} {s : State} {m : MethodId} {args : Array Value} {below : List Frame} {meth : Method} {c : Code} {D : va_G} {B : Nat} {cy : Nat → ClassId} {H : Heap} {locs : List Loc} {ls : Array Slot} {M : Mem} {post : Int32 → Mem → Prop} (F : CallFix p m c cX12_sourcesBy 7 s args TB RX12) (hr : meth.sig.returnType = (some .int)) (hlocks : meth.locks = false) (w : Wd D B cy s s.heap M H locs) (hl : lv_has ls 7 [(4, .int 27), (3, .int 27), (2, .int 27), (0, .ref (B + 146)), (1, .int 3)]) (hp : post 27 M) : W p l e (rmm 3 66) s m args below meth c H locs 0 0 (MQ below (va_Qi post (fun M1 t => Wp D B cy M1 t) (fun q => B ≤ q)) args s 0 0 (fun q => B ≤ q)) (F0 m 34 ls []) := by
  have hx := F.1
  have hb := F.2.1
  refine lv_iload hx hb dX12_sourcesBy_34 (lv_at hl 0 rfl) ?_
  refine lv_iload_n hx hb dX12_sourcesBy_36 rfl (lv_at hl 2 rfl) ?_
  refine lv_icmp_ge (tgt := 152) hx hb dX12_sourcesBy_37 (by decide) (fun _ => ?_) (fun c1 => absurd c1 (by decide))
  refine lv_iload_n hx hb dX12_sourcesBy_152 rfl (lv_at hl 1 rfl) ?_
  exact e_i F w hr hlocks hp dX12_sourcesBy_153
set_option maxRecDepth 8000 in
theorem lp_X12_sourcesBy_422 {p : Program} {l : Launch} {e : Env} {s : State} {m : MethodId} {args : Array Value} {below : List Frame} {meth : Method} {c : Code} {D : va_G} {B : Nat} {cy : Nat → ClassId} (F : CallFix p m c cX12_sourcesBy 7 s args TB RX12) (hr : meth.sig.returnType = (some .int)) (hlocks : meth.locks = false) : ∀ (n k : Nat), n + k = 27 → 1 ≤ k → ∀ (M : Mem) (H : Heap) (locs : List Loc) (ls : Array Slot), Wd D B cy s s.heap M H locs → lv_has ls 7 [(4, .int (nI k)), (3, .int (nI k)), (2, .int 27), (0, .ref (B + 146)), (1, .int 3)] → (M.1 147 0 = 0) → (M.1 147 1 = 0) → (M.1 147 2 = 0) → (M.1 147 3 = 0) → (M.1 147 4 = 0) → (M.1 147 5 = 0) → (M.1 147 6 = 0) → (M.1 147 7 = 0) → (M.1 147 8 = 0) → (M.1 147 9 = 0) → (M.1 147 10 = 0) → (M.1 147 11 = 0) → (M.1 147 12 = 0) → (M.1 147 13 = 0) → (M.1 147 14 = 0) → (M.1 147 15 = 0) → (M.1 147 16 = 0) → (M.1 147 17 = 0) → (M.1 147 18 = 0) → (M.1 147 19 = 0) → (M.1 147 20 = 0) → (M.1 147 21 = 0) → (M.1 147 22 = 0) → (M.1 147 23 = 0) → (M.1 147 24 = 0) → (M.1 147 25 = 0) → (M.1 147 26 = 0) → (M.1 147 27 = 0) → (M.1 146 5 = 0) → (M.1 146 26 = 0) → W p l e (rmm 3 66) s m args below meth c H locs 0 0 (MQ below (va_Qi (fun r M1 => r = 27 ∧ M1.1 146 26 = 0) (fun M1 t => Wp D B cy M1 t) (fun q => B ≤ q)) args s 0 0 (fun q => B ≤ q)) (F0 m 34 ls []) := by
  intro n
  induction n with
  | zero =>
    intro k hk h1 M H locs ls w hl h0 h1 h2 h3 h4 h5 h6 h7 h8 h9 h10 h11 h12 h13 h14 h15 h16 h17 h18 h19 h20 h21 h22 h23 h24 h25 h26 h27 h28 h29
    have hk : k = 27 := by omega
    subst hk
    exact ex_X12_sourcesBy_422 (post := fun r M1 => r = 27 ∧ M1.1 146 26 = 0) F hr hlocks w hl  ⟨rfl, h29⟩
  | succ n ih =>
    intro k hk h1 M H locs ls w hl h0 h1 h2 h3 h4 h5 h6 h7 h8 h9 h10 h11 h12 h13 h14 h15 h16 h17 h18 h19 h20 h21 h22 h23 h24 h25 h26 h27 h28 h29
    exact bd_X12_sourcesBy_422 F w hl (show ¬ nI 27 ≤ nI k from nI_ge (by omega) (by decide)) h0 h1 h2 h3 h4 h5 h6 h7 h8 h9 h10 h11 h12 h13 h14 h15 h16 h17 h18 h19 h20 h21 h22 h23 h24 h25 h26 h27 h28 (nI_ne0 (by omega) (by omega)) (fun H1 locs1 ls1 w1 hl1 => ih (k + 1) (by omega) (by omega) _ H1 locs1 ls1 w1 (by rw [nI_1] at hl1; exact hl1) ((st_ne (by decide)).trans ((st_ne (by decide)).trans ((st_ne (by decide)).trans ((st_ne (by decide)).trans ((st_ne (by decide)).trans ((st_ne (by decide)).trans ((st_ne (by decide)).trans ((st_ne (by decide)).trans ((st_ne (by decide)).trans ((st_ne (by decide)).trans ((st_ne (by decide)).trans ((st_ne (by decide)).trans ((st_ne (by decide)).trans ((st_ne (by decide)).trans ((st_ne (by decide)).trans ((st_ne (by decide)).trans ((st_ne (by decide)).trans ((st_ne (by decide)).trans ((st_ne (by decide)).trans ((st_ne (by decide)).trans ((st_ne (by decide)).trans ((st_ne (by decide)).trans ((st_ne (by decide)).trans ((st_ne (by decide)).trans ((st_ne (by decide)).trans ((st_ne (by decide)).trans ((st_ne (by decide)).trans ((st_ne (by decide)).trans ((st_ne (by decide)).trans ((st_ne (by decide)).trans ((st_ne (by decide)).trans ((st_ne (by decide)).trans ((st_ne (by decide)).trans ((st_ne (by decide)).trans h0)))))))))))))))))))))))))))))))))) ((st_ne (by decide)).trans ((st_ne (by decide)).trans ((st_ne (by decide)).trans ((st_ne (by decide)).trans ((st_ne (by decide)).trans ((st_ne (by decide)).trans ((st_ne (by decide)).trans ((st_ne (by decide)).trans ((st_ne (by decide)).trans ((st_ne (by decide)).trans ((st_ne (by decide)).trans ((st_ne (by decide)).trans ((st_ne (by decide)).trans ((st_ne (by decide)).trans ((st_ne (by decide)).trans ((st_ne (by decide)).trans ((st_ne (by decide)).trans ((st_ne (by decide)).trans ((st_ne (by decide)).trans ((st_ne (by decide)).trans ((st_ne (by decide)).trans ((st_ne (by decide)).trans ((st_ne (by decide)).trans ((st_ne (by decide)).trans ((st_ne (by decide)).trans ((st_ne (by decide)).trans ((st_ne (by decide)).trans ((st_ne (by decide)).trans ((st_ne (by decide)).trans ((st_ne (by decide)).trans ((st_ne (by decide)).trans ((st_ne (by decide)).trans ((st_ne (by decide)).trans ((st_ne (by decide)).trans h1)))))))))))))))))))))))))))))))))) ((st_ne (by decide)).trans ((st_ne (by decide)).trans ((st_ne (by decide)).trans ((st_ne (by decide)).trans ((st_ne (by decide)).trans ((st_ne (by decide)).trans ((st_ne (by decide)).trans ((st_ne (by decide)).trans ((st_ne (by decide)).trans ((st_ne (by decide)).trans ((st_ne (by decide)).trans ((st_ne (by decide)).trans ((st_ne (by decide)).trans ((st_ne (by decide)).trans ((st_ne (by decide)).trans ((st_ne (by decide)).trans ((st_ne (by decide)).trans ((st_ne (by decide)).trans ((st_ne (by decide)).trans ((st_ne (by decide)).trans ((st_ne (by decide)).trans ((st_ne (by decide)).trans ((st_ne (by decide)).trans ((st_ne (by decide)).trans ((st_ne (by decide)).trans ((st_ne (by decide)).trans ((st_ne (by decide)).trans ((st_ne (by decide)).trans ((st_ne (by decide)).trans ((st_ne (by decide)).trans ((st_ne (by decide)).trans ((st_ne (by decide)).trans ((st_ne (by decide)).trans ((st_ne (by decide)).trans h2)))))))))))))))))))))))))))))))))) ((st_ne (by decide)).trans ((st_ne (by decide)).trans ((st_ne (by decide)).trans ((st_ne (by decide)).trans ((st_ne (by decide)).trans ((st_ne (by decide)).trans ((st_ne (by decide)).trans ((st_ne (by decide)).trans ((st_ne (by decide)).trans ((st_ne (by decide)).trans ((st_ne (by decide)).trans ((st_ne (by decide)).trans ((st_ne (by decide)).trans ((st_ne (by decide)).trans ((st_ne (by decide)).trans ((st_ne (by decide)).trans ((st_ne (by decide)).trans ((st_ne (by decide)).trans ((st_ne (by decide)).trans ((st_ne (by decide)).trans ((st_ne (by decide)).trans ((st_ne (by decide)).trans ((st_ne (by decide)).trans ((st_ne (by decide)).trans ((st_ne (by decide)).trans ((st_ne (by decide)).trans ((st_ne (by decide)).trans ((st_ne (by decide)).trans ((st_ne (by decide)).trans ((st_ne (by decide)).trans ((st_ne (by decide)).trans ((st_ne (by decide)).trans ((st_ne (by decide)).trans ((st_ne (by decide)).trans h3)))))))))))))))))))))))))))))))))) ((st_ne (by decide)).trans ((st_ne (by decide)).trans ((st_ne (by decide)).trans ((st_ne (by decide)).trans ((st_ne (by decide)).trans ((st_ne (by decide)).trans ((st_ne (by decide)).trans ((st_ne (by decide)).trans ((st_ne (by decide)).trans ((st_ne (by decide)).trans ((st_ne (by decide)).trans ((st_ne (by decide)).trans ((st_ne (by decide)).trans ((st_ne (by decide)).trans ((st_ne (by decide)).trans ((st_ne (by decide)).trans ((st_ne (by decide)).trans ((st_ne (by decide)).trans ((st_ne (by decide)).trans ((st_ne (by decide)).trans ((st_ne (by decide)).trans ((st_ne (by decide)).trans ((st_ne (by decide)).trans ((st_ne (by decide)).trans ((st_ne (by decide)).trans ((st_ne (by decide)).trans ((st_ne (by decide)).trans ((st_ne (by decide)).trans ((st_ne (by decide)).trans ((st_ne (by decide)).trans ((st_ne (by decide)).trans ((st_ne (by decide)).trans ((st_ne (by decide)).trans ((st_ne (by decide)).trans h4)))))))))))))))))))))))))))))))))) ((st_ne (by decide)).trans ((st_ne (by decide)).trans ((st_ne (by decide)).trans ((st_ne (by decide)).trans ((st_ne (by decide)).trans ((st_ne (by decide)).trans ((st_ne (by decide)).trans ((st_ne (by decide)).trans ((st_ne (by decide)).trans ((st_ne (by decide)).trans ((st_ne (by decide)).trans ((st_ne (by decide)).trans ((st_ne (by decide)).trans ((st_ne (by decide)).trans ((st_ne (by decide)).trans ((st_ne (by decide)).trans ((st_ne (by decide)).trans ((st_ne (by decide)).trans ((st_ne (by decide)).trans ((st_ne (by decide)).trans ((st_ne (by decide)).trans ((st_ne (by decide)).trans ((st_ne (by decide)).trans ((st_ne (by decide)).trans ((st_ne (by decide)).trans ((st_ne (by decide)).trans ((st_ne (by decide)).trans ((st_ne (by decide)).trans ((st_ne (by decide)).trans ((st_ne (by decide)).trans ((st_ne (by decide)).trans ((st_ne (by decide)).trans ((st_ne (by decide)).trans ((st_ne (by decide)).trans h5)))))))))))))))))))))))))))))))))) ((st_ne (by decide)).trans ((st_ne (by decide)).trans ((st_ne (by decide)).trans ((st_ne (by decide)).trans ((st_ne (by decide)).trans ((st_ne (by decide)).trans ((st_ne (by decide)).trans ((st_ne (by decide)).trans ((st_ne (by decide)).trans ((st_ne (by decide)).trans ((st_ne (by decide)).trans ((st_ne (by decide)).trans ((st_ne (by decide)).trans ((st_ne (by decide)).trans ((st_ne (by decide)).trans ((st_ne (by decide)).trans ((st_ne (by decide)).trans ((st_ne (by decide)).trans ((st_ne (by decide)).trans ((st_ne (by decide)).trans ((st_ne (by decide)).trans ((st_ne (by decide)).trans ((st_ne (by decide)).trans ((st_ne (by decide)).trans ((st_ne (by decide)).trans ((st_ne (by decide)).trans ((st_ne (by decide)).trans ((st_ne (by decide)).trans ((st_ne (by decide)).trans ((st_ne (by decide)).trans ((st_ne (by decide)).trans ((st_ne (by decide)).trans ((st_ne (by decide)).trans ((st_ne (by decide)).trans h6)))))))))))))))))))))))))))))))))) ((st_ne (by decide)).trans ((st_ne (by decide)).trans ((st_ne (by decide)).trans ((st_ne (by decide)).trans ((st_ne (by decide)).trans ((st_ne (by decide)).trans ((st_ne (by decide)).trans ((st_ne (by decide)).trans ((st_ne (by decide)).trans ((st_ne (by decide)).trans ((st_ne (by decide)).trans ((st_ne (by decide)).trans ((st_ne (by decide)).trans ((st_ne (by decide)).trans ((st_ne (by decide)).trans ((st_ne (by decide)).trans ((st_ne (by decide)).trans ((st_ne (by decide)).trans ((st_ne (by decide)).trans ((st_ne (by decide)).trans ((st_ne (by decide)).trans ((st_ne (by decide)).trans ((st_ne (by decide)).trans ((st_ne (by decide)).trans ((st_ne (by decide)).trans ((st_ne (by decide)).trans ((st_ne (by decide)).trans ((st_ne (by decide)).trans ((st_ne (by decide)).trans ((st_ne (by decide)).trans ((st_ne (by decide)).trans ((st_ne (by decide)).trans ((st_ne (by decide)).trans ((st_ne (by decide)).trans h7)))))))))))))))))))))))))))))))))) ((st_ne (by decide)).trans ((st_ne (by decide)).trans ((st_ne (by decide)).trans ((st_ne (by decide)).trans ((st_ne (by decide)).trans ((st_ne (by decide)).trans ((st_ne (by decide)).trans ((st_ne (by decide)).trans ((st_ne (by decide)).trans ((st_ne (by decide)).trans ((st_ne (by decide)).trans ((st_ne (by decide)).trans ((st_ne (by decide)).trans ((st_ne (by decide)).trans ((st_ne (by decide)).trans ((st_ne (by decide)).trans ((st_ne (by decide)).trans ((st_ne (by decide)).trans ((st_ne (by decide)).trans ((st_ne (by decide)).trans ((st_ne (by decide)).trans ((st_ne (by decide)).trans ((st_ne (by decide)).trans ((st_ne (by decide)).trans ((st_ne (by decide)).trans ((st_ne (by decide)).trans ((st_ne (by decide)).trans ((st_ne (by decide)).trans ((st_ne (by decide)).trans ((st_ne (by decide)).trans ((st_ne (by decide)).trans ((st_ne (by decide)).trans ((st_ne (by decide)).trans ((st_ne (by decide)).trans h8)))))))))))))))))))))))))))))))))) ((st_ne (by decide)).trans ((st_ne (by decide)).trans ((st_ne (by decide)).trans ((st_ne (by decide)).trans ((st_ne (by decide)).trans ((st_ne (by decide)).trans ((st_ne (by decide)).trans ((st_ne (by decide)).trans ((st_ne (by decide)).trans ((st_ne (by decide)).trans ((st_ne (by decide)).trans ((st_ne (by decide)).trans ((st_ne (by decide)).trans ((st_ne (by decide)).trans ((st_ne (by decide)).trans ((st_ne (by decide)).trans ((st_ne (by decide)).trans ((st_ne (by decide)).trans ((st_ne (by decide)).trans ((st_ne (by decide)).trans ((st_ne (by decide)).trans ((st_ne (by decide)).trans ((st_ne (by decide)).trans ((st_ne (by decide)).trans ((st_ne (by decide)).trans ((st_ne (by decide)).trans ((st_ne (by decide)).trans ((st_ne (by decide)).trans ((st_ne (by decide)).trans ((st_ne (by decide)).trans ((st_ne (by decide)).trans ((st_ne (by decide)).trans ((st_ne (by decide)).trans ((st_ne (by decide)).trans h9)))))))))))))))))))))))))))))))))) ((st_ne (by decide)).trans ((st_ne (by decide)).trans ((st_ne (by decide)).trans ((st_ne (by decide)).trans ((st_ne (by decide)).trans ((st_ne (by decide)).trans ((st_ne (by decide)).trans ((st_ne (by decide)).trans ((st_ne (by decide)).trans ((st_ne (by decide)).trans ((st_ne (by decide)).trans ((st_ne (by decide)).trans ((st_ne (by decide)).trans ((st_ne (by decide)).trans ((st_ne (by decide)).trans ((st_ne (by decide)).trans ((st_ne (by decide)).trans ((st_ne (by decide)).trans ((st_ne (by decide)).trans ((st_ne (by decide)).trans ((st_ne (by decide)).trans ((st_ne (by decide)).trans ((st_ne (by decide)).trans ((st_ne (by decide)).trans ((st_ne (by decide)).trans ((st_ne (by decide)).trans ((st_ne (by decide)).trans ((st_ne (by decide)).trans ((st_ne (by decide)).trans ((st_ne (by decide)).trans ((st_ne (by decide)).trans ((st_ne (by decide)).trans ((st_ne (by decide)).trans ((st_ne (by decide)).trans h10)))))))))))))))))))))))))))))))))) ((st_ne (by decide)).trans ((st_ne (by decide)).trans ((st_ne (by decide)).trans ((st_ne (by decide)).trans ((st_ne (by decide)).trans ((st_ne (by decide)).trans ((st_ne (by decide)).trans ((st_ne (by decide)).trans ((st_ne (by decide)).trans ((st_ne (by decide)).trans ((st_ne (by decide)).trans ((st_ne (by decide)).trans ((st_ne (by decide)).trans ((st_ne (by decide)).trans ((st_ne (by decide)).trans ((st_ne (by decide)).trans ((st_ne (by decide)).trans ((st_ne (by decide)).trans ((st_ne (by decide)).trans ((st_ne (by decide)).trans ((st_ne (by decide)).trans ((st_ne (by decide)).trans ((st_ne (by decide)).trans ((st_ne (by decide)).trans ((st_ne (by decide)).trans ((st_ne (by decide)).trans ((st_ne (by decide)).trans ((st_ne (by decide)).trans ((st_ne (by decide)).trans ((st_ne (by decide)).trans ((st_ne (by decide)).trans ((st_ne (by decide)).trans ((st_ne (by decide)).trans ((st_ne (by decide)).trans h11)))))))))))))))))))))))))))))))))) ((st_ne (by decide)).trans ((st_ne (by decide)).trans ((st_ne (by decide)).trans ((st_ne (by decide)).trans ((st_ne (by decide)).trans ((st_ne (by decide)).trans ((st_ne (by decide)).trans ((st_ne (by decide)).trans ((st_ne (by decide)).trans ((st_ne (by decide)).trans ((st_ne (by decide)).trans ((st_ne (by decide)).trans ((st_ne (by decide)).trans ((st_ne (by decide)).trans ((st_ne (by decide)).trans ((st_ne (by decide)).trans ((st_ne (by decide)).trans ((st_ne (by decide)).trans ((st_ne (by decide)).trans ((st_ne (by decide)).trans ((st_ne (by decide)).trans ((st_ne (by decide)).trans ((st_ne (by decide)).trans ((st_ne (by decide)).trans ((st_ne (by decide)).trans ((st_ne (by decide)).trans ((st_ne (by decide)).trans ((st_ne (by decide)).trans ((st_ne (by decide)).trans ((st_ne (by decide)).trans ((st_ne (by decide)).trans ((st_ne (by decide)).trans ((st_ne (by decide)).trans ((st_ne (by decide)).trans h12)))))))))))))))))))))))))))))))))) ((st_ne (by decide)).trans ((st_ne (by decide)).trans ((st_ne (by decide)).trans ((st_ne (by decide)).trans ((st_ne (by decide)).trans ((st_ne (by decide)).trans ((st_ne (by decide)).trans ((st_ne (by decide)).trans ((st_ne (by decide)).trans ((st_ne (by decide)).trans ((st_ne (by decide)).trans ((st_ne (by decide)).trans ((st_ne (by decide)).trans ((st_ne (by decide)).trans ((st_ne (by decide)).trans ((st_ne (by decide)).trans ((st_ne (by decide)).trans ((st_ne (by decide)).trans ((st_ne (by decide)).trans ((st_ne (by decide)).trans ((st_ne (by decide)).trans ((st_ne (by decide)).trans ((st_ne (by decide)).trans ((st_ne (by decide)).trans ((st_ne (by decide)).trans ((st_ne (by decide)).trans ((st_ne (by decide)).trans ((st_ne (by decide)).trans ((st_ne (by decide)).trans ((st_ne (by decide)).trans ((st_ne (by decide)).trans ((st_ne (by decide)).trans ((st_ne (by decide)).trans ((st_ne (by decide)).trans h13)))))))))))))))))))))))))))))))))) ((st_ne (by decide)).trans ((st_ne (by decide)).trans ((st_ne (by decide)).trans ((st_ne (by decide)).trans ((st_ne (by decide)).trans ((st_ne (by decide)).trans ((st_ne (by decide)).trans ((st_ne (by decide)).trans ((st_ne (by decide)).trans ((st_ne (by decide)).trans ((st_ne (by decide)).trans ((st_ne (by decide)).trans ((st_ne (by decide)).trans ((st_ne (by decide)).trans ((st_ne (by decide)).trans ((st_ne (by decide)).trans ((st_ne (by decide)).trans ((st_ne (by decide)).trans ((st_ne (by decide)).trans ((st_ne (by decide)).trans ((st_ne (by decide)).trans ((st_ne (by decide)).trans ((st_ne (by decide)).trans ((st_ne (by decide)).trans ((st_ne (by decide)).trans ((st_ne (by decide)).trans ((st_ne (by decide)).trans ((st_ne (by decide)).trans ((st_ne (by decide)).trans ((st_ne (by decide)).trans ((st_ne (by decide)).trans ((st_ne (by decide)).trans ((st_ne (by decide)).trans ((st_ne (by decide)).trans h14)))))))))))))))))))))))))))))))))) ((st_ne (by decide)).trans ((st_ne (by decide)).trans ((st_ne (by decide)).trans ((st_ne (by decide)).trans ((st_ne (by decide)).trans ((st_ne (by decide)).trans ((st_ne (by decide)).trans ((st_ne (by decide)).trans ((st_ne (by decide)).trans ((st_ne (by decide)).trans ((st_ne (by decide)).trans ((st_ne (by decide)).trans ((st_ne (by decide)).trans ((st_ne (by decide)).trans ((st_ne (by decide)).trans ((st_ne (by decide)).trans ((st_ne (by decide)).trans ((st_ne (by decide)).trans ((st_ne (by decide)).trans ((st_ne (by decide)).trans ((st_ne (by decide)).trans ((st_ne (by decide)).trans ((st_ne (by decide)).trans ((st_ne (by decide)).trans ((st_ne (by decide)).trans ((st_ne (by decide)).trans ((st_ne (by decide)).trans ((st_ne (by decide)).trans ((st_ne (by decide)).trans ((st_ne (by decide)).trans ((st_ne (by decide)).trans ((st_ne (by decide)).trans ((st_ne (by decide)).trans ((st_ne (by decide)).trans h15)))))))))))))))))))))))))))))))))) ((st_ne (by decide)).trans ((st_ne (by decide)).trans ((st_ne (by decide)).trans ((st_ne (by decide)).trans ((st_ne (by decide)).trans ((st_ne (by decide)).trans ((st_ne (by decide)).trans ((st_ne (by decide)).trans ((st_ne (by decide)).trans ((st_ne (by decide)).trans ((st_ne (by decide)).trans ((st_ne (by decide)).trans ((st_ne (by decide)).trans ((st_ne (by decide)).trans ((st_ne (by decide)).trans ((st_ne (by decide)).trans ((st_ne (by decide)).trans ((st_ne (by decide)).trans ((st_ne (by decide)).trans ((st_ne (by decide)).trans ((st_ne (by decide)).trans ((st_ne (by decide)).trans ((st_ne (by decide)).trans ((st_ne (by decide)).trans ((st_ne (by decide)).trans ((st_ne (by decide)).trans ((st_ne (by decide)).trans ((st_ne (by decide)).trans ((st_ne (by decide)).trans ((st_ne (by decide)).trans ((st_ne (by decide)).trans ((st_ne (by decide)).trans ((st_ne (by decide)).trans ((st_ne (by decide)).trans h16)))))))))))))))))))))))))))))))))) ((st_ne (by decide)).trans ((st_ne (by decide)).trans ((st_ne (by decide)).trans ((st_ne (by decide)).trans ((st_ne (by decide)).trans ((st_ne (by decide)).trans ((st_ne (by decide)).trans ((st_ne (by decide)).trans ((st_ne (by decide)).trans ((st_ne (by decide)).trans ((st_ne (by decide)).trans ((st_ne (by decide)).trans ((st_ne (by decide)).trans ((st_ne (by decide)).trans ((st_ne (by decide)).trans ((st_ne (by decide)).trans ((st_ne (by decide)).trans ((st_ne (by decide)).trans ((st_ne (by decide)).trans ((st_ne (by decide)).trans ((st_ne (by decide)).trans ((st_ne (by decide)).trans ((st_ne (by decide)).trans ((st_ne (by decide)).trans ((st_ne (by decide)).trans ((st_ne (by decide)).trans ((st_ne (by decide)).trans ((st_ne (by decide)).trans ((st_ne (by decide)).trans ((st_ne (by decide)).trans ((st_ne (by decide)).trans ((st_ne (by decide)).trans ((st_ne (by decide)).trans ((st_ne (by decide)).trans h17)))))))))))))))))))))))))))))))))) ((st_ne (by decide)).trans ((st_ne (by decide)).trans ((st_ne (by decide)).trans ((st_ne (by decide)).trans ((st_ne (by decide)).trans ((st_ne (by decide)).trans ((st_ne (by decide)).trans ((st_ne (by decide)).trans ((st_ne (by decide)).trans ((st_ne (by decide)).trans ((st_ne (by decide)).trans ((st_ne (by decide)).trans ((st_ne (by decide)).trans ((st_ne (by decide)).trans ((st_ne (by decide)).trans ((st_ne (by decide)).trans ((st_ne (by decide)).trans ((st_ne (by decide)).trans ((st_ne (by decide)).trans ((st_ne (by decide)).trans ((st_ne (by decide)).trans ((st_ne (by decide)).trans ((st_ne (by decide)).trans ((st_ne (by decide)).trans ((st_ne (by decide)).trans ((st_ne (by decide)).trans ((st_ne (by decide)).trans ((st_ne (by decide)).trans ((st_ne (by decide)).trans ((st_ne (by decide)).trans ((st_ne (by decide)).trans ((st_ne (by decide)).trans ((st_ne (by decide)).trans ((st_ne (by decide)).trans h18)))))))))))))))))))))))))))))))))) ((st_ne (by decide)).trans ((st_ne (by decide)).trans ((st_ne (by decide)).trans ((st_ne (by decide)).trans ((st_ne (by decide)).trans ((st_ne (by decide)).trans ((st_ne (by decide)).trans ((st_ne (by decide)).trans ((st_ne (by decide)).trans ((st_ne (by decide)).trans ((st_ne (by decide)).trans ((st_ne (by decide)).trans ((st_ne (by decide)).trans ((st_ne (by decide)).trans ((st_ne (by decide)).trans ((st_ne (by decide)).trans ((st_ne (by decide)).trans ((st_ne (by decide)).trans ((st_ne (by decide)).trans ((st_ne (by decide)).trans ((st_ne (by decide)).trans ((st_ne (by decide)).trans ((st_ne (by decide)).trans ((st_ne (by decide)).trans ((st_ne (by decide)).trans ((st_ne (by decide)).trans ((st_ne (by decide)).trans ((st_ne (by decide)).trans ((st_ne (by decide)).trans ((st_ne (by decide)).trans ((st_ne (by decide)).trans ((st_ne (by decide)).trans ((st_ne (by decide)).trans ((st_ne (by decide)).trans h19)))))))))))))))))))))))))))))))))) ((st_ne (by decide)).trans ((st_ne (by decide)).trans ((st_ne (by decide)).trans ((st_ne (by decide)).trans ((st_ne (by decide)).trans ((st_ne (by decide)).trans ((st_ne (by decide)).trans ((st_ne (by decide)).trans ((st_ne (by decide)).trans ((st_ne (by decide)).trans ((st_ne (by decide)).trans ((st_ne (by decide)).trans ((st_ne (by decide)).trans ((st_ne (by decide)).trans ((st_ne (by decide)).trans ((st_ne (by decide)).trans ((st_ne (by decide)).trans ((st_ne (by decide)).trans ((st_ne (by decide)).trans ((st_ne (by decide)).trans ((st_ne (by decide)).trans ((st_ne (by decide)).trans ((st_ne (by decide)).trans ((st_ne (by decide)).trans ((st_ne (by decide)).trans ((st_ne (by decide)).trans ((st_ne (by decide)).trans ((st_ne (by decide)).trans ((st_ne (by decide)).trans ((st_ne (by decide)).trans ((st_ne (by decide)).trans ((st_ne (by decide)).trans ((st_ne (by decide)).trans ((st_ne (by decide)).trans h20)))))))))))))))))))))))))))))))))) ((st_ne (by decide)).trans ((st_ne (by decide)).trans ((st_ne (by decide)).trans ((st_ne (by decide)).trans ((st_ne (by decide)).trans ((st_ne (by decide)).trans ((st_ne (by decide)).trans ((st_ne (by decide)).trans ((st_ne (by decide)).trans ((st_ne (by decide)).trans ((st_ne (by decide)).trans ((st_ne (by decide)).trans ((st_ne (by decide)).trans ((st_ne (by decide)).trans ((st_ne (by decide)).trans ((st_ne (by decide)).trans ((st_ne (by decide)).trans ((st_ne (by decide)).trans ((st_ne (by decide)).trans ((st_ne (by decide)).trans ((st_ne (by decide)).trans ((st_ne (by decide)).trans ((st_ne (by decide)).trans ((st_ne (by decide)).trans ((st_ne (by decide)).trans ((st_ne (by decide)).trans ((st_ne (by decide)).trans ((st_ne (by decide)).trans ((st_ne (by decide)).trans ((st_ne (by decide)).trans ((st_ne (by decide)).trans ((st_ne (by decide)).trans ((st_ne (by decide)).trans ((st_ne (by decide)).trans h21)))))))))))))))))))))))))))))))))) ((st_ne (by decide)).trans ((st_ne (by decide)).trans ((st_ne (by decide)).trans ((st_ne (by decide)).trans ((st_ne (by decide)).trans ((st_ne (by decide)).trans ((st_ne (by decide)).trans ((st_ne (by decide)).trans ((st_ne (by decide)).trans ((st_ne (by decide)).trans ((st_ne (by decide)).trans ((st_ne (by decide)).trans ((st_ne (by decide)).trans ((st_ne (by decide)).trans ((st_ne (by decide)).trans ((st_ne (by decide)).trans ((st_ne (by decide)).trans ((st_ne (by decide)).trans ((st_ne (by decide)).trans ((st_ne (by decide)).trans ((st_ne (by decide)).trans ((st_ne (by decide)).trans ((st_ne (by decide)).trans ((st_ne (by decide)).trans ((st_ne (by decide)).trans ((st_ne (by decide)).trans ((st_ne (by decide)).trans ((st_ne (by decide)).trans ((st_ne (by decide)).trans ((st_ne (by decide)).trans ((st_ne (by decide)).trans ((st_ne (by decide)).trans ((st_ne (by decide)).trans ((st_ne (by decide)).trans h22)))))))))))))))))))))))))))))))))) ((st_ne (by decide)).trans ((st_ne (by decide)).trans ((st_ne (by decide)).trans ((st_ne (by decide)).trans ((st_ne (by decide)).trans ((st_ne (by decide)).trans ((st_ne (by decide)).trans ((st_ne (by decide)).trans ((st_ne (by decide)).trans ((st_ne (by decide)).trans ((st_ne (by decide)).trans ((st_ne (by decide)).trans ((st_ne (by decide)).trans ((st_ne (by decide)).trans ((st_ne (by decide)).trans ((st_ne (by decide)).trans ((st_ne (by decide)).trans ((st_ne (by decide)).trans ((st_ne (by decide)).trans ((st_ne (by decide)).trans ((st_ne (by decide)).trans ((st_ne (by decide)).trans ((st_ne (by decide)).trans ((st_ne (by decide)).trans ((st_ne (by decide)).trans ((st_ne (by decide)).trans ((st_ne (by decide)).trans ((st_ne (by decide)).trans ((st_ne (by decide)).trans ((st_ne (by decide)).trans ((st_ne (by decide)).trans ((st_ne (by decide)).trans ((st_ne (by decide)).trans ((st_ne (by decide)).trans h23)))))))))))))))))))))))))))))))))) ((st_ne (by decide)).trans ((st_ne (by decide)).trans ((st_ne (by decide)).trans ((st_ne (by decide)).trans ((st_ne (by decide)).trans ((st_ne (by decide)).trans ((st_ne (by decide)).trans ((st_ne (by decide)).trans ((st_ne (by decide)).trans ((st_ne (by decide)).trans ((st_ne (by decide)).trans ((st_ne (by decide)).trans ((st_ne (by decide)).trans ((st_ne (by decide)).trans ((st_ne (by decide)).trans ((st_ne (by decide)).trans ((st_ne (by decide)).trans ((st_ne (by decide)).trans ((st_ne (by decide)).trans ((st_ne (by decide)).trans ((st_ne (by decide)).trans ((st_ne (by decide)).trans ((st_ne (by decide)).trans ((st_ne (by decide)).trans ((st_ne (by decide)).trans ((st_ne (by decide)).trans ((st_ne (by decide)).trans ((st_ne (by decide)).trans ((st_ne (by decide)).trans ((st_ne (by decide)).trans ((st_ne (by decide)).trans ((st_ne (by decide)).trans ((st_ne (by decide)).trans ((st_ne (by decide)).trans h24)))))))))))))))))))))))))))))))))) ((st_ne (by decide)).trans ((st_ne (by decide)).trans ((st_ne (by decide)).trans ((st_ne (by decide)).trans ((st_ne (by decide)).trans ((st_ne (by decide)).trans ((st_ne (by decide)).trans ((st_ne (by decide)).trans ((st_ne (by decide)).trans ((st_ne (by decide)).trans ((st_ne (by decide)).trans ((st_ne (by decide)).trans ((st_ne (by decide)).trans ((st_ne (by decide)).trans ((st_ne (by decide)).trans ((st_ne (by decide)).trans ((st_ne (by decide)).trans ((st_ne (by decide)).trans ((st_ne (by decide)).trans ((st_ne (by decide)).trans ((st_ne (by decide)).trans ((st_ne (by decide)).trans ((st_ne (by decide)).trans ((st_ne (by decide)).trans ((st_ne (by decide)).trans ((st_ne (by decide)).trans ((st_ne (by decide)).trans ((st_ne (by decide)).trans ((st_ne (by decide)).trans ((st_ne (by decide)).trans ((st_ne (by decide)).trans ((st_ne (by decide)).trans ((st_ne (by decide)).trans ((st_ne (by decide)).trans h25)))))))))))))))))))))))))))))))))) ((st_ne (by decide)).trans ((st_ne (by decide)).trans ((st_ne (by decide)).trans ((st_ne (by decide)).trans ((st_ne (by decide)).trans ((st_ne (by decide)).trans ((st_ne (by decide)).trans ((st_ne (by decide)).trans ((st_ne (by decide)).trans ((st_ne (by decide)).trans ((st_ne (by decide)).trans ((st_ne (by decide)).trans ((st_ne (by decide)).trans ((st_ne (by decide)).trans ((st_ne (by decide)).trans ((st_ne (by decide)).trans ((st_ne (by decide)).trans ((st_ne (by decide)).trans ((st_ne (by decide)).trans ((st_ne (by decide)).trans ((st_ne (by decide)).trans ((st_ne (by decide)).trans ((st_ne (by decide)).trans ((st_ne (by decide)).trans ((st_ne (by decide)).trans ((st_ne (by decide)).trans ((st_ne (by decide)).trans ((st_ne (by decide)).trans ((st_ne (by decide)).trans ((st_ne (by decide)).trans ((st_ne (by decide)).trans ((st_ne (by decide)).trans ((st_ne (by decide)).trans ((st_ne (by decide)).trans h26)))))))))))))))))))))))))))))))))) ((st_ne (by decide)).trans ((st_ne (by decide)).trans ((st_ne (by decide)).trans ((st_ne (by decide)).trans ((st_ne (by decide)).trans ((st_ne (by decide)).trans ((st_ne (by decide)).trans ((st_ne (by decide)).trans ((st_ne (by decide)).trans ((st_ne (by decide)).trans ((st_ne (by decide)).trans ((st_ne (by decide)).trans ((st_ne (by decide)).trans ((st_ne (by decide)).trans ((st_ne (by decide)).trans ((st_ne (by decide)).trans ((st_ne (by decide)).trans ((st_ne (by decide)).trans ((st_ne (by decide)).trans ((st_ne (by decide)).trans ((st_ne (by decide)).trans ((st_ne (by decide)).trans ((st_ne (by decide)).trans ((st_ne (by decide)).trans ((st_ne (by decide)).trans ((st_ne (by decide)).trans ((st_ne (by decide)).trans ((st_ne (by decide)).trans ((st_ne (by decide)).trans ((st_ne (by decide)).trans ((st_ne (by decide)).trans ((st_ne (by decide)).trans ((st_ne (by decide)).trans ((st_ne (by decide)).trans h27)))))))))))))))))))))))))))))))))) ((st_ne (by decide)).trans ((st_ne (by decide)).trans ((st_ne (by decide)).trans ((st_ne (by decide)).trans ((st_ne (by decide)).trans ((st_ne (by decide)).trans ((st_ne (by decide)).trans ((st_ne (by decide)).trans ((st_ne (by decide)).trans ((st_ne (by decide)).trans ((st_ne (by decide)).trans ((st_ne (by decide)).trans ((st_ne (by decide)).trans ((st_ne (by decide)).trans ((st_ne (by decide)).trans ((st_ne (by decide)).trans ((st_ne (by decide)).trans ((st_ne (by decide)).trans ((st_ne (by decide)).trans ((st_ne (by decide)).trans ((st_ne (by decide)).trans ((st_ne (by decide)).trans ((st_ne (by decide)).trans ((st_ne (by decide)).trans ((st_ne (by decide)).trans ((st_ne (by decide)).trans ((st_ne (by decide)).trans ((st_ne (by decide)).trans ((st_ne (by decide)).trans ((st_ne (by decide)).trans ((st_ne (by decide)).trans ((st_ne (by decide)).trans ((st_ne (by decide)).trans ((st_ne (by decide)).trans h28)))))))))))))))))))))))))))))))))) ((st_ne (by decide)).trans ((st_ne (by decide)).trans ((st_ne (by decide)).trans ((st_ne (by decide)).trans ((st_ne (by decide)).trans ((st_ne (by decide)).trans ((st_ne (by decide)).trans ((st_ne (by decide)).trans ((st_ne (by decide)).trans ((st_ne (by decide)).trans ((st_ne (by decide)).trans ((st_ne (by decide)).trans ((st_ne (by decide)).trans ((st_ne (by decide)).trans ((st_ne (by decide)).trans ((st_ne (by decide)).trans ((st_ne (by decide)).trans ((st_ne (by decide)).trans ((st_ne (by decide)).trans ((st_ne (by decide)).trans ((st_ne (by decide)).trans ((st_ne (by decide)).trans ((st_ne (by decide)).trans ((st_ne (by decide)).trans ((st_ne (by decide)).trans ((st_ne (by decide)).trans ((st_ne (by decide)).trans ((st_ne (by decide)).trans ((st_ne (by decide)).trans ((st_ne (by decide)).trans ((st_ne (by decide)).trans ((st_ne (by decide)).trans ((st_ne (by decide)).trans ((st_ne (by decide)).trans h29)))))))))))))))))))))))))))))))))))
set_option maxRecDepth 8000 in
theorem c_X12_sourcesBy_422 {l : Launch} {D : va_G} {B : Nat} {cy : Nat → ClassId} {M : Mem} (h0 : M.1 146 5 = 0) (h1 : M.1 147 0 = 0) (h2 : M.1 148 0 = 0) (h3 : M.1 147 1 = 0) (h4 : M.1 148 1 = 0) (h5 : M.1 147 2 = 0) (h6 : M.1 148 2 = 0) (h7 : M.1 147 3 = 0) (h8 : M.1 148 3 = 0) (h9 : M.1 147 4 = 0) (h10 : M.1 148 4 = 0) (h11 : M.1 147 5 = 0) (h12 : M.1 148 5 = 0) (h13 : M.1 147 6 = 0) (h14 : M.1 148 6 = 0) (h15 : M.1 147 7 = 0) (h16 : M.1 148 7 = 0) (h17 : M.1 147 8 = 0) (h18 : M.1 148 8 = 0) (h19 : M.1 147 9 = 0) (h20 : M.1 148 9 = 0) (h21 : M.1 147 10 = 0) (h22 : M.1 148 10 = 0) (h23 : M.1 147 11 = 0) (h24 : M.1 148 11 = 0) (h25 : M.1 147 12 = 0) (h26 : M.1 148 12 = 0) (h27 : M.1 147 13 = 0) (h28 : M.1 148 13 = 0) (h29 : M.1 147 14 = 0) (h30 : M.1 148 14 = 0) (h31 : M.1 147 15 = 0) (h32 : M.1 148 15 = 0) (h33 : M.1 147 16 = 0) (h34 : M.1 148 16 = 0) (h35 : M.1 147 17 = 0) (h36 : M.1 148 17 = 0) (h37 : M.1 147 18 = 0) (h38 : M.1 148 18 = 0) (h39 : M.1 147 19 = 0) (h40 : M.1 148 19 = 0) (h41 : M.1 147 20 = 0) (h42 : M.1 148 20 = 0) (h43 : M.1 147 21 = 0) (h44 : M.1 148 21 = 0) (h45 : M.1 147 22 = 0) (h46 : M.1 148 22 = 0) (h47 : M.1 147 23 = 0) (h48 : M.1 148 23 = 0) (h49 : M.1 147 24 = 0) (h50 : M.1 148 24 = 0) (h51 : M.1 147 25 = 0) (h52 : M.1 148 25 = 0) (h53 : M.1 147 26 = 0) (h54 : M.1 148 26 = 0) (h55 : M.1 147 27 = 0) (h56 : M.1 148 27 = 0) (h57 : M.1 157 0 = 0) (h58 : M.1 157 1 = 0) (h59 : M.1 157 2 = 0) (h60 : M.1 157 3 = 0) (h61 : M.1 157 4 = 0) (h62 : M.1 157 5 = 0) (h63 : M.1 157 6 = 0) (h64 : M.1 157 7 = 0) (h65 : M.1 157 8 = 0) (h66 : M.1 157 9 = 0) (h67 : M.1 157 10 = 0) (h68 : M.1 157 11 = 0) (h69 : M.1 146 26 = 0) : Ci l D B cy yX12_sourcesBy cX12_sourcesBy 7 (some .int) 3 66 [.ref (B + 146), .int 3] M (fun r M1 => r = 27 ∧ M1.1 146 26 = 0) := by
  refine s_any (by decide) (Nat.le_of_ble_eq_true rfl) ?_
  intro p e s m below meth c ls F hr hlocks w hl
  have F : CallFix p m c cX12_sourcesBy 7 s _ TB RX12 := F
  have hx := F.1
  have hb := F.2.1
  have hl : lv_has ls 7 [(0, .ref (B + 146)), (1, .int 3)] := hl
  refine lv_aload_n hx hb dX12_sourcesBy_0 rfl (lv_at hl 0 rfl) ?_
  refine x_Vv F w (As := []) (rest := []) (a := 146) (by decide) (sh_12 rfl _ _) rfl (c_X12_laysDue_340 (h0) (h1) (h2) (h3) (h4) (h5) (h6) (h7) (h8) (h9) (h10) (h11) (h12) (h13) (h14) (h15) (h16) (h17) (h18) (h19) (h20) (h21) (h22) (h23) (h24) (h25) (h26) (h27) (h28) (h29) (h30) (h31) (h32) (h33) (h34) (h35) (h36) (h37) (h38) (h39) (h40) (h41) (h42) (h43) (h44) (h45) (h46) (h47) (h48) (h49) (h50) (h51) (h52) (h53) (h54) (h55) (h56) (h57) (h58) (h59) (h60) (h61) (h62) (h63) (h64) (h65) (h66) (h67) (h68)) gv_X12_303 hv_X12_laysDue ⟨Nat.le_of_ble_eq_true rfl, Nat.le_of_ble_eq_true rfl⟩ hl.1 rfl (Nat.le_of_ble_eq_true rfl) ⟨Nat.zero_le _, Nat.zero_le _⟩ dX12_sourcesBy_1 (fun H locs w => ?_)
  refine lv_aload_n hx hb dX12_sourcesBy_4 rfl (lv_at hl 0 rfl) ?_
  refine lv_bipush (v := (-2)) hx hb dX12_sourcesBy_5 (by decide) ?_
  refine u_12_26 F w (a := 146) rfl tb_567 dX12_sourcesBy_7 (fun H locs w => ?_)
  refine lv_iconst (v := 1) hx hb dX12_sourcesBy_10 (by decide) ?_
  refine lv_istore_n (lv' := [(2, .int 1), (0, .ref (B + 146)), (1, .int 3)]) hx hb dX12_sourcesBy_11 rfl hl (by decide) rfl (fun ls hl => ?_)
  refine lv_iconst (v := 0) hx hb dX12_sourcesBy_12 (by decide) ?_
  refine lv_istore_n (lv' := [(3, .int 0), (2, .int 1), (0, .ref (B + 146)), (1, .int 3)]) hx hb dX12_sourcesBy_13 rfl hl (by decide) rfl (fun ls hl => ?_)
  refine lv_iload_n hx hb dX12_sourcesBy_14 rfl (lv_at hl 0 rfl) ?_
  refine lv_iload_n hx hb dX12_sourcesBy_15 rfl (lv_at hl 3 rfl) ?_
  refine lv_icmp_ge (tgt := 29) hx hb dX12_sourcesBy_16 (by decide) (fun c1 => absurd c1 (by decide)) (fun _ => ?_)
  refine lv_iload_n hx hb dX12_sourcesBy_19 rfl (lv_at hl 1 rfl) ?_
  refine lv_iconst (v := 3) hx hb dX12_sourcesBy_20 (by decide) ?_
  refine lv_imul hx hb dX12_sourcesBy_21 ?_
  refine r_val (v := 3) (by decide) ?_
  refine lv_istore_n (lv' := [(2, .int 3), (3, .int 0), (0, .ref (B + 146)), (1, .int 3)]) hx hb dX12_sourcesBy_22 rfl hl (by decide) rfl (fun ls hl => ?_)
  refine lv_iinc (v := 1) (lv' := [(3, .int 1), (2, .int 3), (0, .ref (B + 146)), (1, .int 3)]) hx hb dX12_sourcesBy_23 hl (k := 1) rfl (by decide) (by decide) rfl (fun ls hl => ?_)
  refine lv_goto (tgt := 14) hx hb dX12_sourcesBy_26 (by decide) ?_
  refine lv_iload_n hx hb dX12_sourcesBy_14 rfl (lv_at hl 0 rfl) ?_
  refine lv_iload_n hx hb dX12_sourcesBy_15 rfl (lv_at hl 3 rfl) ?_
  refine lv_icmp_ge (tgt := 29) hx hb dX12_sourcesBy_16 (by decide) (fun c1 => absurd c1 (by decide)) (fun _ => ?_)
  refine lv_iload_n hx hb dX12_sourcesBy_19 rfl (lv_at hl 1 rfl) ?_
  refine lv_iconst (v := 3) hx hb dX12_sourcesBy_20 (by decide) ?_
  refine lv_imul hx hb dX12_sourcesBy_21 ?_
  refine r_val (v := 9) (by decide) ?_
  refine lv_istore_n (lv' := [(2, .int 9), (3, .int 1), (0, .ref (B + 146)), (1, .int 3)]) hx hb dX12_sourcesBy_22 rfl hl (by decide) rfl (fun ls hl => ?_)
  refine lv_iinc (v := 2) (lv' := [(3, .int 2), (2, .int 9), (0, .ref (B + 146)), (1, .int 3)]) hx hb dX12_sourcesBy_23 hl (k := 1) rfl (by decide) (by decide) rfl (fun ls hl => ?_)
  refine lv_goto (tgt := 14) hx hb dX12_sourcesBy_26 (by decide) ?_
  refine lv_iload_n hx hb dX12_sourcesBy_14 rfl (lv_at hl 0 rfl) ?_
  refine lv_iload_n hx hb dX12_sourcesBy_15 rfl (lv_at hl 3 rfl) ?_
  refine lv_icmp_ge (tgt := 29) hx hb dX12_sourcesBy_16 (by decide) (fun c1 => absurd c1 (by decide)) (fun _ => ?_)
  refine lv_iload_n hx hb dX12_sourcesBy_19 rfl (lv_at hl 1 rfl) ?_
  refine lv_iconst (v := 3) hx hb dX12_sourcesBy_20 (by decide) ?_
  refine lv_imul hx hb dX12_sourcesBy_21 ?_
  refine r_val (v := 27) (by decide) ?_
  refine lv_istore_n (lv' := [(2, .int 27), (3, .int 2), (0, .ref (B + 146)), (1, .int 3)]) hx hb dX12_sourcesBy_22 rfl hl (by decide) rfl (fun ls hl => ?_)
  refine lv_iinc (v := 3) (lv' := [(3, .int 3), (2, .int 27), (0, .ref (B + 146)), (1, .int 3)]) hx hb dX12_sourcesBy_23 hl (k := 1) rfl (by decide) (by decide) rfl (fun ls hl => ?_)
  refine lv_goto (tgt := 14) hx hb dX12_sourcesBy_26 (by decide) ?_
  refine lv_iload_n hx hb dX12_sourcesBy_14 rfl (lv_at hl 0 rfl) ?_
  refine lv_iload_n hx hb dX12_sourcesBy_15 rfl (lv_at hl 3 rfl) ?_
  refine lv_icmp_ge (tgt := 29) hx hb dX12_sourcesBy_16 (by decide) (fun _ => ?_) (fun c1 => absurd c1 (by decide))
  refine lv_iconst (v := 0) hx hb dX12_sourcesBy_29 (by decide) ?_
  refine lv_istore_n (lv' := [(3, .int 0), (2, .int 27), (0, .ref (B + 146)), (1, .int 3)]) hx hb dX12_sourcesBy_30 rfl hl (by decide) rfl (fun ls hl => ?_)
  refine lv_iconst (v := 0) hx hb dX12_sourcesBy_31 (by decide) ?_
  refine lv_istore (lv' := [(4, .int 0), (3, .int 0), (2, .int 27), (0, .ref (B + 146)), (1, .int 3)]) hx hb dX12_sourcesBy_32 hl (by decide) rfl (fun ls hl => ?_)
  refine lv_iload hx hb dX12_sourcesBy_34 (lv_at hl 0 rfl) ?_
  refine lv_iload_n hx hb dX12_sourcesBy_36 rfl (lv_at hl 2 rfl) ?_
  refine lv_icmp_ge (tgt := 152) hx hb dX12_sourcesBy_37 (by decide) (fun c1 => absurd c1 (by decide)) (fun _ => ?_)
  refine lv_aload_n hx hb dX12_sourcesBy_40 rfl (lv_at hl 3 rfl) ?_
  refine f_12_2 F w (a := 146) rfl tb_127 dX12_sourcesBy_41 ?_
  refine lv_aload_n hx hb dX12_sourcesBy_44 rfl (lv_at hl 3 rfl) ?_
  refine f_12_1 F w (a := 146) rfl tb_126 dX12_sourcesBy_45 ?_
  refine x_Sv F w (As := [.ref (B + 148), .ref (B + 147)]) (rest := []) (c_X12_copy_211 ((st_ne (by decide)).trans h1) ((st_ne (by decide)).trans h2) ((st_ne (by decide)).trans h3) ((st_ne (by decide)).trans h4) ((st_ne (by decide)).trans h5) ((st_ne (by decide)).trans h6) ((st_ne (by decide)).trans h7) ((st_ne (by decide)).trans h8) ((st_ne (by decide)).trans h9) ((st_ne (by decide)).trans h10) ((st_ne (by decide)).trans h11) ((st_ne (by decide)).trans h12) ((st_ne (by decide)).trans h13) ((st_ne (by decide)).trans h14) ((st_ne (by decide)).trans h15) ((st_ne (by decide)).trans h16) ((st_ne (by decide)).trans h17) ((st_ne (by decide)).trans h18) ((st_ne (by decide)).trans h19) ((st_ne (by decide)).trans h20) ((st_ne (by decide)).trans h21) ((st_ne (by decide)).trans h22) ((st_ne (by decide)).trans h23) ((st_ne (by decide)).trans h24) ((st_ne (by decide)).trans h25) ((st_ne (by decide)).trans h26) ((st_ne (by decide)).trans h27) ((st_ne (by decide)).trans h28) ((st_ne (by decide)).trans h29) ((st_ne (by decide)).trans h30) ((st_ne (by decide)).trans h31) ((st_ne (by decide)).trans h32) ((st_ne (by decide)).trans h33) ((st_ne (by decide)).trans h34) ((st_ne (by decide)).trans h35) ((st_ne (by decide)).trans h36) ((st_ne (by decide)).trans h37) ((st_ne (by decide)).trans h38) ((st_ne (by decide)).trans h39) ((st_ne (by decide)).trans h40) ((st_ne (by decide)).trans h41) ((st_ne (by decide)).trans h42) ((st_ne (by decide)).trans h43) ((st_ne (by decide)).trans h44) ((st_ne (by decide)).trans h45) ((st_ne (by decide)).trans h46) ((st_ne (by decide)).trans h47) ((st_ne (by decide)).trans h48) ((st_ne (by decide)).trans h49) ((st_ne (by decide)).trans h50) ((st_ne (by decide)).trans h51) ((st_ne (by decide)).trans h52) ((st_ne (by decide)).trans h53) ((st_ne (by decide)).trans h54) ((st_ne (by decide)).trans h55) ((st_ne (by decide)).trans h56)) gs_X12_162 hs_X12_copy ⟨Nat.le_of_ble_eq_true rfl, Nat.le_of_ble_eq_true rfl⟩ hl.1 rfl (Nat.le_of_ble_eq_true rfl) ⟨Nat.zero_le _, Nat.zero_le _⟩ dX12_sourcesBy_48 (fun H locs w => ?_)
  refine lv_aload_n hx hb dX12_sourcesBy_51 rfl (lv_at hl 3 rfl) ?_
  refine f_12_2 F w (a := 146) rfl tb_127 dX12_sourcesBy_52 ?_
  refine lv_iconst (v := 0) hx hb dX12_sourcesBy_55 (by decide) ?_
  refine lv_iconst (v := 0) hx hb dX12_sourcesBy_56 (by decide) ?_
  refine g_iast F w (a := 148) rfl (j := 0) ⟨by decide, by decide⟩ (by decide) dX12_sourcesBy_57 (fun H locs w => ?_)
  rw [st_same ((st_ne (by decide)).trans h2)] at w
  refine lv_iload_n hx hb dX12_sourcesBy_58 rfl (lv_at hl 2 rfl) ?_
  refine lv_istore (lv' := [(5, .int 27), (4, .int 0), (3, .int 0), (2, .int 27), (0, .ref (B + 146)), (1, .int 3)]) hx hb dX12_sourcesBy_59 hl (by decide) rfl (fun ls hl => ?_)
  refine lv_iconst (v := 0) hx hb dX12_sourcesBy_61 (by decide) ?_
  refine lv_istore (lv' := [(6, .int 0), (5, .int 27), (4, .int 0), (3, .int 0), (2, .int 27), (0, .ref (B + 146)), (1, .int 3)]) hx hb dX12_sourcesBy_62 hl (by decide) rfl (fun ls hl => ?_)
  refine lv_iload hx hb dX12_sourcesBy_64 (lv_at hl 0 rfl) ?_
  refine lv_iload_n hx hb dX12_sourcesBy_66 rfl (lv_at hl 6 rfl) ?_
  refine lv_icmp_ge (tgt := 98) hx hb dX12_sourcesBy_67 (by decide) (fun c1 => absurd c1 (by decide)) (fun _ => ?_)
  refine lv_iload hx hb dX12_sourcesBy_70 (lv_at hl 1 rfl) ?_
  refine lv_iconst (v := 3) hx hb dX12_sourcesBy_72 (by decide) ?_
  refine lv_idiv hx hb dX12_sourcesBy_73 (by decide) ?_
  refine r_val (v := 9) (by decide) ?_
  refine lv_istore (lv' := [(5, .int 9), (6, .int 0), (4, .int 0), (3, .int 0), (2, .int 27), (0, .ref (B + 146)), (1, .int 3)]) hx hb dX12_sourcesBy_74 hl (by decide) rfl (fun ls hl => ?_)
  refine lv_aload_n hx hb dX12_sourcesBy_76 rfl (lv_at hl 5 rfl) ?_
  refine f_12_2 F w (a := 146) rfl tb_127 dX12_sourcesBy_77 ?_
  refine lv_iload hx hb dX12_sourcesBy_80 (lv_at hl 1 rfl) ?_
  refine lv_iload hx hb dX12_sourcesBy_82 (lv_at hl 2 rfl) ?_
  refine lv_iload hx hb dX12_sourcesBy_84 (lv_at hl 0 rfl) ?_
  refine lv_idiv hx hb dX12_sourcesBy_86 (by decide) ?_
  refine r_val (v := 0) (by decide) ?_
  refine lv_iconst (v := 3) hx hb dX12_sourcesBy_87 (by decide) ?_
  refine lv_irem hx hb dX12_sourcesBy_88 (by decide) ?_
  refine r_val (v := 0) (by decide) ?_
  refine x_Sv F w (As := [.ref (B + 148), .int 0, .int 0]) (rest := []) (c_X12_insert_389 ((st_ne (by decide)).trans h2) ((st_ne (by decide)).trans h4) ((st_ne (by decide)).trans h28)) gs_X12_112 hs_X12_insert ⟨Nat.le_of_ble_eq_true rfl, Nat.le_of_ble_eq_true rfl⟩ hl.1 rfl (Nat.le_of_ble_eq_true rfl) ⟨Nat.zero_le _, Nat.zero_le _⟩ dX12_sourcesBy_89 (fun H locs w => ?_)
  refine lv_iinc (v := 1) (lv' := [(6, .int 1), (5, .int 9), (4, .int 0), (3, .int 0), (2, .int 27), (0, .ref (B + 146)), (1, .int 3)]) hx hb dX12_sourcesBy_92 hl (k := 1) rfl (by decide) (by decide) rfl (fun ls hl => ?_)
  refine lv_goto (tgt := 64) hx hb dX12_sourcesBy_95 (by decide) ?_
  refine lv_iload hx hb dX12_sourcesBy_64 (lv_at hl 0 rfl) ?_
  refine lv_iload_n hx hb dX12_sourcesBy_66 rfl (lv_at hl 6 rfl) ?_
  refine lv_icmp_ge (tgt := 98) hx hb dX12_sourcesBy_67 (by decide) (fun c1 => absurd c1 (by decide)) (fun _ => ?_)
  refine lv_iload hx hb dX12_sourcesBy_70 (lv_at hl 1 rfl) ?_
  refine lv_iconst (v := 3) hx hb dX12_sourcesBy_72 (by decide) ?_
  refine lv_idiv hx hb dX12_sourcesBy_73 (by decide) ?_
  refine r_val (v := 3) (by decide) ?_
  refine lv_istore (lv' := [(5, .int 3), (6, .int 1), (4, .int 0), (3, .int 0), (2, .int 27), (0, .ref (B + 146)), (1, .int 3)]) hx hb dX12_sourcesBy_74 hl (by decide) rfl (fun ls hl => ?_)
  refine lv_aload_n hx hb dX12_sourcesBy_76 rfl (lv_at hl 5 rfl) ?_
  refine f_12_2 F w (a := 146) rfl tb_127 dX12_sourcesBy_77 ?_
  refine lv_iload hx hb dX12_sourcesBy_80 (lv_at hl 1 rfl) ?_
  refine lv_iload hx hb dX12_sourcesBy_82 (lv_at hl 2 rfl) ?_
  refine lv_iload hx hb dX12_sourcesBy_84 (lv_at hl 0 rfl) ?_
  refine lv_idiv hx hb dX12_sourcesBy_86 (by decide) ?_
  refine r_val (v := 0) (by decide) ?_
  refine lv_iconst (v := 3) hx hb dX12_sourcesBy_87 (by decide) ?_
  refine lv_irem hx hb dX12_sourcesBy_88 (by decide) ?_
  refine r_val (v := 0) (by decide) ?_
  refine x_Sv F w (As := [.ref (B + 148), .int 1, .int 0]) (rest := []) (c_X12_insert_404 (st_at) ((st_ne (by decide)).trans ((st_ne (by decide)).trans h6)) ((st_ne (by decide)).trans ((st_ne (by decide)).trans h30))) gs_X12_112 hs_X12_insert ⟨Nat.le_of_ble_eq_true rfl, Nat.le_of_ble_eq_true rfl⟩ hl.1 rfl (Nat.le_of_ble_eq_true rfl) ⟨Nat.zero_le _, Nat.zero_le _⟩ dX12_sourcesBy_89 (fun H locs w => ?_)
  refine lv_iinc (v := 2) (lv' := [(6, .int 2), (5, .int 3), (4, .int 0), (3, .int 0), (2, .int 27), (0, .ref (B + 146)), (1, .int 3)]) hx hb dX12_sourcesBy_92 hl (k := 1) rfl (by decide) (by decide) rfl (fun ls hl => ?_)
  refine lv_goto (tgt := 64) hx hb dX12_sourcesBy_95 (by decide) ?_
  refine lv_iload hx hb dX12_sourcesBy_64 (lv_at hl 0 rfl) ?_
  refine lv_iload_n hx hb dX12_sourcesBy_66 rfl (lv_at hl 6 rfl) ?_
  refine lv_icmp_ge (tgt := 98) hx hb dX12_sourcesBy_67 (by decide) (fun c1 => absurd c1 (by decide)) (fun _ => ?_)
  refine lv_iload hx hb dX12_sourcesBy_70 (lv_at hl 1 rfl) ?_
  refine lv_iconst (v := 3) hx hb dX12_sourcesBy_72 (by decide) ?_
  refine lv_idiv hx hb dX12_sourcesBy_73 (by decide) ?_
  refine r_val (v := 1) (by decide) ?_
  refine lv_istore (lv' := [(5, .int 1), (6, .int 2), (4, .int 0), (3, .int 0), (2, .int 27), (0, .ref (B + 146)), (1, .int 3)]) hx hb dX12_sourcesBy_74 hl (by decide) rfl (fun ls hl => ?_)
  refine lv_aload_n hx hb dX12_sourcesBy_76 rfl (lv_at hl 5 rfl) ?_
  refine f_12_2 F w (a := 146) rfl tb_127 dX12_sourcesBy_77 ?_
  refine lv_iload hx hb dX12_sourcesBy_80 (lv_at hl 1 rfl) ?_
  refine lv_iload hx hb dX12_sourcesBy_82 (lv_at hl 2 rfl) ?_
  refine lv_iload hx hb dX12_sourcesBy_84 (lv_at hl 0 rfl) ?_
  refine lv_idiv hx hb dX12_sourcesBy_86 (by decide) ?_
  refine r_val (v := 0) (by decide) ?_
  refine lv_iconst (v := 3) hx hb dX12_sourcesBy_87 (by decide) ?_
  refine lv_irem hx hb dX12_sourcesBy_88 (by decide) ?_
  refine r_val (v := 0) (by decide) ?_
  refine x_Sv F w (As := [.ref (B + 148), .int 2, .int 0]) (rest := []) (c_X12_insert_419 (st_at) ((st_ne (by decide)).trans ((st_ne (by decide)).trans ((st_ne (by decide)).trans h8))) ((st_ne (by decide)).trans ((st_ne (by decide)).trans ((st_ne (by decide)).trans h32)))) gs_X12_112 hs_X12_insert ⟨Nat.le_of_ble_eq_true rfl, Nat.le_of_ble_eq_true rfl⟩ hl.1 rfl (Nat.le_of_ble_eq_true rfl) ⟨Nat.zero_le _, Nat.zero_le _⟩ dX12_sourcesBy_89 (fun H locs w => ?_)
  refine lv_iinc (v := 3) (lv' := [(6, .int 3), (5, .int 1), (4, .int 0), (3, .int 0), (2, .int 27), (0, .ref (B + 146)), (1, .int 3)]) hx hb dX12_sourcesBy_92 hl (k := 1) rfl (by decide) (by decide) rfl (fun ls hl => ?_)
  refine lv_goto (tgt := 64) hx hb dX12_sourcesBy_95 (by decide) ?_
  refine lv_iload hx hb dX12_sourcesBy_64 (lv_at hl 0 rfl) ?_
  refine lv_iload_n hx hb dX12_sourcesBy_66 rfl (lv_at hl 6 rfl) ?_
  refine lv_icmp_ge (tgt := 98) hx hb dX12_sourcesBy_67 (by decide) (fun _ => ?_) (fun c1 => absurd c1 (by decide))
  refine lv_iconst (v := 0) hx hb dX12_sourcesBy_98 (by decide) ?_
  refine lv_istore (lv' := [(6, .int 0), (5, .int 1), (4, .int 0), (3, .int 0), (2, .int 27), (0, .ref (B + 146)), (1, .int 3)]) hx hb dX12_sourcesBy_99 hl (by decide) rfl (fun ls hl => ?_)
  refine lv_iload hx hb dX12_sourcesBy_101 (lv_at hl 0 rfl) ?_
  refine lv_aload_n hx hb dX12_sourcesBy_103 rfl (lv_at hl 5 rfl) ?_
  refine f_12_5 F w (a := 146) rfl tb_227 dX12_sourcesBy_104 ?_
  refine r_val (v := 0) ((st_ne (by decide)).trans ((st_ne (by decide)).trans ((st_ne (by decide)).trans ((st_ne (by decide)).trans h0)))) ?_
  refine lv_icmp_ge (tgt := 123) hx hb dX12_sourcesBy_107 (by decide) (fun _ => ?_) (fun c1 => absurd c1 (by decide))
  refine lv_aload_n hx hb dX12_sourcesBy_123 rfl (lv_at hl 5 rfl) ?_
  refine x_Vi F w (As := []) (rest := []) (a := 146) (by decide) (sh_12 rfl _ _) rfl (c_X12_isDue_357 ((st_ne (by decide)).trans ((st_ne (by decide)).trans ((st_ne (by decide)).trans ((st_ne (by decide)).trans h52))))) gv_X12_306 hv_X12_isDue ⟨Nat.le_of_ble_eq_true rfl, Nat.le_of_ble_eq_true rfl⟩ hl.1 rfl (Nat.le_of_ble_eq_true rfl) ⟨Nat.zero_le _, Nat.zero_le _⟩ dX12_sourcesBy_124 (fun H locs w => ?_)
  refine lv_if_ne (tgt := 133) hx hb dX12_sourcesBy_127 (by decide) (fun _ => ?_) (fun c1 => absurd c1 (by decide))
  refine lv_iload_n hx hb dX12_sourcesBy_133 rfl (lv_at hl 3 rfl) ?_
  refine lv_if_ne (tgt := 143) hx hb dX12_sourcesBy_134 (by decide) (fun c1 => absurd c1 (by decide)) (fun _ => ?_)
  refine lv_aload_n hx hb dX12_sourcesBy_137 rfl (lv_at hl 5 rfl) ?_
  refine lv_iload hx hb dX12_sourcesBy_138 (lv_at hl 2 rfl) ?_
  refine u_12_26 F w (a := 146) rfl tb_567 dX12_sourcesBy_140 (fun H locs w => ?_)
  refine lv_iinc (v := 1) (lv' := [(3, .int 1), (6, .int 0), (5, .int 1), (4, .int 0), (2, .int 27), (0, .ref (B + 146)), (1, .int 3)]) hx hb dX12_sourcesBy_143 hl (k := 3) rfl (by decide) (by decide) rfl (fun ls hl => ?_)
  refine lv_iinc (v := 1) (lv' := [(4, .int 1), (3, .int 1), (6, .int 0), (5, .int 1), (2, .int 27), (0, .ref (B + 146)), (1, .int 3)]) hx hb dX12_sourcesBy_146 hl (k := 3) rfl (by decide) (by decide) rfl (fun ls hl => ?_)
  refine lv_goto (tgt := 34) hx hb dX12_sourcesBy_149 (by decide) ?_
  exact lp_X12_sourcesBy_422 F hr hlocks 26 1 (by decide) (by decide) _ H locs ls w (show lv_has ls 7 [(4, .int 1), (3, .int 1), (2, .int 27), (0, .ref (B + 146)), (1, .int 3)] from lv_sub hl [0, 1, 4, 5, 6] rfl) ((st_ne (by decide)).trans ((st_ne (by decide)).trans ((st_ne (by decide)).trans ((st_ne (by decide)).trans ((st_ne (by decide)).trans h1))))) ((st_ne (by decide)).trans ((st_ne (by decide)).trans ((st_ne (by decide)).trans ((st_ne (by decide)).trans ((st_ne (by decide)).trans h3))))) ((st_ne (by decide)).trans ((st_ne (by decide)).trans ((st_ne (by decide)).trans ((st_ne (by decide)).trans ((st_ne (by decide)).trans h5))))) ((st_ne (by decide)).trans ((st_ne (by decide)).trans ((st_ne (by decide)).trans ((st_ne (by decide)).trans ((st_ne (by decide)).trans h7))))) ((st_ne (by decide)).trans ((st_ne (by decide)).trans ((st_ne (by decide)).trans ((st_ne (by decide)).trans ((st_ne (by decide)).trans h9))))) ((st_ne (by decide)).trans ((st_ne (by decide)).trans ((st_ne (by decide)).trans ((st_ne (by decide)).trans ((st_ne (by decide)).trans h11))))) ((st_ne (by decide)).trans ((st_ne (by decide)).trans ((st_ne (by decide)).trans ((st_ne (by decide)).trans ((st_ne (by decide)).trans h13))))) ((st_ne (by decide)).trans ((st_ne (by decide)).trans ((st_ne (by decide)).trans ((st_ne (by decide)).trans ((st_ne (by decide)).trans h15))))) ((st_ne (by decide)).trans ((st_ne (by decide)).trans ((st_ne (by decide)).trans ((st_ne (by decide)).trans ((st_ne (by decide)).trans h17))))) ((st_ne (by decide)).trans ((st_ne (by decide)).trans ((st_ne (by decide)).trans ((st_ne (by decide)).trans ((st_ne (by decide)).trans h19))))) ((st_ne (by decide)).trans ((st_ne (by decide)).trans ((st_ne (by decide)).trans ((st_ne (by decide)).trans ((st_ne (by decide)).trans h21))))) ((st_ne (by decide)).trans ((st_ne (by decide)).trans ((st_ne (by decide)).trans ((st_ne (by decide)).trans ((st_ne (by decide)).trans h23))))) ((st_ne (by decide)).trans ((st_ne (by decide)).trans ((st_ne (by decide)).trans ((st_ne (by decide)).trans ((st_ne (by decide)).trans h25))))) ((st_ne (by decide)).trans ((st_ne (by decide)).trans ((st_ne (by decide)).trans ((st_ne (by decide)).trans ((st_ne (by decide)).trans h27))))) ((st_ne (by decide)).trans ((st_ne (by decide)).trans ((st_ne (by decide)).trans ((st_ne (by decide)).trans ((st_ne (by decide)).trans h29))))) ((st_ne (by decide)).trans ((st_ne (by decide)).trans ((st_ne (by decide)).trans ((st_ne (by decide)).trans ((st_ne (by decide)).trans h31))))) ((st_ne (by decide)).trans ((st_ne (by decide)).trans ((st_ne (by decide)).trans ((st_ne (by decide)).trans ((st_ne (by decide)).trans h33))))) ((st_ne (by decide)).trans ((st_ne (by decide)).trans ((st_ne (by decide)).trans ((st_ne (by decide)).trans ((st_ne (by decide)).trans h35))))) ((st_ne (by decide)).trans ((st_ne (by decide)).trans ((st_ne (by decide)).trans ((st_ne (by decide)).trans ((st_ne (by decide)).trans h37))))) ((st_ne (by decide)).trans ((st_ne (by decide)).trans ((st_ne (by decide)).trans ((st_ne (by decide)).trans ((st_ne (by decide)).trans h39))))) ((st_ne (by decide)).trans ((st_ne (by decide)).trans ((st_ne (by decide)).trans ((st_ne (by decide)).trans ((st_ne (by decide)).trans h41))))) ((st_ne (by decide)).trans ((st_ne (by decide)).trans ((st_ne (by decide)).trans ((st_ne (by decide)).trans ((st_ne (by decide)).trans h43))))) ((st_ne (by decide)).trans ((st_ne (by decide)).trans ((st_ne (by decide)).trans ((st_ne (by decide)).trans ((st_ne (by decide)).trans h45))))) ((st_ne (by decide)).trans ((st_ne (by decide)).trans ((st_ne (by decide)).trans ((st_ne (by decide)).trans ((st_ne (by decide)).trans h47))))) ((st_ne (by decide)).trans ((st_ne (by decide)).trans ((st_ne (by decide)).trans ((st_ne (by decide)).trans ((st_ne (by decide)).trans h49))))) ((st_ne (by decide)).trans ((st_ne (by decide)).trans ((st_ne (by decide)).trans ((st_ne (by decide)).trans ((st_ne (by decide)).trans h51))))) ((st_ne (by decide)).trans ((st_ne (by decide)).trans ((st_ne (by decide)).trans ((st_ne (by decide)).trans ((st_ne (by decide)).trans h53))))) ((st_ne (by decide)).trans ((st_ne (by decide)).trans ((st_ne (by decide)).trans ((st_ne (by decide)).trans ((st_ne (by decide)).trans h55))))) ((st_ne (by decide)).trans ((st_ne (by decide)).trans ((st_ne (by decide)).trans ((st_ne (by decide)).trans ((st_ne (by decide)).trans h0))))) (st_at)
set_option maxRecDepth 4000 in
theorem c_X12_sources_423 {l : Launch} {D : va_G} {B : Nat} {cy : Nat → ClassId} {M : Mem} (h0 : M.1 146 5 = 0) (h1 : M.1 147 0 = 0) (h2 : M.1 148 0 = 0) (h3 : M.1 147 1 = 0) (h4 : M.1 148 1 = 0) (h5 : M.1 147 2 = 0) (h6 : M.1 148 2 = 0) (h7 : M.1 147 3 = 0) (h8 : M.1 148 3 = 0) (h9 : M.1 147 4 = 0) (h10 : M.1 148 4 = 0) (h11 : M.1 147 5 = 0) (h12 : M.1 148 5 = 0) (h13 : M.1 147 6 = 0) (h14 : M.1 148 6 = 0) (h15 : M.1 147 7 = 0) (h16 : M.1 148 7 = 0) (h17 : M.1 147 8 = 0) (h18 : M.1 148 8 = 0) (h19 : M.1 147 9 = 0) (h20 : M.1 148 9 = 0) (h21 : M.1 147 10 = 0) (h22 : M.1 148 10 = 0) (h23 : M.1 147 11 = 0) (h24 : M.1 148 11 = 0) (h25 : M.1 147 12 = 0) (h26 : M.1 148 12 = 0) (h27 : M.1 147 13 = 0) (h28 : M.1 148 13 = 0) (h29 : M.1 147 14 = 0) (h30 : M.1 148 14 = 0) (h31 : M.1 147 15 = 0) (h32 : M.1 148 15 = 0) (h33 : M.1 147 16 = 0) (h34 : M.1 148 16 = 0) (h35 : M.1 147 17 = 0) (h36 : M.1 148 17 = 0) (h37 : M.1 147 18 = 0) (h38 : M.1 148 18 = 0) (h39 : M.1 147 19 = 0) (h40 : M.1 148 19 = 0) (h41 : M.1 147 20 = 0) (h42 : M.1 148 20 = 0) (h43 : M.1 147 21 = 0) (h44 : M.1 148 21 = 0) (h45 : M.1 147 22 = 0) (h46 : M.1 148 22 = 0) (h47 : M.1 147 23 = 0) (h48 : M.1 148 23 = 0) (h49 : M.1 147 24 = 0) (h50 : M.1 148 24 = 0) (h51 : M.1 147 25 = 0) (h52 : M.1 148 25 = 0) (h53 : M.1 147 26 = 0) (h54 : M.1 148 26 = 0) (h55 : M.1 147 27 = 0) (h56 : M.1 148 27 = 0) (h57 : M.1 157 0 = 0) (h58 : M.1 157 1 = 0) (h59 : M.1 157 2 = 0) (h60 : M.1 157 3 = 0) (h61 : M.1 157 4 = 0) (h62 : M.1 157 5 = 0) (h63 : M.1 157 6 = 0) (h64 : M.1 157 7 = 0) (h65 : M.1 157 8 = 0) (h66 : M.1 157 9 = 0) (h67 : M.1 157 10 = 0) (h68 : M.1 157 11 = 0) (h69 : M.1 146 26 = 0) : Ci l D B cy yX12_sources cX12_sources 2 (some .int) 4 92 [.ref (B + 146), .int 3] M (fun r _ => r = 27) := by
  refine s_any (by decide) (Nat.le_of_ble_eq_true rfl) ?_
  intro p e s m below meth c ls F hr hlocks w hl
  have F : CallFix p m c cX12_sources 2 s _ TB RX12 := F
  have hx := F.1
  have hb := F.2.1
  have hl : lv_has ls 2 [(0, .ref (B + 146)), (1, .int 3)] := hl
  refine lv_iload_n hx hb dX12_sources_0 rfl (lv_at hl 1 rfl) ?_
  refine lv_iconst (v := 0) hx hb dX12_sources_1 (by decide) ?_
  refine lv_bipush (v := 6) hx hb dX12_sources_2 (by decide) ?_
  refine x_Si F w (As := [.int 3, .int 0, .int 6]) (rest := []) (c_X12_in_418) gs_X12_55 hs_X12_in ⟨Nat.le_of_ble_eq_true rfl, Nat.le_of_ble_eq_true rfl⟩ hl.1 rfl (Nat.le_of_ble_eq_true rfl) ⟨Nat.zero_le _, Nat.zero_le _⟩ dX12_sources_4 (fun H locs w => ?_)
  refine lv_if_eq (tgt := 18) hx hb dX12_sources_7 (by decide) (fun c1 => absurd c1 (by decide)) (fun _ => ?_)
  refine lv_aload_n hx hb dX12_sources_10 rfl (lv_at hl 0 rfl) ?_
  refine lv_iload_n hx hb dX12_sources_11 rfl (lv_at hl 1 rfl) ?_
  refine k_Vi F w (As := [.int 3]) (rest := []) (a := 146) (by decide) (sh_12 rfl _ _) rfl (c_X12_sourcesBy_422 (h0) (h1) (h2) (h3) (h4) (h5) (h6) (h7) (h8) (h9) (h10) (h11) (h12) (h13) (h14) (h15) (h16) (h17) (h18) (h19) (h20) (h21) (h22) (h23) (h24) (h25) (h26) (h27) (h28) (h29) (h30) (h31) (h32) (h33) (h34) (h35) (h36) (h37) (h38) (h39) (h40) (h41) (h42) (h43) (h44) (h45) (h46) (h47) (h48) (h49) (h50) (h51) (h52) (h53) (h54) (h55) (h56) (h57) (h58) (h59) (h60) (h61) (h62) (h63) (h64) (h65) (h66) (h67) (h68) (h69)) gv_X12_321 hv_X12_sourcesBy ⟨Nat.le_of_ble_eq_true rfl, Nat.le_of_ble_eq_true rfl⟩ hl.1 rfl (Nat.le_of_ble_eq_true rfl) ⟨Nat.zero_le _, Nat.zero_le _⟩ dX12_sources_12 (fun r M1 H locs hp w => ?_)
  obtain ⟨rfl, e0⟩ := hp
  refine lv_goto (tgt := 19) hx hb dX12_sources_15 (by decide) ?_
  exact e_i (post := fun r _ => r = 27) F w hr hlocks rfl dX12_sources_19
set_option maxRecDepth 8000 in
theorem la_26_94 {p : Program} {l : Launch} {e : Env} {s : State} {m : MethodId} {below : List Frame} {meth : Method} {c : Code} {D : va_G} {B b : Nat} {cy : Nat → ClassId} {H : Heap} {locs : List Loc} {ls : Array Slot} {xs : Nat → Int32} {Q : State → Prop} (F : CallFix p m c code 4 s #[Value.ref b] TB RL) (hX : va_X b 6 xs s s.heap) (hbl : b < s.heap.size) (hbA : ¬ B ≤ b) (w : Wd D B cy s s.heap M0 H locs) (hl : lv_has ls 4 [(3, .int 0), (2, .ref (B + 146)), (1, .ref (B + 0)), (0, .ref b)]) (x1 : xs 1 = 3) (kk : ∀ (M1 : Mem) (H1 : Heap) (locs1 : List Loc), Wd D B cy s s.heap M1 H1 locs1 → W p l e room_1 s m #[Value.ref b] below meth c H1 locs1 159 13107 Q (F0 m 1065 ls [])) : W p l e room_1 s m #[Value.ref b] below meth c H locs 159 13107 Q (F0 m 996 ls []) := by
  have hx := F.1
  have hb := F.2.1
  refine lv_aload_n hx hb dL_law_996 rfl (lv_at hl 2 rfl) ?_
  refine lv_aload_n hx hb dL_law_997 rfl (lv_at hl 3 rfl) ?_
  refine lv_iload_n hx hb dL_law_998 rfl (lv_at hl 0 rfl) ?_
  refine lv_iconst (v := 1) hx hb dL_law_999 (by decide) ?_
  refine lv_iadd hx hb dL_law_1000 ?_
  refine r_val (v := 1) (by decide) ?_
  refine va_sld hx hb hX hbl hbA w.2.2.1 (vpi (by decide) (by decide)) dL_law_1001 ?_
  refine r_val (v := 3) ((congrArg xs (show (1 : Int32).toNatClampNeg = 1 by decide)).trans x1) ?_
  refine k_Vi F w (As := [.int 3]) (rest := []) (a := 0) (by decide) (sh_11 rfl _ _) rfl (c_X11_sources_417 (rfl) (rfl) (rfl) (rfl) (rfl) (rfl) (rfl) (rfl) (rfl) (rfl) (rfl) (rfl) (rfl) (rfl) (rfl) (rfl)) gv_L_127 hv_X11_sources ⟨Nat.le_of_ble_eq_true rfl, Nat.le_of_ble_eq_true rfl⟩ hl.1 rfl (Nat.le_of_ble_eq_true rfl) ⟨Nat.le_of_ble_eq_true rfl, Nat.le_of_ble_eq_true rfl⟩ dL_law_1002 (fun r M1 H locs hp w => ?_)
  obtain ⟨rfl, e9⟩ := hp
  refine lv_aload_n hx hb dL_law_1005 rfl (lv_at hl 1 rfl) ?_
  refine lv_aload_n hx hb dL_law_1006 rfl (lv_at hl 3 rfl) ?_
  refine lv_iload_n hx hb dL_law_1007 rfl (lv_at hl 0 rfl) ?_
  refine lv_iconst (v := 1) hx hb dL_law_1008 (by decide) ?_
  refine lv_iadd hx hb dL_law_1009 ?_
  refine r_val (v := 1) (by decide) ?_
  refine va_sld hx hb hX hbl hbA w.2.2.1 (vpi (by decide) (by decide)) dL_law_1010 ?_
  refine r_val (v := 3) ((congrArg xs (show (1 : Int32).toNatClampNeg = 1 by decide)).trans x1) ?_
  refine k_Vi F w (As := [.int 3]) (rest := [.int 27]) (a := 146) (by decide) (sh_12 rfl _ _) rfl (c_X12_sources_423 ((congrFun (e9 146 (by decide)) 5).trans rfl) ((congrFun (e9 147 (by decide)) 0).trans rfl) ((congrFun (e9 148 (by decide)) 0).trans rfl) ((congrFun (e9 147 (by decide)) 1).trans rfl) ((congrFun (e9 148 (by decide)) 1).trans rfl) ((congrFun (e9 147 (by decide)) 2).trans rfl) ((congrFun (e9 148 (by decide)) 2).trans rfl) ((congrFun (e9 147 (by decide)) 3).trans rfl) ((congrFun (e9 148 (by decide)) 3).trans rfl) ((congrFun (e9 147 (by decide)) 4).trans rfl) ((congrFun (e9 148 (by decide)) 4).trans rfl) ((congrFun (e9 147 (by decide)) 5).trans rfl) ((congrFun (e9 148 (by decide)) 5).trans rfl) ((congrFun (e9 147 (by decide)) 6).trans rfl) ((congrFun (e9 148 (by decide)) 6).trans rfl) ((congrFun (e9 147 (by decide)) 7).trans rfl) ((congrFun (e9 148 (by decide)) 7).trans rfl) ((congrFun (e9 147 (by decide)) 8).trans rfl) ((congrFun (e9 148 (by decide)) 8).trans rfl) ((congrFun (e9 147 (by decide)) 9).trans rfl) ((congrFun (e9 148 (by decide)) 9).trans rfl) ((congrFun (e9 147 (by decide)) 10).trans rfl) ((congrFun (e9 148 (by decide)) 10).trans rfl) ((congrFun (e9 147 (by decide)) 11).trans rfl) ((congrFun (e9 148 (by decide)) 11).trans rfl) ((congrFun (e9 147 (by decide)) 12).trans rfl) ((congrFun (e9 148 (by decide)) 12).trans rfl) ((congrFun (e9 147 (by decide)) 13).trans rfl) ((congrFun (e9 148 (by decide)) 13).trans rfl) ((congrFun (e9 147 (by decide)) 14).trans rfl) ((congrFun (e9 148 (by decide)) 14).trans rfl) ((congrFun (e9 147 (by decide)) 15).trans rfl) ((congrFun (e9 148 (by decide)) 15).trans rfl) ((congrFun (e9 147 (by decide)) 16).trans rfl) ((congrFun (e9 148 (by decide)) 16).trans rfl) ((congrFun (e9 147 (by decide)) 17).trans rfl) ((congrFun (e9 148 (by decide)) 17).trans rfl) ((congrFun (e9 147 (by decide)) 18).trans rfl) ((congrFun (e9 148 (by decide)) 18).trans rfl) ((congrFun (e9 147 (by decide)) 19).trans rfl) ((congrFun (e9 148 (by decide)) 19).trans rfl) ((congrFun (e9 147 (by decide)) 20).trans rfl) ((congrFun (e9 148 (by decide)) 20).trans rfl) ((congrFun (e9 147 (by decide)) 21).trans rfl) ((congrFun (e9 148 (by decide)) 21).trans rfl) ((congrFun (e9 147 (by decide)) 22).trans rfl) ((congrFun (e9 148 (by decide)) 22).trans rfl) ((congrFun (e9 147 (by decide)) 23).trans rfl) ((congrFun (e9 148 (by decide)) 23).trans rfl) ((congrFun (e9 147 (by decide)) 24).trans rfl) ((congrFun (e9 148 (by decide)) 24).trans rfl) ((congrFun (e9 147 (by decide)) 25).trans rfl) ((congrFun (e9 148 (by decide)) 25).trans rfl) ((congrFun (e9 147 (by decide)) 26).trans rfl) ((congrFun (e9 148 (by decide)) 26).trans rfl) ((congrFun (e9 147 (by decide)) 27).trans rfl) ((congrFun (e9 148 (by decide)) 27).trans rfl) ((congrFun (e9 157 (by decide)) 0).trans rfl) ((congrFun (e9 157 (by decide)) 1).trans rfl) ((congrFun (e9 157 (by decide)) 2).trans rfl) ((congrFun (e9 157 (by decide)) 3).trans rfl) ((congrFun (e9 157 (by decide)) 4).trans rfl) ((congrFun (e9 157 (by decide)) 5).trans rfl) ((congrFun (e9 157 (by decide)) 6).trans rfl) ((congrFun (e9 157 (by decide)) 7).trans rfl) ((congrFun (e9 157 (by decide)) 8).trans rfl) ((congrFun (e9 157 (by decide)) 9).trans rfl) ((congrFun (e9 157 (by decide)) 10).trans rfl) ((congrFun (e9 157 (by decide)) 11).trans rfl) ((congrFun (e9 146 (by decide)) 26).trans rfl)) gv_L_130 hv_X12_sources ⟨Nat.le_of_ble_eq_true rfl, Nat.le_of_ble_eq_true rfl⟩ hl.1 rfl (Nat.le_of_ble_eq_true rfl) ⟨Nat.le_of_ble_eq_true rfl, Nat.le_of_ble_eq_true rfl⟩ dL_law_1011 (fun r M1 H locs hp w => ?_)
  obtain rfl := hp
  refine lv_icmp_eq (tgt := 1065) hx hb dL_law_1014 (by decide) (fun _ => ?_) (fun c1 => absurd c1 (by decide))
  exact kk _ _ _ w
set_option maxRecDepth 4000 in
theorem c_X9_insertTone_424 {l : Launch} {D : va_G} {B : Nat} {cy : Nat → ClassId} {M : Mem} (h0 : M.1 138 0 = 3) (h1 : M.1 140 2 = 0) (h2 : M.1 140 3 = 0) (h3 : M.1 140 1 = 0) (h4 : M.1 140 0 = 0) : Cv l D B cy yX9_insertTone cX9_insertTone 4 0 0 [.ref (B + 138), .int 0, .int 0] M (fun M1 => ∃ f, M1 = sA (st M 138 0 4) 139 f) := by
  refine s_any (by decide) (Nat.le_of_ble_eq_true rfl) ?_
  intro p e s m below meth c ls F hr hlocks w hl
  have F : CallFix p m c cX9_insertTone 4 s _ TB RX9 := F
  have hx := F.1
  have hb := F.2.1
  have hl : lv_has ls 4 [(0, .ref (B + 138)), (1, .int 0), (2, .int 0)] := hl
  refine lv_iload_n hx hb dX9_insertTone_0 rfl (lv_at hl 1 rfl) ?_
  refine lv_if_lt (tgt := 21) hx hb dX9_insertTone_1 (by decide) (fun c1 => absurd c1 (by decide)) (fun _ => ?_)
  refine lv_iload_n hx hb dX9_insertTone_4 rfl (lv_at hl 1 rfl) ?_
  refine lv_aload_n hx hb dX9_insertTone_5 rfl (lv_at hl 0 rfl) ?_
  refine f_9_0 F w (a := 138) rfl tb_63 dX9_insertTone_6 ?_
  refine r_val (v := 3) (h0) ?_
  refine lv_icmp_gt (tgt := 21) hx hb dX9_insertTone_9 (by decide) (fun c1 => absurd c1 (by decide)) (fun _ => ?_)
  refine lv_aload_n hx hb dX9_insertTone_12 rfl (lv_at hl 0 rfl) ?_
  refine f_9_0 F w (a := 138) rfl tb_63 dX9_insertTone_13 ?_
  refine r_val (v := 3) (h0) ?_
  refine lv_bipush (v := 12) hx hb dX9_insertTone_16 (by decide) ?_
  refine lv_icmp_lt (tgt := 22) hx hb dX9_insertTone_18 (by decide) (fun _ => ?_) (fun c1 => absurd c1 (by decide))
  refine lv_aload_n hx hb dX9_insertTone_22 rfl (lv_at hl 0 rfl) ?_
  refine f_9_0 F w (a := 138) rfl tb_63 dX9_insertTone_23 ?_
  refine r_val (v := 3) (h0) ?_
  refine lv_istore_n (lv' := [(3, .int 3), (0, .ref (B + 138)), (1, .int 0), (2, .int 0)]) hx hb dX9_insertTone_26 rfl hl (by decide) rfl (fun ls hl => ?_)
  refine lv_iload_n hx hb dX9_insertTone_27 rfl (lv_at hl 0 rfl) ?_
  refine lv_iload_n hx hb dX9_insertTone_28 rfl (lv_at hl 2 rfl) ?_
  refine lv_icmp_le (tgt := 66) hx hb dX9_insertTone_29 (by decide) (fun c1 => absurd c1 (by decide)) (fun _ => ?_)
  refine lv_aload_n hx hb dX9_insertTone_32 rfl (lv_at hl 1 rfl) ?_
  refine f_9_4 F w (a := 138) rfl tb_67 dX9_insertTone_33 ?_
  refine lv_iload_n hx hb dX9_insertTone_36 rfl (lv_at hl 0 rfl) ?_
  refine lv_aload_n hx hb dX9_insertTone_37 rfl (lv_at hl 1 rfl) ?_
  refine f_9_4 F w (a := 138) rfl tb_67 dX9_insertTone_38 ?_
  refine lv_iload_n hx hb dX9_insertTone_41 rfl (lv_at hl 0 rfl) ?_
  refine lv_iconst (v := 1) hx hb dX9_insertTone_42 (by decide) ?_
  refine lv_isub hx hb dX9_insertTone_43 ?_
  refine r_val (v := 2) (by decide) ?_
  refine g_iald F w (a := 139) rfl (j := 2) ⟨by decide, by decide⟩ (by decide) dX9_insertTone_44 ?_
  refine lv_topi (fun v21 _ => ?_)
  refine g_iast F w (a := 139) rfl (j := 3) ⟨by decide, by decide⟩ (by decide) dX9_insertTone_45 (fun H locs w => ?_)
  obtain ⟨f22, w⟩ := hv_some w
  refine lv_aload_n hx hb dX9_insertTone_46 rfl (lv_at hl 1 rfl) ?_
  refine f_9_5 F w (a := 138) rfl tb_68 dX9_insertTone_47 ?_
  refine lv_iload_n hx hb dX9_insertTone_50 rfl (lv_at hl 0 rfl) ?_
  refine lv_aload_n hx hb dX9_insertTone_51 rfl (lv_at hl 1 rfl) ?_
  refine f_9_5 F w (a := 138) rfl tb_68 dX9_insertTone_52 ?_
  refine lv_iload_n hx hb dX9_insertTone_55 rfl (lv_at hl 0 rfl) ?_
  refine lv_iconst (v := 1) hx hb dX9_insertTone_56 (by decide) ?_
  refine lv_isub hx hb dX9_insertTone_57 ?_
  refine r_val (v := 2) (by decide) ?_
  refine g_iald F w (a := 140) rfl (j := 2) ⟨by decide, by decide⟩ (by decide) dX9_insertTone_58 ?_
  refine r_val (v := 0) ((sA_ne (by decide)).trans h1) ?_
  refine g_iast F w (a := 140) rfl (j := 3) ⟨by decide, by decide⟩ (by decide) dX9_insertTone_59 (fun H locs w => ?_)
  rw [st_same ((sA_ne (by decide)).trans h2)] at w
  refine lv_iinc (v := 2) (lv' := [(3, .int 2), (0, .ref (B + 138)), (1, .int 0), (2, .int 0)]) hx hb dX9_insertTone_60 hl (k := 0) rfl (by decide) (by decide) rfl (fun ls hl => ?_)
  refine lv_goto (tgt := 27) hx hb dX9_insertTone_63 (by decide) ?_
  refine lv_iload_n hx hb dX9_insertTone_27 rfl (lv_at hl 0 rfl) ?_
  refine lv_iload_n hx hb dX9_insertTone_28 rfl (lv_at hl 2 rfl) ?_
  refine lv_icmp_le (tgt := 66) hx hb dX9_insertTone_29 (by decide) (fun c1 => absurd c1 (by decide)) (fun _ => ?_)
  refine lv_aload_n hx hb dX9_insertTone_32 rfl (lv_at hl 1 rfl) ?_
  refine f_9_4 F w (a := 138) rfl tb_67 dX9_insertTone_33 ?_
  refine lv_iload_n hx hb dX9_insertTone_36 rfl (lv_at hl 0 rfl) ?_
  refine lv_aload_n hx hb dX9_insertTone_37 rfl (lv_at hl 1 rfl) ?_
  refine f_9_4 F w (a := 138) rfl tb_67 dX9_insertTone_38 ?_
  refine lv_iload_n hx hb dX9_insertTone_41 rfl (lv_at hl 0 rfl) ?_
  refine lv_iconst (v := 1) hx hb dX9_insertTone_42 (by decide) ?_
  refine lv_isub hx hb dX9_insertTone_43 ?_
  refine r_val (v := 1) (by decide) ?_
  refine g_iald F w (a := 139) rfl (j := 1) ⟨by decide, by decide⟩ (by decide) dX9_insertTone_44 ?_
  refine lv_topi (fun v23 _ => ?_)
  refine g_iast F w (a := 139) rfl (j := 2) ⟨by decide, by decide⟩ (by decide) dX9_insertTone_45 (fun H locs w => ?_)
  obtain ⟨f24, w⟩ := hv_some w
  refine lv_aload_n hx hb dX9_insertTone_46 rfl (lv_at hl 1 rfl) ?_
  refine f_9_5 F w (a := 138) rfl tb_68 dX9_insertTone_47 ?_
  refine lv_iload_n hx hb dX9_insertTone_50 rfl (lv_at hl 0 rfl) ?_
  refine lv_aload_n hx hb dX9_insertTone_51 rfl (lv_at hl 1 rfl) ?_
  refine f_9_5 F w (a := 138) rfl tb_68 dX9_insertTone_52 ?_
  refine lv_iload_n hx hb dX9_insertTone_55 rfl (lv_at hl 0 rfl) ?_
  refine lv_iconst (v := 1) hx hb dX9_insertTone_56 (by decide) ?_
  refine lv_isub hx hb dX9_insertTone_57 ?_
  refine r_val (v := 1) (by decide) ?_
  refine g_iald F w (a := 140) rfl (j := 1) ⟨by decide, by decide⟩ (by decide) dX9_insertTone_58 ?_
  refine r_val (v := 0) ((sA_ne (by decide)).trans ((sA_ne (by decide)).trans h3)) ?_
  refine g_iast F w (a := 140) rfl (j := 2) ⟨by decide, by decide⟩ (by decide) dX9_insertTone_59 (fun H locs w => ?_)
  rw [st_same ((sA_ne (by decide)).trans ((sA_ne (by decide)).trans h1))] at w
  refine lv_iinc (v := 1) (lv' := [(3, .int 1), (0, .ref (B + 138)), (1, .int 0), (2, .int 0)]) hx hb dX9_insertTone_60 hl (k := 0) rfl (by decide) (by decide) rfl (fun ls hl => ?_)
  refine lv_goto (tgt := 27) hx hb dX9_insertTone_63 (by decide) ?_
  refine lv_iload_n hx hb dX9_insertTone_27 rfl (lv_at hl 0 rfl) ?_
  refine lv_iload_n hx hb dX9_insertTone_28 rfl (lv_at hl 2 rfl) ?_
  refine lv_icmp_le (tgt := 66) hx hb dX9_insertTone_29 (by decide) (fun c1 => absurd c1 (by decide)) (fun _ => ?_)
  refine lv_aload_n hx hb dX9_insertTone_32 rfl (lv_at hl 1 rfl) ?_
  refine f_9_4 F w (a := 138) rfl tb_67 dX9_insertTone_33 ?_
  refine lv_iload_n hx hb dX9_insertTone_36 rfl (lv_at hl 0 rfl) ?_
  refine lv_aload_n hx hb dX9_insertTone_37 rfl (lv_at hl 1 rfl) ?_
  refine f_9_4 F w (a := 138) rfl tb_67 dX9_insertTone_38 ?_
  refine lv_iload_n hx hb dX9_insertTone_41 rfl (lv_at hl 0 rfl) ?_
  refine lv_iconst (v := 1) hx hb dX9_insertTone_42 (by decide) ?_
  refine lv_isub hx hb dX9_insertTone_43 ?_
  refine r_val (v := 0) (by decide) ?_
  refine g_iald F w (a := 139) rfl (j := 0) ⟨by decide, by decide⟩ (by decide) dX9_insertTone_44 ?_
  refine lv_topi (fun v25 _ => ?_)
  refine g_iast F w (a := 139) rfl (j := 1) ⟨by decide, by decide⟩ (by decide) dX9_insertTone_45 (fun H locs w => ?_)
  obtain ⟨f26, w⟩ := hv_some w
  refine lv_aload_n hx hb dX9_insertTone_46 rfl (lv_at hl 1 rfl) ?_
  refine f_9_5 F w (a := 138) rfl tb_68 dX9_insertTone_47 ?_
  refine lv_iload_n hx hb dX9_insertTone_50 rfl (lv_at hl 0 rfl) ?_
  refine lv_aload_n hx hb dX9_insertTone_51 rfl (lv_at hl 1 rfl) ?_
  refine f_9_5 F w (a := 138) rfl tb_68 dX9_insertTone_52 ?_
  refine lv_iload_n hx hb dX9_insertTone_55 rfl (lv_at hl 0 rfl) ?_
  refine lv_iconst (v := 1) hx hb dX9_insertTone_56 (by decide) ?_
  refine lv_isub hx hb dX9_insertTone_57 ?_
  refine r_val (v := 0) (by decide) ?_
  refine g_iald F w (a := 140) rfl (j := 0) ⟨by decide, by decide⟩ (by decide) dX9_insertTone_58 ?_
  refine r_val (v := 0) ((sA_ne (by decide)).trans ((sA_ne (by decide)).trans ((sA_ne (by decide)).trans h4))) ?_
  refine g_iast F w (a := 140) rfl (j := 1) ⟨by decide, by decide⟩ (by decide) dX9_insertTone_59 (fun H locs w => ?_)
  rw [st_same ((sA_ne (by decide)).trans ((sA_ne (by decide)).trans ((sA_ne (by decide)).trans h3)))] at w
  refine lv_iinc (v := 0) (lv' := [(3, .int 0), (0, .ref (B + 138)), (1, .int 0), (2, .int 0)]) hx hb dX9_insertTone_60 hl (k := 0) rfl (by decide) (by decide) rfl (fun ls hl => ?_)
  refine lv_goto (tgt := 27) hx hb dX9_insertTone_63 (by decide) ?_
  refine lv_iload_n hx hb dX9_insertTone_27 rfl (lv_at hl 0 rfl) ?_
  refine lv_iload_n hx hb dX9_insertTone_28 rfl (lv_at hl 2 rfl) ?_
  refine lv_icmp_le (tgt := 66) hx hb dX9_insertTone_29 (by decide) (fun _ => ?_) (fun c1 => absurd c1 (by decide))
  refine lv_aload_n hx hb dX9_insertTone_66 rfl (lv_at hl 1 rfl) ?_
  refine f_9_4 F w (a := 138) rfl tb_67 dX9_insertTone_67 ?_
  refine lv_iload_n hx hb dX9_insertTone_70 rfl (lv_at hl 2 rfl) ?_
  refine lv_iload_n hx hb dX9_insertTone_71 rfl (lv_at hl 3 rfl) ?_
  refine g_iast F w (a := 139) rfl (j := 0) ⟨by decide, by decide⟩ (by decide) dX9_insertTone_72 (fun H locs w => ?_)
  obtain ⟨f27, w⟩ := hv_some w
  refine lv_aload_n hx hb dX9_insertTone_73 rfl (lv_at hl 1 rfl) ?_
  refine f_9_5 F w (a := 138) rfl tb_68 dX9_insertTone_74 ?_
  refine lv_iload_n hx hb dX9_insertTone_77 rfl (lv_at hl 2 rfl) ?_
  refine lv_iconst (v := 0) hx hb dX9_insertTone_78 (by decide) ?_
  refine g_iast F w (a := 140) rfl (j := 0) ⟨by decide, by decide⟩ (by decide) dX9_insertTone_79 (fun H locs w => ?_)
  rw [st_same ((sA_ne (by decide)).trans ((sA_ne (by decide)).trans ((sA_ne (by decide)).trans ((sA_ne (by decide)).trans h4))))] at w
  refine lv_aload_n hx hb dX9_insertTone_80 rfl (lv_at hl 1 rfl) ?_
  refine lv_dup hx hb dX9_insertTone_81 rfl ?_
  refine f_9_0 F w (a := 138) rfl tb_63 dX9_insertTone_82 ?_
  refine r_val (v := 3) ((sA_ne (by decide)).trans ((sA_ne (by decide)).trans ((sA_ne (by decide)).trans ((sA_ne (by decide)).trans h0)))) ?_
  refine lv_iconst (v := 1) hx hb dX9_insertTone_85 (by decide) ?_
  refine lv_iadd hx hb dX9_insertTone_86 ?_
  refine r_val (v := 4) (by decide) ?_
  refine u_9_0 F w (a := 138) rfl tb_63 dX9_insertTone_87 (fun H locs w => ?_)
  exact e_v F w hr hlocks ⟨_, hv_ext (a := 139) (fun b hb => by simp [st, sA, hb]) rfl⟩ dX9_insertTone_90
