theorem udX12_readsSyllables_4 : decode cX12_readsSyllables 4 = .ok (.aload_n 0, 1) := dq0 kk_42 (by decide +kernel)
theorem udX12_readsSyllables_5 : decode cX12_readsSyllables 5 = .ok (.invokevirtual 175, 3) := dqV kk_182 (by decide +kernel)
theorem udX12_readsSyllables_8 : decode cX12_readsSyllables 8 = .ok (.bipush 47, 2) := dqS kk_16 (by decide +kernel)
theorem udX12_readsSyllables_10 : decode cX12_readsSyllables 10 = .ok (.if_icmp .eq 133, 3) := dqT kk_159 (by decide +kernel)
theorem udX12_readsSyllables_13 : decode cX12_readsSyllables 13 = .ok (.aload_n 0, 1) := dq0 kk_42 (by decide +kernel)
theorem udX12_readsSyllables_14 : decode cX12_readsSyllables 14 = .ok (.invokevirtual 175, 3) := dqV kk_182 (by decide +kernel)
theorem udX12_readsSyllables_17 : decode cX12_readsSyllables 17 = .ok (.bipush 45, 2) := dqS kk_16 (by decide +kernel)
theorem udX12_readsSyllables_19 : decode cX12_readsSyllables 19 = .ok (.if_icmp .ne 7, 3) := dqT kk_160 (by decide +kernel)
theorem udX12_readsSyllables_26 : decode cX12_readsSyllables 26 = .ok (.iconst 0, 1) := dq0 kk_3 (by decide +kernel)
theorem udX12_readsSyllables_27 : decode cX12_readsSyllables 27 = .ok (.istore_n 1, 1) := dq0 kk_60 (by decide +kernel)
theorem udX12_readsSyllables_28 : decode cX12_readsSyllables 28 = .ok (.iload_n 1, 1) := dq0 kk_27 (by decide +kernel)
theorem udX12_readsSyllables_29 : decode cX12_readsSyllables 29 = .ok (.ifCond .eq 17, 3) := dqT kk_153 (by decide +kernel)
theorem udX12_readsSyllables_46 : decode cX12_readsSyllables 46 = .ok (.aload_n 0, 1) := dq0 kk_42 (by decide +kernel)
theorem udX12_readsSyllables_47 : decode cX12_readsSyllables 47 = .ok (.invokevirtual 175, 3) := dqV kk_182 (by decide +kernel)
theorem udX12_readsSyllables_50 : decode cX12_readsSyllables 50 = .ok (.istore_n 2, 1) := dq0 kk_61 (by decide +kernel)
theorem udX12_readsSyllables_51 : decode cX12_readsSyllables 51 = .ok (.aload_n 0, 1) := dq0 kk_42 (by decide +kernel)
theorem udX12_readsSyllables_52 : decode cX12_readsSyllables 52 = .ok (.getfield 26, 3) := dqV kk_180 (by decide +kernel)
theorem udX12_readsSyllables_55 : decode cX12_readsSyllables 55 = .ok (.bipush 25, 2) := dqS kk_16 (by decide +kernel)
theorem udX12_readsSyllables_57 : decode cX12_readsSyllables 57 = .ok (.iaload, 1) := dq0 kk_46 (by decide +kernel)
theorem udX12_readsSyllables_58 : decode cX12_readsSyllables 58 = .ok (.istore_n 3, 1) := dq0 kk_62 (by decide +kernel)
theorem udX12_readsSyllables_59 : decode cX12_readsSyllables 59 = .ok (.iload_n 2, 1) := dq0 kk_28 (by decide +kernel)
theorem udX12_readsSyllables_60 : decode cX12_readsSyllables 60 = .ok (.bipush 111, 2) := dqS kk_16 (by decide +kernel)
theorem udX12_readsSyllables_62 : decode cX12_readsSyllables 62 = .ok (.if_icmp .eq 9, 3) := dqT kk_159 (by decide +kernel)
theorem udX12_readsSyllables_71 : decode cX12_readsSyllables 71 = .ok (.iload_n 3, 1) := dq0 kk_29 (by decide +kernel)
theorem udX12_readsSyllables_72 : decode cX12_readsSyllables 72 = .ok (.bipush 12, 2) := dqS kk_16 (by decide +kernel)
theorem udX12_readsSyllables_74 : decode cX12_readsSyllables 74 = .ok (.if_icmp .ne 5, 3) := dqT kk_160 (by decide +kernel)
theorem udX12_readsSyllables_79 : decode cX12_readsSyllables 79 = .ok (.iload_n 2, 1) := dq0 kk_28 (by decide +kernel)
theorem udX12_readsSyllables_80 : decode cX12_readsSyllables 80 = .ok (.bipush 79, 2) := dqS kk_16 (by decide +kernel)
theorem udX12_readsSyllables_82 : decode cX12_readsSyllables 82 = .ok (.if_icmp .ne 16, 3) := dqT kk_160 (by decide +kernel)
theorem udX12_readsSyllables_98 : decode cX12_readsSyllables 98 = .ok (.iload_n 1, 1) := dq0 kk_27 (by decide +kernel)
theorem udX12_readsSyllables_99 : decode cX12_readsSyllables 99 = .ok (.ifCond .eq 16, 3) := dqT kk_153 (by decide +kernel)
theorem udX12_readsSyllables_115 : decode cX12_readsSyllables 115 = .ok (.aload_n 0, 1) := dq0 kk_42 (by decide +kernel)
theorem udX12_readsSyllables_116 : decode cX12_readsSyllables 116 = .ok (.getfield 26, 3) := dqV kk_180 (by decide +kernel)
theorem udX12_readsSyllables_119 : decode cX12_readsSyllables 119 = .ok (.bipush 25, 2) := dqS kk_16 (by decide +kernel)
theorem udX12_readsSyllables_121 : decode cX12_readsSyllables 121 = .ok (.dup2, 1) := dq0 kk_92 (by decide +kernel)
theorem udX12_readsSyllables_122 : decode cX12_readsSyllables 122 = .ok (.iaload, 1) := dq0 kk_46 (by decide +kernel)
theorem udX12_readsSyllables_123 : decode cX12_readsSyllables 123 = .ok (.iconst 1, 1) := dq0 kk_4 (by decide +kernel)
theorem udX12_readsSyllables_124 : decode cX12_readsSyllables 124 = .ok (.iadd, 1) := dq0 kk_96 (by decide +kernel)
theorem udX12_readsSyllables_125 : decode cX12_readsSyllables 125 = .ok (.iastore, 1) := dq0 kk_79 (by decide +kernel)
theorem udX12_readsSyllables_126 : decode cX12_readsSyllables 126 = .ok (.aload_n 0, 1) := dq0 kk_42 (by decide +kernel)
theorem udX12_readsSyllables_127 : decode cX12_readsSyllables 127 = .ok (.dup, 1) := dq0 kk_89 (by decide +kernel)
theorem udX12_readsSyllables_128 : decode cX12_readsSyllables 128 = .ok (.getfield 172, 3) := dqV kk_180 (by decide +kernel)
theorem udX12_readsSyllables_131 : decode cX12_readsSyllables 131 = .ok (.iconst 1, 1) := dq0 kk_4 (by decide +kernel)
theorem udX12_readsSyllables_132 : decode cX12_readsSyllables 132 = .ok (.iadd, 1) := dq0 kk_96 (by decide +kernel)
theorem udX12_readsSyllables_133 : decode cX12_readsSyllables 133 = .ok (.putfield 172, 3) := dqV kk_181 (by decide +kernel)
theorem udX12_readsSyllables_136 : decode cX12_readsSyllables 136 = .ok (.aload_n 0, 1) := dq0 kk_42 (by decide +kernel)
theorem udX12_readsSyllables_137 : decode cX12_readsSyllables 137 = .ok (.invokevirtual 179, 3) := dqV kk_182 (by decide +kernel)
theorem udX12_readsSyllables_140 : decode cX12_readsSyllables 140 = .ok (.goto (-136), 3) := dqT kk_167 (by decide +kernel)
theorem udX12_readsSyllables_85 : decode cX12_readsSyllables 85 = .ok (.aload_n 0, 1) := dq0 kk_42 (by decide +kernel)
theorem udX12_readsSyllables_86 : decode cX12_readsSyllables 86 = .ok (.getfield 26, 3) := dqV kk_180 (by decide +kernel)
theorem udX12_readsSyllables_89 : decode cX12_readsSyllables 89 = .ok (.bipush 26, 2) := dqS kk_16 (by decide +kernel)
theorem udX12_readsSyllables_91 : decode cX12_readsSyllables 91 = .ok (.dup2, 1) := dq0 kk_92 (by decide +kernel)
theorem udX12_readsSyllables_92 : decode cX12_readsSyllables 92 = .ok (.iaload, 1) := dq0 kk_46 (by decide +kernel)
theorem udX12_readsSyllables_93 : decode cX12_readsSyllables 93 = .ok (.iconst 1, 1) := dq0 kk_4 (by decide +kernel)
theorem udX12_readsSyllables_94 : decode cX12_readsSyllables 94 = .ok (.iload_n 3, 1) := dq0 kk_29 (by decide +kernel)
theorem udX12_readsSyllables_95 : decode cX12_readsSyllables 95 = .ok (.ishl, 1) := dq0 kk_120 (by decide +kernel)
theorem udX12_readsSyllables_96 : decode cX12_readsSyllables 96 = .ok (.ior, 1) := dq0 kk_128 (by decide +kernel)
theorem udX12_readsSyllables_97 : decode cX12_readsSyllables 97 = .ok (.iastore, 1) := dq0 kk_79 (by decide +kernel)
theorem udX12_readsSyllables_77 : decode cX12_readsSyllables 77 = .ok (.iconst 0, 1) := dq0 kk_3 (by decide +kernel)
theorem udX12_readsSyllables_78 : decode cX12_readsSyllables 78 = .ok (.ireturn, 1) := dq0 kk_172 (by decide +kernel)
theorem udX12_readsSyllables_65 : decode cX12_readsSyllables 65 = .ok (.iload_n 2, 1) := dq0 kk_28 (by decide +kernel)
theorem udX12_readsSyllables_66 : decode cX12_readsSyllables 66 = .ok (.bipush 79, 2) := dqS kk_16 (by decide +kernel)
theorem udX12_readsSyllables_68 : decode cX12_readsSyllables 68 = .ok (.if_icmp .ne 9, 3) := dqT kk_160 (by decide +kernel)
theorem udX12_readsSyllables_22 : decode cX12_readsSyllables 22 = .ok (.iconst 1, 1) := dq0 kk_4 (by decide +kernel)
theorem udX12_readsSyllables_23 : decode cX12_readsSyllables 23 = .ok (.goto 4, 3) := dqT kk_167 (by decide +kernel)
theorem udX12_readsSyllables_32 : decode cX12_readsSyllables 32 = .ok (.aload_n 0, 1) := dq0 kk_42 (by decide +kernel)
theorem udX12_readsSyllables_33 : decode cX12_readsSyllables 33 = .ok (.dup, 1) := dq0 kk_89 (by decide +kernel)
theorem udX12_readsSyllables_34 : decode cX12_readsSyllables 34 = .ok (.getfield 172, 3) := dqV kk_180 (by decide +kernel)
theorem udX12_readsSyllables_37 : decode cX12_readsSyllables 37 = .ok (.iconst 1, 1) := dq0 kk_4 (by decide +kernel)
theorem udX12_readsSyllables_38 : decode cX12_readsSyllables 38 = .ok (.iadd, 1) := dq0 kk_96 (by decide +kernel)
theorem udX12_readsSyllables_39 : decode cX12_readsSyllables 39 = .ok (.putfield 172, 3) := dqV kk_181 (by decide +kernel)
theorem udX12_readsSyllables_42 : decode cX12_readsSyllables 42 = .ok (.aload_n 0, 1) := dq0 kk_42 (by decide +kernel)
theorem udX12_readsSyllables_43 : decode cX12_readsSyllables 43 = .ok (.invokevirtual 179, 3) := dqV kk_182 (by decide +kernel)
theorem udX12_readsSyllables_102 : decode cX12_readsSyllables 102 = .ok (.aload_n 0, 1) := dq0 kk_42 (by decide +kernel)
theorem udX12_readsSyllables_103 : decode cX12_readsSyllables 103 = .ok (.getfield 26, 3) := dqV kk_180 (by decide +kernel)
theorem udX12_readsSyllables_106 : decode cX12_readsSyllables 106 = .ok (.bipush 27, 2) := dqS kk_16 (by decide +kernel)
theorem udX12_readsSyllables_108 : decode cX12_readsSyllables 108 = .ok (.dup2, 1) := dq0 kk_92 (by decide +kernel)
theorem udX12_readsSyllables_109 : decode cX12_readsSyllables 109 = .ok (.iaload, 1) := dq0 kk_46 (by decide +kernel)
theorem udX12_readsSyllables_110 : decode cX12_readsSyllables 110 = .ok (.iconst 1, 1) := dq0 kk_4 (by decide +kernel)
theorem udX12_readsSyllables_111 : decode cX12_readsSyllables 111 = .ok (.iload_n 3, 1) := dq0 kk_29 (by decide +kernel)
theorem udX12_readsSyllables_112 : decode cX12_readsSyllables 112 = .ok (.ishl, 1) := dq0 kk_120 (by decide +kernel)
theorem udX12_readsSyllables_113 : decode cX12_readsSyllables 113 = .ok (.ior, 1) := dq0 kk_128 (by decide +kernel)
theorem udX12_readsSyllables_114 : decode cX12_readsSyllables 114 = .ok (.iastore, 1) := dq0 kk_79 (by decide +kernel)
set_option maxRecDepth 4000 in
theorem lp_X12_rsyl {p : Program} {l : Launch} {e : Env} {s : State} {m : MethodId} {args : Array Value} {below : List Frame} {meth : Method} {c : Code} {D : va_G} {B : Nat} {cy : Nat → ClassId}  {M : Mem} {R : Room} {T : Nat → Nat} {tn b : Nat} {y : Sy} {o : Wo} (F : CallFix p m c cX12_readsSyllables 4 s args TB RX12) (hr : meth.sig.returnType = (some .boolean)) (hlocks : meth.locks = false) (hR1 : 2 ≤ R.frames) (hR2 : 40 ≤ R.locals) (hT : okT T tn) (kk : ∀ (i : Nat) (Nm : Mem) (y1 : Sy) (fu : Nat) (H : Heap) (locs : List Loc) (ls : Array Slot), (rsF T tn 301 (sk T tn b) 0 y = some (i + 1, y1)) → (ES Nm T tn i y1 o) → (FrE Nm M) → (i < tn) → Wd D B cy s s.heap Nm H locs → lv_has ls 4 [(0, .ref (B + 146))] → W p l e R s m args below meth c H locs 0 0 (MQ below (va_Qi (fun r M1 => ESQ T tn (rsF T tn 301 (sk T tn b) 0 y) o M r M1) (fun M2 t2 => Wp D B cy M2 t2) (fun q2 => B ≤ q2)) args s 0 0 (fun q2 => B ≤ q2)) (F0 m 143 ls [])) : ∀ (f : Nat) (i : Nat) (Nm : Mem) (y1 : Sy) (fu : Nat), (ES Nm T tn i y1 o) → (rsF T tn fu i 0 y1 = rsF T tn 301 (sk T tn b) 0 y) → (FrE Nm M) → (tn < i + fu) → (tn ≤ i + f) → ∀ (H : Heap) (locs : List Loc) (ls : Array Slot), Wd D B cy s s.heap Nm H locs → lv_has ls 4 [(0, .ref (B + 146))] → W p l e R s m args below meth c H locs 0 0 (MQ below (va_Qi (fun r M1 => ESQ T tn (rsF T tn 301 (sk T tn b) 0 y) o M r M1) (fun M2 t2 => Wp D B cy M2 t2) (fun q2 => B ≤ q2)) args s 0 0 (fun q2 => B ≤ q2)) (F0 m 4 ls []) := by
  have hx := F.1
  have hb := F.2.1
  have hN := hT.1
  intro f
  induction f with
  | zero =>
    intro i Nm y1 fu i0 i1 i2 i3 hf H locs ls w hl
    have hiN := i0.2.2.1
    have hq12 := i0.2.2.2.2.1.2.1
    refine lv_aload_n hx hb udX12_readsSyllables_4 rfl (lv_at hl 0 rfl) ?_
    refine x_Vi F w (As := []) (rest := []) (a := 146) (kd_lt (a := 146) (show kd 146 = (12, 0, 0) from rfl) (by decide)) (sh_12 rfl _ _) rfl (t_here hT i0.1 (A := i) i0.2.1 (by omega)) ugv_X12_175 uhv_X12_here ⟨(by omega), (by omega)⟩ hl.1 rfl (Nat.le_of_ble_eq_true rfl) ⟨Nat.zero_le _, Nat.zero_le _⟩ udX12_readsSyllables_5 (fun H locs w => ?_)
    have hg0 := sg_rg hT (i : Int)
    have hh0 := sg_c (T := T) (N := tn) i
    have ht0 := hT.2 i
    refine lv_bipush (v := zI 47) hx hb udX12_readsSyllables_8 (by decide) ?_
    refine z_icmp_eq (tgt := 143) hx hb (by omega) (by omega) udX12_readsSyllables_10 (by decide) (fun c2 => ?_) (fun c2 => ?_)
    · exact kk i Nm y1 fu _ _ ls (i1.symm.trans (rs_s (by omega) (by omega) rfl (by omega))) i0 i2 (by omega) w (lv_sub hl [0] rfl)
    · refine lv_aload_n hx hb udX12_readsSyllables_13 rfl (lv_at hl 0 rfl) ?_
      refine x_Vi F w (As := []) (rest := []) (a := 146) (kd_lt (a := 146) (show kd 146 = (12, 0, 0) from rfl) (by decide)) (sh_12 rfl _ _) rfl (t_here hT i0.1 (A := i) i0.2.1 (by omega)) ugv_X12_175 uhv_X12_here ⟨(by omega), (by omega)⟩ hl.1 rfl (Nat.le_of_ble_eq_true rfl) ⟨Nat.zero_le _, Nat.zero_le _⟩ udX12_readsSyllables_14 (fun H locs w => ?_)
      have hg2 := sg_rg hT (i : Int)
      have hh2 := sg_c (T := T) (N := tn) i
      have ht2 := hT.2 i
      refine lv_bipush (v := zI 45) hx hb udX12_readsSyllables_17 (by decide) ?_
      refine z_icmp_ne (tgt := 26) hx hb (by omega) (by omega) udX12_readsSyllables_19 (by decide) (fun c4 => ?_) (fun c4 => ?_)
      · refine lv_iconst (v := zI 0) hx hb udX12_readsSyllables_26 rfl ?_
        refine lv_istore_n (lv' := [(1, .int (zI 0)), (0, .ref (B + 146))]) hx hb udX12_readsSyllables_27 rfl hl (by decide) rfl (fun ls hl => ?_)
        refine lv_iload_n hx hb udX12_readsSyllables_28 rfl (lv_at hl 0 rfl) ?_
        refine z_if_eq (tgt := 46) hx hb (by omega) udX12_readsSyllables_29 (by decide) (fun c5 => ?_) (fun c5 => False.elim (by omega))
        refine lv_aload_n hx hb udX12_readsSyllables_46 rfl (lv_at hl 1 rfl) ?_
        refine x_Vi F w (As := []) (rest := []) (a := 146) (kd_lt (a := 146) (show kd 146 = (12, 0, 0) from rfl) (by decide)) (sh_12 rfl _ _) rfl (t_here hT i0.1 (A := i) i0.2.1 (by omega)) ugv_X12_175 uhv_X12_here ⟨(by omega), (by omega)⟩ hl.1 rfl (Nat.le_of_ble_eq_true rfl) ⟨Nat.zero_le _, Nat.zero_le _⟩ udX12_readsSyllables_47 (fun H locs w => ?_)
        have hg5 := sg_rg hT (i : Int)
        have hh5 := sg_c (T := T) (N := tn) i
        have ht5 := hT.2 i
        refine lv_istore_n (lv' := [(2, .int (zI (sg T tn (i : Int)))), (1, .int (zI 0)), (0, .ref (B + 146))]) hx hb udX12_readsSyllables_50 rfl hl (by decide) rfl (fun ls hl => ?_)
        refine lv_aload_n hx hb udX12_readsSyllables_51 rfl (lv_at hl 2 rfl) ?_
        refine f_12_10 F w (a := 146) rfl utb_93 udX12_readsSyllables_52 ?_
        refine lv_bipush (v := zI 25) hx hb udX12_readsSyllables_55 (by decide) ?_
        refine g_iald F w (a := 151) rfl (j := 25) ⟨by decide, by decide⟩ (by omega) udX12_readsSyllables_57 ?_
        have hq6 := i0.2.2.2.2.1.2.1
        refine r_val (v := (zI ((y1.1 : Nat) : Int))) (i0.2.2.2.1.2.1) ?_
        refine lv_istore_n (lv' := [(3, .int (zI ((y1.1 : Nat) : Int))), (2, .int (zI (sg T tn (i : Int)))), (1, .int (zI 0)), (0, .ref (B + 146))]) hx hb udX12_readsSyllables_58 rfl hl (by decide) rfl (fun ls hl => ?_)
        refine lv_iload_n hx hb udX12_readsSyllables_59 rfl (lv_at hl 1 rfl) ?_
        refine lv_bipush (v := zI 111) hx hb udX12_readsSyllables_60 (by decide) ?_
        refine z_icmp_eq (tgt := 71) hx hb (by omega) (by omega) udX12_readsSyllables_62 (by decide) (fun c7 => ?_) (fun c7 => ?_)
        · refine lv_iload_n hx hb udX12_readsSyllables_71 rfl (lv_at hl 0 rfl) ?_
          refine lv_bipush (v := zI 12) hx hb udX12_readsSyllables_72 (by decide) ?_
          refine z_icmp_ne (tgt := 79) hx hb (by omega) (by omega) udX12_readsSyllables_74 (by decide) (fun c8 => ?_) (fun c8 => ?_)
          · refine lv_iload_n hx hb udX12_readsSyllables_79 rfl (lv_at hl 1 rfl) ?_
            refine lv_bipush (v := zI 79) hx hb udX12_readsSyllables_80 (by decide) ?_
            refine z_icmp_ne (tgt := 98) hx hb (by omega) (by omega) udX12_readsSyllables_82 (by decide) (fun c9 => ?_) (fun c9 => ?_)
            · refine lv_iload_n hx hb udX12_readsSyllables_98 rfl (lv_at hl 2 rfl) ?_
              refine z_if_eq (tgt := 115) hx hb (by omega) udX12_readsSyllables_99 (by decide) (fun c10 => ?_) (fun c10 => False.elim (by omega))
              refine lv_aload_n hx hb udX12_readsSyllables_115 rfl (lv_at hl 3 rfl) ?_
              refine f_12_10 F w (a := 146) rfl utb_93 udX12_readsSyllables_116 ?_
              refine lv_bipush (v := zI 25) hx hb udX12_readsSyllables_119 (by decide) ?_
              refine lv_dup2_11 hx hb udX12_readsSyllables_121 rfl rfl ?_
              refine g_iald F w (a := 151) rfl (j := 25) ⟨by decide, by decide⟩ (by omega) udX12_readsSyllables_122 ?_
              have hq10 := i0.2.2.2.2.1.2.1
              refine r_val (v := (zI ((y1.1 : Nat) : Int))) (i0.2.2.2.1.2.1) ?_
              refine lv_iconst (v := zI 1) hx hb udX12_readsSyllables_123 rfl ?_
              refine z_iadd (z := (((y1.1 + 1) : Nat) : Int)) hx hb udX12_readsSyllables_124 (by omega) ?_
              refine g_iast F w (a := 151) rfl (j := 25) ⟨by decide, by decide⟩ (by omega) udX12_readsSyllables_125 (fun H locs w => ?_)
              refine lv_aload_n hx hb udX12_readsSyllables_126 rfl (lv_at hl 3 rfl) ?_
              refine lv_dup hx hb udX12_readsSyllables_127 rfl ?_
              refine f_12_9 F w (a := 146) rfl utb_96 udX12_readsSyllables_128 ?_
              refine r_val (v := (zI (i : Int))) ((st_ne (Or.inl (by omega))).trans (i0.2.1)) ?_
              refine lv_iconst (v := zI 1) hx hb udX12_readsSyllables_131 rfl ?_
              refine z_iadd (z := (((i + 1) : Nat) : Int)) hx hb udX12_readsSyllables_132 (by omega) ?_
              refine u_12_9 F w (a := 146) rfl utb_96 udX12_readsSyllables_133 (fun H locs w => ?_)
              refine lv_aload_n hx hb udX12_readsSyllables_136 rfl (lv_at hl 3 rfl) ?_
              have hD11 : ES (st Nm 151 25 (zI (((y1.1 + 1) : Nat) : Int))) T tn i (syO y1 0 0) o := ES.w i0 Fr1.s (EW.sy i0.2.2.2 (rqW i0.2.2.2.1 i0.2.2.2.2.1.1) (sbit_id i0.2.2.2.2.2.1) (sbit_id i0.2.2.2.2.2.2) (by omega))
              have fD11 : FrE (st Nm 151 25 (zI (((y1.1 + 1) : Nat) : Int))) M := (FrE.tr i2 FrE.s)
              have hD12 : ES (st (st Nm 151 25 (zI (((y1.1 + 1) : Nat) : Int))) 146 9 (zI (((i + 1) : Nat) : Int))) T tn (i + 1) (syO y1 0 0) o := ES.at hD11 (by omega)
              have fD12 : FrE (st (st Nm 151 25 (zI (((y1.1 + 1) : Nat) : Int))) 146 9 (zI (((i + 1) : Nat) : Int))) M := FrE.tr fD11 FrE.a
              refine k_Vv F w (As := []) (rest := []) (a := 146) (kd_lt (a := 146) (show kd 146 = (12, 0, 0) from rfl) (by decide)) (sh_12 rfl _ _) rfl (t_blanks hT hD12.1 hD12.2.1 hD12.2.2.1) ugv_X12_179 uhv_X12_blanks ⟨(by omega), (by omega)⟩ hl.1 rfl (Nat.le_of_ble_eq_true rfl) ⟨Nat.zero_le _, Nat.zero_le _⟩ udX12_readsSyllables_137 (fun Ma14 H locs hp w => ?_)
              rcases hp with ⟨hB13, gB13⟩
              have hkB13 := sk_le (T := T) (N := tn) (i := (i + 1)) (by omega)
              have hDB13 : ES Ma14 T tn (sk T tn (i + 1)) (syO y1 0 0) o := ES.b hD12 gB13 hB13 (by omega)
              have fDB13 : FrE Ma14 M := FrE.tr fD12 (FrE.n9 gB13)
              refine lv_goto (tgt := 4) hx hb udX12_readsSyllables_140 (by decide) ?_
              exact False.elim (by omega)
            · refine lv_aload_n hx hb udX12_readsSyllables_85 rfl (lv_at hl 3 rfl) ?_
              refine f_12_10 F w (a := 146) rfl utb_93 udX12_readsSyllables_86 ?_
              refine lv_bipush (v := zI 26) hx hb udX12_readsSyllables_89 (by decide) ?_
              refine lv_dup2_11 hx hb udX12_readsSyllables_91 rfl rfl ?_
              refine g_iald F w (a := 151) rfl (j := 26) ⟨by decide, by decide⟩ (by omega) udX12_readsSyllables_92 ?_
              have hw14 := i0.2.2.2.wf.2.2.1
              refine r_val (v := (zI ((y1.2.1 : Nat) : Int))) (i0.2.2.2.1.2.2.1) ?_
              refine lv_iconst (v := zI 1) hx hb udX12_readsSyllables_93 rfl ?_
              refine lv_iload_n hx hb udX12_readsSyllables_94 rfl (lv_at hl 0 rfl) ?_
              refine lv_ishl hx hb udX12_readsSyllables_95 ?_
              refine r_val (v := (zI (((2 ^ y1.1) : Nat) : Int))) (zb_shl (n := y1.1) (by omega)) ?_
              have q15 := p2_b (n := y1.1) (by omega)
              refine lv_ior hx hb udX12_readsSyllables_96 ?_
              refine r_val (v := (zI (((y1.2.1 ||| (2 ^ y1.1)) : Nat) : Int))) (zb_or y1.2.1 (2 ^ y1.1)) ?_
              have q16 := or_lt12 (a := y1.2.1) (b := (2 ^ y1.1)) (by omega) (by omega)
              refine g_iast F w (a := 151) rfl (j := 26) ⟨by decide, by decide⟩ (by omega) udX12_readsSyllables_97 (fun H locs w => ?_)
              refine lv_iload_n hx hb udX12_readsSyllables_98 rfl (lv_at hl 2 rfl) ?_
              refine z_if_eq (tgt := 115) hx hb (by omega) udX12_readsSyllables_99 (by decide) (fun c17 => ?_) (fun c17 => False.elim (by omega))
              refine lv_aload_n hx hb udX12_readsSyllables_115 rfl (lv_at hl 3 rfl) ?_
              refine f_12_10 F w (a := 146) rfl utb_93 udX12_readsSyllables_116 ?_
              refine lv_bipush (v := zI 25) hx hb udX12_readsSyllables_119 (by decide) ?_
              refine lv_dup2_11 hx hb udX12_readsSyllables_121 rfl rfl ?_
              refine g_iald F w (a := 151) rfl (j := 25) ⟨by decide, by decide⟩ (by omega) udX12_readsSyllables_122 ?_
              have hq17 := i0.2.2.2.2.1.2.1
              refine r_val (v := (zI ((y1.1 : Nat) : Int))) ((st_ne (Or.inr (by omega))).trans (i0.2.2.2.1.2.1)) ?_
              refine lv_iconst (v := zI 1) hx hb udX12_readsSyllables_123 rfl ?_
              refine z_iadd (z := (((y1.1 + 1) : Nat) : Int)) hx hb udX12_readsSyllables_124 (by omega) ?_
              refine g_iast F w (a := 151) rfl (j := 25) ⟨by decide, by decide⟩ (by omega) udX12_readsSyllables_125 (fun H locs w => ?_)
              refine lv_aload_n hx hb udX12_readsSyllables_126 rfl (lv_at hl 3 rfl) ?_
              refine lv_dup hx hb udX12_readsSyllables_127 rfl ?_
              refine f_12_9 F w (a := 146) rfl utb_96 udX12_readsSyllables_128 ?_
              refine r_val (v := (zI (i : Int))) ((st_ne (Or.inl (by omega))).trans ((st_ne (Or.inl (by omega))).trans (i0.2.1))) ?_
              refine lv_iconst (v := zI 1) hx hb udX12_readsSyllables_131 rfl ?_
              refine z_iadd (z := (((i + 1) : Nat) : Int)) hx hb udX12_readsSyllables_132 (by omega) ?_
              refine u_12_9 F w (a := 146) rfl utb_96 udX12_readsSyllables_133 (fun H locs w => ?_)
              refine lv_aload_n hx hb udX12_readsSyllables_136 rfl (lv_at hl 3 rfl) ?_
              have hD19 : ES (st (st Nm 151 26 (zI (((y1.2.1 ||| (2 ^ y1.1)) : Nat) : Int))) 151 25 (zI (((y1.1 + 1) : Nat) : Int))) T tn i (syO y1 1 0) o := ES.w i0 (Fr1.tr Fr1.s Fr1.s) (EW.sy i0.2.2.2 (rqW (rhW i0.2.2.2.1 i0.2.2.2.2.1.1) i0.2.2.2.2.1.1) sbit_on (sbit_id i0.2.2.2.2.2.2) (by omega))
              have fD19 : FrE (st (st Nm 151 26 (zI (((y1.2.1 ||| (2 ^ y1.1)) : Nat) : Int))) 151 25 (zI (((y1.1 + 1) : Nat) : Int))) M := (FrE.tr (FrE.tr i2 FrE.s) FrE.s)
              have hD20 : ES (st (st (st Nm 151 26 (zI (((y1.2.1 ||| (2 ^ y1.1)) : Nat) : Int))) 151 25 (zI (((y1.1 + 1) : Nat) : Int))) 146 9 (zI (((i + 1) : Nat) : Int))) T tn (i + 1) (syO y1 1 0) o := ES.at hD19 (by omega)
              have fD20 : FrE (st (st (st Nm 151 26 (zI (((y1.2.1 ||| (2 ^ y1.1)) : Nat) : Int))) 151 25 (zI (((y1.1 + 1) : Nat) : Int))) 146 9 (zI (((i + 1) : Nat) : Int))) M := FrE.tr fD19 FrE.a
              refine k_Vv F w (As := []) (rest := []) (a := 146) (kd_lt (a := 146) (show kd 146 = (12, 0, 0) from rfl) (by decide)) (sh_12 rfl _ _) rfl (t_blanks hT hD20.1 hD20.2.1 hD20.2.2.1) ugv_X12_179 uhv_X12_blanks ⟨(by omega), (by omega)⟩ hl.1 rfl (Nat.le_of_ble_eq_true rfl) ⟨Nat.zero_le _, Nat.zero_le _⟩ udX12_readsSyllables_137 (fun Ma22 H locs hp w => ?_)
              rcases hp with ⟨hB21, gB21⟩
              have hkB21 := sk_le (T := T) (N := tn) (i := (i + 1)) (by omega)
              have hDB21 : ES Ma22 T tn (sk T tn (i + 1)) (syO y1 1 0) o := ES.b hD20 gB21 hB21 (by omega)
              have fDB21 : FrE Ma22 M := FrE.tr fD20 (FrE.n9 gB21)
              refine lv_goto (tgt := 4) hx hb udX12_readsSyllables_140 (by decide) ?_
              exact False.elim (by omega)
          · refine lv_iconst (v := zI 0) hx hb udX12_readsSyllables_77 rfl ?_
            exact e_z F w hr hlocks (nar_z (by omega)) (Or.inr ⟨i1.symm.trans (rs_g (by omega) (by omega) (by omega)), rfl, i0.o, i2⟩) udX12_readsSyllables_78
        · refine lv_iload_n hx hb udX12_readsSyllables_65 rfl (lv_at hl 1 rfl) ?_
          refine lv_bipush (v := zI 79) hx hb udX12_readsSyllables_66 (by decide) ?_
          refine z_icmp_ne (tgt := 77) hx hb (by omega) (by omega) udX12_readsSyllables_68 (by decide) (fun c23 => ?_) (fun c23 => ?_)
          · refine lv_iconst (v := zI 0) hx hb udX12_readsSyllables_77 rfl ?_
            exact e_z F w hr hlocks (nar_z (by omega)) (Or.inr ⟨i1.symm.trans (rs_g (by omega) (by omega) (by omega)), rfl, i0.o, i2⟩) udX12_readsSyllables_78
          · refine lv_iload_n hx hb udX12_readsSyllables_71 rfl (lv_at hl 0 rfl) ?_
            refine lv_bipush (v := zI 12) hx hb udX12_readsSyllables_72 (by decide) ?_
            refine z_icmp_ne (tgt := 79) hx hb (by omega) (by omega) udX12_readsSyllables_74 (by decide) (fun c24 => ?_) (fun c24 => ?_)
            · refine lv_iload_n hx hb udX12_readsSyllables_79 rfl (lv_at hl 1 rfl) ?_
              refine lv_bipush (v := zI 79) hx hb udX12_readsSyllables_80 (by decide) ?_
              refine z_icmp_ne (tgt := 98) hx hb (by omega) (by omega) udX12_readsSyllables_82 (by decide) (fun c25 => ?_) (fun c25 => ?_)
              · refine lv_iload_n hx hb udX12_readsSyllables_98 rfl (lv_at hl 2 rfl) ?_
                refine z_if_eq (tgt := 115) hx hb (by omega) udX12_readsSyllables_99 (by decide) (fun c26 => ?_) (fun c26 => False.elim (by omega))
                refine lv_aload_n hx hb udX12_readsSyllables_115 rfl (lv_at hl 3 rfl) ?_
                refine f_12_10 F w (a := 146) rfl utb_93 udX12_readsSyllables_116 ?_
                refine lv_bipush (v := zI 25) hx hb udX12_readsSyllables_119 (by decide) ?_
                refine lv_dup2_11 hx hb udX12_readsSyllables_121 rfl rfl ?_
                refine g_iald F w (a := 151) rfl (j := 25) ⟨by decide, by decide⟩ (by omega) udX12_readsSyllables_122 ?_
                have hq26 := i0.2.2.2.2.1.2.1
                refine r_val (v := (zI ((y1.1 : Nat) : Int))) (i0.2.2.2.1.2.1) ?_
                refine lv_iconst (v := zI 1) hx hb udX12_readsSyllables_123 rfl ?_
                refine z_iadd (z := (((y1.1 + 1) : Nat) : Int)) hx hb udX12_readsSyllables_124 (by omega) ?_
                refine g_iast F w (a := 151) rfl (j := 25) ⟨by decide, by decide⟩ (by omega) udX12_readsSyllables_125 (fun H locs w => ?_)
                refine lv_aload_n hx hb udX12_readsSyllables_126 rfl (lv_at hl 3 rfl) ?_
                refine lv_dup hx hb udX12_readsSyllables_127 rfl ?_
                refine f_12_9 F w (a := 146) rfl utb_96 udX12_readsSyllables_128 ?_
                refine r_val (v := (zI (i : Int))) ((st_ne (Or.inl (by omega))).trans (i0.2.1)) ?_
                refine lv_iconst (v := zI 1) hx hb udX12_readsSyllables_131 rfl ?_
                refine z_iadd (z := (((i + 1) : Nat) : Int)) hx hb udX12_readsSyllables_132 (by omega) ?_
                refine u_12_9 F w (a := 146) rfl utb_96 udX12_readsSyllables_133 (fun H locs w => ?_)
                refine lv_aload_n hx hb udX12_readsSyllables_136 rfl (lv_at hl 3 rfl) ?_
                have hD27 : ES (st Nm 151 25 (zI (((y1.1 + 1) : Nat) : Int))) T tn i (syO y1 0 0) o := ES.w i0 Fr1.s (EW.sy i0.2.2.2 (rqW i0.2.2.2.1 i0.2.2.2.2.1.1) (sbit_id i0.2.2.2.2.2.1) (sbit_id i0.2.2.2.2.2.2) (by omega))
                have fD27 : FrE (st Nm 151 25 (zI (((y1.1 + 1) : Nat) : Int))) M := (FrE.tr i2 FrE.s)
                have hD28 : ES (st (st Nm 151 25 (zI (((y1.1 + 1) : Nat) : Int))) 146 9 (zI (((i + 1) : Nat) : Int))) T tn (i + 1) (syO y1 0 0) o := ES.at hD27 (by omega)
                have fD28 : FrE (st (st Nm 151 25 (zI (((y1.1 + 1) : Nat) : Int))) 146 9 (zI (((i + 1) : Nat) : Int))) M := FrE.tr fD27 FrE.a
                refine k_Vv F w (As := []) (rest := []) (a := 146) (kd_lt (a := 146) (show kd 146 = (12, 0, 0) from rfl) (by decide)) (sh_12 rfl _ _) rfl (t_blanks hT hD28.1 hD28.2.1 hD28.2.2.1) ugv_X12_179 uhv_X12_blanks ⟨(by omega), (by omega)⟩ hl.1 rfl (Nat.le_of_ble_eq_true rfl) ⟨Nat.zero_le _, Nat.zero_le _⟩ udX12_readsSyllables_137 (fun Ma30 H locs hp w => ?_)
                rcases hp with ⟨hB29, gB29⟩
                have hkB29 := sk_le (T := T) (N := tn) (i := (i + 1)) (by omega)
                have hDB29 : ES Ma30 T tn (sk T tn (i + 1)) (syO y1 0 0) o := ES.b hD28 gB29 hB29 (by omega)
                have fDB29 : FrE Ma30 M := FrE.tr fD28 (FrE.n9 gB29)
                refine lv_goto (tgt := 4) hx hb udX12_readsSyllables_140 (by decide) ?_
                exact False.elim (by omega)
              · refine lv_aload_n hx hb udX12_readsSyllables_85 rfl (lv_at hl 3 rfl) ?_
                refine f_12_10 F w (a := 146) rfl utb_93 udX12_readsSyllables_86 ?_
                refine lv_bipush (v := zI 26) hx hb udX12_readsSyllables_89 (by decide) ?_
                refine lv_dup2_11 hx hb udX12_readsSyllables_91 rfl rfl ?_
                refine g_iald F w (a := 151) rfl (j := 26) ⟨by decide, by decide⟩ (by omega) udX12_readsSyllables_92 ?_
                have hw30 := i0.2.2.2.wf.2.2.1
                refine r_val (v := (zI ((y1.2.1 : Nat) : Int))) (i0.2.2.2.1.2.2.1) ?_
                refine lv_iconst (v := zI 1) hx hb udX12_readsSyllables_93 rfl ?_
                refine lv_iload_n hx hb udX12_readsSyllables_94 rfl (lv_at hl 0 rfl) ?_
                refine lv_ishl hx hb udX12_readsSyllables_95 ?_
                refine r_val (v := (zI (((2 ^ y1.1) : Nat) : Int))) (zb_shl (n := y1.1) (by omega)) ?_
                have q31 := p2_b (n := y1.1) (by omega)
                refine lv_ior hx hb udX12_readsSyllables_96 ?_
                refine r_val (v := (zI (((y1.2.1 ||| (2 ^ y1.1)) : Nat) : Int))) (zb_or y1.2.1 (2 ^ y1.1)) ?_
                have q32 := or_lt12 (a := y1.2.1) (b := (2 ^ y1.1)) (by omega) (by omega)
                refine g_iast F w (a := 151) rfl (j := 26) ⟨by decide, by decide⟩ (by omega) udX12_readsSyllables_97 (fun H locs w => ?_)
                refine lv_iload_n hx hb udX12_readsSyllables_98 rfl (lv_at hl 2 rfl) ?_
                refine z_if_eq (tgt := 115) hx hb (by omega) udX12_readsSyllables_99 (by decide) (fun c33 => ?_) (fun c33 => False.elim (by omega))
                refine lv_aload_n hx hb udX12_readsSyllables_115 rfl (lv_at hl 3 rfl) ?_
                refine f_12_10 F w (a := 146) rfl utb_93 udX12_readsSyllables_116 ?_
                refine lv_bipush (v := zI 25) hx hb udX12_readsSyllables_119 (by decide) ?_
                refine lv_dup2_11 hx hb udX12_readsSyllables_121 rfl rfl ?_
                refine g_iald F w (a := 151) rfl (j := 25) ⟨by decide, by decide⟩ (by omega) udX12_readsSyllables_122 ?_
                have hq33 := i0.2.2.2.2.1.2.1
                refine r_val (v := (zI ((y1.1 : Nat) : Int))) ((st_ne (Or.inr (by omega))).trans (i0.2.2.2.1.2.1)) ?_
                refine lv_iconst (v := zI 1) hx hb udX12_readsSyllables_123 rfl ?_
                refine z_iadd (z := (((y1.1 + 1) : Nat) : Int)) hx hb udX12_readsSyllables_124 (by omega) ?_
                refine g_iast F w (a := 151) rfl (j := 25) ⟨by decide, by decide⟩ (by omega) udX12_readsSyllables_125 (fun H locs w => ?_)
                refine lv_aload_n hx hb udX12_readsSyllables_126 rfl (lv_at hl 3 rfl) ?_
                refine lv_dup hx hb udX12_readsSyllables_127 rfl ?_
                refine f_12_9 F w (a := 146) rfl utb_96 udX12_readsSyllables_128 ?_
                refine r_val (v := (zI (i : Int))) ((st_ne (Or.inl (by omega))).trans ((st_ne (Or.inl (by omega))).trans (i0.2.1))) ?_
                refine lv_iconst (v := zI 1) hx hb udX12_readsSyllables_131 rfl ?_
                refine z_iadd (z := (((i + 1) : Nat) : Int)) hx hb udX12_readsSyllables_132 (by omega) ?_
                refine u_12_9 F w (a := 146) rfl utb_96 udX12_readsSyllables_133 (fun H locs w => ?_)
                refine lv_aload_n hx hb udX12_readsSyllables_136 rfl (lv_at hl 3 rfl) ?_
                have hD35 : ES (st (st Nm 151 26 (zI (((y1.2.1 ||| (2 ^ y1.1)) : Nat) : Int))) 151 25 (zI (((y1.1 + 1) : Nat) : Int))) T tn i (syO y1 1 0) o := ES.w i0 (Fr1.tr Fr1.s Fr1.s) (EW.sy i0.2.2.2 (rqW (rhW i0.2.2.2.1 i0.2.2.2.2.1.1) i0.2.2.2.2.1.1) sbit_on (sbit_id i0.2.2.2.2.2.2) (by omega))
                have fD35 : FrE (st (st Nm 151 26 (zI (((y1.2.1 ||| (2 ^ y1.1)) : Nat) : Int))) 151 25 (zI (((y1.1 + 1) : Nat) : Int))) M := (FrE.tr (FrE.tr i2 FrE.s) FrE.s)
                have hD36 : ES (st (st (st Nm 151 26 (zI (((y1.2.1 ||| (2 ^ y1.1)) : Nat) : Int))) 151 25 (zI (((y1.1 + 1) : Nat) : Int))) 146 9 (zI (((i + 1) : Nat) : Int))) T tn (i + 1) (syO y1 1 0) o := ES.at hD35 (by omega)
                have fD36 : FrE (st (st (st Nm 151 26 (zI (((y1.2.1 ||| (2 ^ y1.1)) : Nat) : Int))) 151 25 (zI (((y1.1 + 1) : Nat) : Int))) 146 9 (zI (((i + 1) : Nat) : Int))) M := FrE.tr fD35 FrE.a
                refine k_Vv F w (As := []) (rest := []) (a := 146) (kd_lt (a := 146) (show kd 146 = (12, 0, 0) from rfl) (by decide)) (sh_12 rfl _ _) rfl (t_blanks hT hD36.1 hD36.2.1 hD36.2.2.1) ugv_X12_179 uhv_X12_blanks ⟨(by omega), (by omega)⟩ hl.1 rfl (Nat.le_of_ble_eq_true rfl) ⟨Nat.zero_le _, Nat.zero_le _⟩ udX12_readsSyllables_137 (fun Ma38 H locs hp w => ?_)
                rcases hp with ⟨hB37, gB37⟩
                have hkB37 := sk_le (T := T) (N := tn) (i := (i + 1)) (by omega)
                have hDB37 : ES Ma38 T tn (sk T tn (i + 1)) (syO y1 1 0) o := ES.b hD36 gB37 hB37 (by omega)
                have fDB37 : FrE Ma38 M := FrE.tr fD36 (FrE.n9 gB37)
                refine lv_goto (tgt := 4) hx hb udX12_readsSyllables_140 (by decide) ?_
                exact False.elim (by omega)
            · refine lv_iconst (v := zI 0) hx hb udX12_readsSyllables_77 rfl ?_
              exact e_z F w hr hlocks (nar_z (by omega)) (Or.inr ⟨i1.symm.trans (rs_g (by omega) (by omega) (by omega)), rfl, i0.o, i2⟩) udX12_readsSyllables_78
      · refine lv_iconst (v := zI 1) hx hb udX12_readsSyllables_22 rfl ?_
        refine lv_goto (tgt := 27) hx hb udX12_readsSyllables_23 (by decide) ?_
        refine lv_istore_n (lv' := [(1, .int (zI 1)), (0, .ref (B + 146))]) hx hb udX12_readsSyllables_27 rfl hl (by decide) rfl (fun ls hl => ?_)
        refine lv_iload_n hx hb udX12_readsSyllables_28 rfl (lv_at hl 0 rfl) ?_
        refine z_if_eq (tgt := 46) hx hb (by omega) udX12_readsSyllables_29 (by decide) (fun c39 => False.elim (by omega)) (fun c39 => ?_)
        refine lv_aload_n hx hb udX12_readsSyllables_32 rfl (lv_at hl 1 rfl) ?_
        refine lv_dup hx hb udX12_readsSyllables_33 rfl ?_
        refine f_12_9 F w (a := 146) rfl utb_96 udX12_readsSyllables_34 ?_
        refine r_val (v := (zI (i : Int))) (i0.2.1) ?_
        refine lv_iconst (v := zI 1) hx hb udX12_readsSyllables_37 rfl ?_
        refine z_iadd (z := (((i + 1) : Nat) : Int)) hx hb udX12_readsSyllables_38 (by omega) ?_
        refine u_12_9 F w (a := 146) rfl utb_96 udX12_readsSyllables_39 (fun H locs w => ?_)
        refine lv_aload_n hx hb udX12_readsSyllables_42 rfl (lv_at hl 1 rfl) ?_
        have hD40 : ES (st Nm 146 9 (zI (((i + 1) : Nat) : Int))) T tn (i + 1) y1 o := ES.at i0 (by omega)
        have fD40 : FrE (st Nm 146 9 (zI (((i + 1) : Nat) : Int))) M := FrE.tr i2 FrE.a
        refine k_Vv F w (As := []) (rest := []) (a := 146) (kd_lt (a := 146) (show kd 146 = (12, 0, 0) from rfl) (by decide)) (sh_12 rfl _ _) rfl (t_blanks hT hD40.1 hD40.2.1 hD40.2.2.1) ugv_X12_179 uhv_X12_blanks ⟨(by omega), (by omega)⟩ hl.1 rfl (Nat.le_of_ble_eq_true rfl) ⟨Nat.zero_le _, Nat.zero_le _⟩ udX12_readsSyllables_43 (fun Ma42 H locs hp w => ?_)
        rcases hp with ⟨hB41, gB41⟩
        have hkB41 := sk_le (T := T) (N := tn) (i := (i + 1)) (by omega)
        have hDB41 : ES Ma42 T tn (sk T tn (i + 1)) y1 o := ES.b hD40 gB41 hB41 (by omega)
        have fDB41 : FrE Ma42 M := FrE.tr fD40 (FrE.n9 gB41)
        refine lv_aload_n hx hb udX12_readsSyllables_46 rfl (lv_at hl 1 rfl) ?_
        refine x_Vi F w (As := []) (rest := []) (a := 146) (kd_lt (a := 146) (show kd 146 = (12, 0, 0) from rfl) (by decide)) (sh_12 rfl _ _) rfl (t_here hT hDB41.1 (A := (sk T tn (i + 1))) hDB41.2.1 (by omega)) ugv_X12_175 uhv_X12_here ⟨(by omega), (by omega)⟩ hl.1 rfl (Nat.le_of_ble_eq_true rfl) ⟨Nat.zero_le _, Nat.zero_le _⟩ udX12_readsSyllables_47 (fun H locs w => ?_)
        have hg42 := sg_rg hT (((sk T tn (i + 1)) : Nat) : Int)
        have hh42 := sg_c (T := T) (N := tn) (sk T tn (i + 1))
        have ht42 := hT.2 (sk T tn (i + 1))
        refine lv_istore_n (lv' := [(2, .int (zI (sg T tn (((sk T tn (i + 1)) : Nat) : Int)))), (1, .int (zI 1)), (0, .ref (B + 146))]) hx hb udX12_readsSyllables_50 rfl hl (by decide) rfl (fun ls hl => ?_)
        refine lv_aload_n hx hb udX12_readsSyllables_51 rfl (lv_at hl 2 rfl) ?_
        refine f_12_10 F w (a := 146) rfl utb_93 udX12_readsSyllables_52 ?_
        refine lv_bipush (v := zI 25) hx hb udX12_readsSyllables_55 (by decide) ?_
        refine g_iald F w (a := 151) rfl (j := 25) ⟨by decide, by decide⟩ (by omega) udX12_readsSyllables_57 ?_
        have hq43 := hDB41.2.2.2.2.1.2.1
        refine r_val (v := (zI ((y1.1 : Nat) : Int))) (hDB41.2.2.2.1.2.1) ?_
        refine lv_istore_n (lv' := [(3, .int (zI ((y1.1 : Nat) : Int))), (2, .int (zI (sg T tn (((sk T tn (i + 1)) : Nat) : Int)))), (1, .int (zI 1)), (0, .ref (B + 146))]) hx hb udX12_readsSyllables_58 rfl hl (by decide) rfl (fun ls hl => ?_)
        refine lv_iload_n hx hb udX12_readsSyllables_59 rfl (lv_at hl 1 rfl) ?_
        refine lv_bipush (v := zI 111) hx hb udX12_readsSyllables_60 (by decide) ?_
        refine z_icmp_eq (tgt := 71) hx hb (by omega) (by omega) udX12_readsSyllables_62 (by decide) (fun c44 => ?_) (fun c44 => ?_)
        · refine lv_iload_n hx hb udX12_readsSyllables_71 rfl (lv_at hl 0 rfl) ?_
          refine lv_bipush (v := zI 12) hx hb udX12_readsSyllables_72 (by decide) ?_
          refine z_icmp_ne (tgt := 79) hx hb (by omega) (by omega) udX12_readsSyllables_74 (by decide) (fun c45 => ?_) (fun c45 => ?_)
          · refine lv_iload_n hx hb udX12_readsSyllables_79 rfl (lv_at hl 1 rfl) ?_
            refine lv_bipush (v := zI 79) hx hb udX12_readsSyllables_80 (by decide) ?_
            refine z_icmp_ne (tgt := 98) hx hb (by omega) (by omega) udX12_readsSyllables_82 (by decide) (fun c46 => ?_) (fun c46 => ?_)
            · refine lv_iload_n hx hb udX12_readsSyllables_98 rfl (lv_at hl 2 rfl) ?_
              refine z_if_eq (tgt := 115) hx hb (by omega) udX12_readsSyllables_99 (by decide) (fun c47 => False.elim (by omega)) (fun c47 => ?_)
              refine lv_aload_n hx hb udX12_readsSyllables_102 rfl (lv_at hl 3 rfl) ?_
              refine f_12_10 F w (a := 146) rfl utb_93 udX12_readsSyllables_103 ?_
              refine lv_bipush (v := zI 27) hx hb udX12_readsSyllables_106 (by decide) ?_
              refine lv_dup2_11 hx hb udX12_readsSyllables_108 rfl rfl ?_
              refine g_iald F w (a := 151) rfl (j := 27) ⟨by decide, by decide⟩ (by omega) udX12_readsSyllables_109 ?_
              have hw47 := hDB41.2.2.2.wf.2.2.2.1
              refine r_val (v := (zI ((y1.2.2 : Nat) : Int))) (hDB41.2.2.2.1.2.2.2.1) ?_
              refine lv_iconst (v := zI 1) hx hb udX12_readsSyllables_110 rfl ?_
              refine lv_iload_n hx hb udX12_readsSyllables_111 rfl (lv_at hl 0 rfl) ?_
              refine lv_ishl hx hb udX12_readsSyllables_112 ?_
              refine r_val (v := (zI (((2 ^ y1.1) : Nat) : Int))) (zb_shl (n := y1.1) (by omega)) ?_
              have q48 := p2_b (n := y1.1) (by omega)
              refine lv_ior hx hb udX12_readsSyllables_113 ?_
              refine r_val (v := (zI (((y1.2.2 ||| (2 ^ y1.1)) : Nat) : Int))) (zb_or y1.2.2 (2 ^ y1.1)) ?_
              have q49 := or_lt12 (a := y1.2.2) (b := (2 ^ y1.1)) (by omega) (by omega)
              refine g_iast F w (a := 151) rfl (j := 27) ⟨by decide, by decide⟩ (by omega) udX12_readsSyllables_114 (fun H locs w => ?_)
              refine lv_aload_n hx hb udX12_readsSyllables_115 rfl (lv_at hl 3 rfl) ?_
              refine f_12_10 F w (a := 146) rfl utb_93 udX12_readsSyllables_116 ?_
              refine lv_bipush (v := zI 25) hx hb udX12_readsSyllables_119 (by decide) ?_
              refine lv_dup2_11 hx hb udX12_readsSyllables_121 rfl rfl ?_
              refine g_iald F w (a := 151) rfl (j := 25) ⟨by decide, by decide⟩ (by omega) udX12_readsSyllables_122 ?_
              have hq49 := hDB41.2.2.2.2.1.2.1
              refine r_val (v := (zI ((y1.1 : Nat) : Int))) ((st_ne (Or.inr (by omega))).trans (hDB41.2.2.2.1.2.1)) ?_
              refine lv_iconst (v := zI 1) hx hb udX12_readsSyllables_123 rfl ?_
              refine z_iadd (z := (((y1.1 + 1) : Nat) : Int)) hx hb udX12_readsSyllables_124 (by omega) ?_
              refine g_iast F w (a := 151) rfl (j := 25) ⟨by decide, by decide⟩ (by omega) udX12_readsSyllables_125 (fun H locs w => ?_)
              refine lv_aload_n hx hb udX12_readsSyllables_126 rfl (lv_at hl 3 rfl) ?_
              refine lv_dup hx hb udX12_readsSyllables_127 rfl ?_
              refine f_12_9 F w (a := 146) rfl utb_96 udX12_readsSyllables_128 ?_
              refine r_val (v := (zI (((sk T tn (i + 1)) : Nat) : Int))) ((st_ne (Or.inl (by omega))).trans ((st_ne (Or.inl (by omega))).trans (hDB41.2.1))) ?_
              refine lv_iconst (v := zI 1) hx hb udX12_readsSyllables_131 rfl ?_
              refine z_iadd (z := ((((sk T tn (i + 1)) + 1) : Nat) : Int)) hx hb udX12_readsSyllables_132 (by omega) ?_
              refine u_12_9 F w (a := 146) rfl utb_96 udX12_readsSyllables_133 (fun H locs w => ?_)
              refine lv_aload_n hx hb udX12_readsSyllables_136 rfl (lv_at hl 3 rfl) ?_
              have hD51 : ES (st (st Ma42 151 27 (zI (((y1.2.2 ||| (2 ^ y1.1)) : Nat) : Int))) 151 25 (zI (((y1.1 + 1) : Nat) : Int))) T tn (sk T tn (i + 1)) (syO y1 0 1) o := ES.w hDB41 (Fr1.tr Fr1.s Fr1.s) (EW.sy hDB41.2.2.2 (rqW (reW hDB41.2.2.2.1 hDB41.2.2.2.2.1.1) hDB41.2.2.2.2.1.1) (sbit_id hDB41.2.2.2.2.2.1) sbit_on (by omega))
              have fD51 : FrE (st (st Ma42 151 27 (zI (((y1.2.2 ||| (2 ^ y1.1)) : Nat) : Int))) 151 25 (zI (((y1.1 + 1) : Nat) : Int))) M := (FrE.tr (FrE.tr fDB41 FrE.s) FrE.s)
              have hD52 : ES (st (st (st Ma42 151 27 (zI (((y1.2.2 ||| (2 ^ y1.1)) : Nat) : Int))) 151 25 (zI (((y1.1 + 1) : Nat) : Int))) 146 9 (zI ((((sk T tn (i + 1)) + 1) : Nat) : Int))) T tn ((sk T tn (i + 1)) + 1) (syO y1 0 1) o := ES.at hD51 (by omega)
              have fD52 : FrE (st (st (st Ma42 151 27 (zI (((y1.2.2 ||| (2 ^ y1.1)) : Nat) : Int))) 151 25 (zI (((y1.1 + 1) : Nat) : Int))) 146 9 (zI ((((sk T tn (i + 1)) + 1) : Nat) : Int))) M := FrE.tr fD51 FrE.a
              refine k_Vv F w (As := []) (rest := []) (a := 146) (kd_lt (a := 146) (show kd 146 = (12, 0, 0) from rfl) (by decide)) (sh_12 rfl _ _) rfl (t_blanks hT hD52.1 hD52.2.1 hD52.2.2.1) ugv_X12_179 uhv_X12_blanks ⟨(by omega), (by omega)⟩ hl.1 rfl (Nat.le_of_ble_eq_true rfl) ⟨Nat.zero_le _, Nat.zero_le _⟩ udX12_readsSyllables_137 (fun Ma54 H locs hp w => ?_)
              rcases hp with ⟨hB53, gB53⟩
              have hkB53 := sk_le (T := T) (N := tn) (i := ((sk T tn (i + 1)) + 1)) (by omega)
              have hDB53 : ES Ma54 T tn (sk T tn ((sk T tn (i + 1)) + 1)) (syO y1 0 1) o := ES.b hD52 gB53 hB53 (by omega)
              have fDB53 : FrE Ma54 M := FrE.tr fD52 (FrE.n9 gB53)
              refine lv_goto (tgt := 4) hx hb udX12_readsSyllables_140 (by decide) ?_
              exact False.elim (by omega)
            · refine lv_aload_n hx hb udX12_readsSyllables_85 rfl (lv_at hl 3 rfl) ?_
              refine f_12_10 F w (a := 146) rfl utb_93 udX12_readsSyllables_86 ?_
              refine lv_bipush (v := zI 26) hx hb udX12_readsSyllables_89 (by decide) ?_
              refine lv_dup2_11 hx hb udX12_readsSyllables_91 rfl rfl ?_
              refine g_iald F w (a := 151) rfl (j := 26) ⟨by decide, by decide⟩ (by omega) udX12_readsSyllables_92 ?_
              have hw54 := hDB41.2.2.2.wf.2.2.1
              refine r_val (v := (zI ((y1.2.1 : Nat) : Int))) (hDB41.2.2.2.1.2.2.1) ?_
              refine lv_iconst (v := zI 1) hx hb udX12_readsSyllables_93 rfl ?_
              refine lv_iload_n hx hb udX12_readsSyllables_94 rfl (lv_at hl 0 rfl) ?_
              refine lv_ishl hx hb udX12_readsSyllables_95 ?_
              refine r_val (v := (zI (((2 ^ y1.1) : Nat) : Int))) (zb_shl (n := y1.1) (by omega)) ?_
              have q55 := p2_b (n := y1.1) (by omega)
              refine lv_ior hx hb udX12_readsSyllables_96 ?_
              refine r_val (v := (zI (((y1.2.1 ||| (2 ^ y1.1)) : Nat) : Int))) (zb_or y1.2.1 (2 ^ y1.1)) ?_
              have q56 := or_lt12 (a := y1.2.1) (b := (2 ^ y1.1)) (by omega) (by omega)
              refine g_iast F w (a := 151) rfl (j := 26) ⟨by decide, by decide⟩ (by omega) udX12_readsSyllables_97 (fun H locs w => ?_)
              refine lv_iload_n hx hb udX12_readsSyllables_98 rfl (lv_at hl 2 rfl) ?_
              refine z_if_eq (tgt := 115) hx hb (by omega) udX12_readsSyllables_99 (by decide) (fun c57 => False.elim (by omega)) (fun c57 => ?_)
              refine lv_aload_n hx hb udX12_readsSyllables_102 rfl (lv_at hl 3 rfl) ?_
              refine f_12_10 F w (a := 146) rfl utb_93 udX12_readsSyllables_103 ?_
              refine lv_bipush (v := zI 27) hx hb udX12_readsSyllables_106 (by decide) ?_
              refine lv_dup2_11 hx hb udX12_readsSyllables_108 rfl rfl ?_
              refine g_iald F w (a := 151) rfl (j := 27) ⟨by decide, by decide⟩ (by omega) udX12_readsSyllables_109 ?_
              have hw57 := hDB41.2.2.2.wf.2.2.2.1
              refine r_val (v := (zI ((y1.2.2 : Nat) : Int))) ((st_ne (Or.inr (by omega))).trans (hDB41.2.2.2.1.2.2.2.1)) ?_
              refine lv_iconst (v := zI 1) hx hb udX12_readsSyllables_110 rfl ?_
              refine lv_iload_n hx hb udX12_readsSyllables_111 rfl (lv_at hl 0 rfl) ?_
              refine lv_ishl hx hb udX12_readsSyllables_112 ?_
              refine r_val (v := (zI (((2 ^ y1.1) : Nat) : Int))) (zb_shl (n := y1.1) (by omega)) ?_
              have q58 := p2_b (n := y1.1) (by omega)
              refine lv_ior hx hb udX12_readsSyllables_113 ?_
              refine r_val (v := (zI (((y1.2.2 ||| (2 ^ y1.1)) : Nat) : Int))) (zb_or y1.2.2 (2 ^ y1.1)) ?_
              have q59 := or_lt12 (a := y1.2.2) (b := (2 ^ y1.1)) (by omega) (by omega)
              refine g_iast F w (a := 151) rfl (j := 27) ⟨by decide, by decide⟩ (by omega) udX12_readsSyllables_114 (fun H locs w => ?_)
              refine lv_aload_n hx hb udX12_readsSyllables_115 rfl (lv_at hl 3 rfl) ?_
              refine f_12_10 F w (a := 146) rfl utb_93 udX12_readsSyllables_116 ?_
              refine lv_bipush (v := zI 25) hx hb udX12_readsSyllables_119 (by decide) ?_
              refine lv_dup2_11 hx hb udX12_readsSyllables_121 rfl rfl ?_
              refine g_iald F w (a := 151) rfl (j := 25) ⟨by decide, by decide⟩ (by omega) udX12_readsSyllables_122 ?_
              have hq59 := hDB41.2.2.2.2.1.2.1
              refine r_val (v := (zI ((y1.1 : Nat) : Int))) ((st_ne (Or.inr (by omega))).trans ((st_ne (Or.inr (by omega))).trans (hDB41.2.2.2.1.2.1))) ?_
              refine lv_iconst (v := zI 1) hx hb udX12_readsSyllables_123 rfl ?_
              refine z_iadd (z := (((y1.1 + 1) : Nat) : Int)) hx hb udX12_readsSyllables_124 (by omega) ?_
              refine g_iast F w (a := 151) rfl (j := 25) ⟨by decide, by decide⟩ (by omega) udX12_readsSyllables_125 (fun H locs w => ?_)
              refine lv_aload_n hx hb udX12_readsSyllables_126 rfl (lv_at hl 3 rfl) ?_
              refine lv_dup hx hb udX12_readsSyllables_127 rfl ?_
              refine f_12_9 F w (a := 146) rfl utb_96 udX12_readsSyllables_128 ?_
              refine r_val (v := (zI (((sk T tn (i + 1)) : Nat) : Int))) ((st_ne (Or.inl (by omega))).trans ((st_ne (Or.inl (by omega))).trans ((st_ne (Or.inl (by omega))).trans (hDB41.2.1)))) ?_
              refine lv_iconst (v := zI 1) hx hb udX12_readsSyllables_131 rfl ?_
              refine z_iadd (z := ((((sk T tn (i + 1)) + 1) : Nat) : Int)) hx hb udX12_readsSyllables_132 (by omega) ?_
              refine u_12_9 F w (a := 146) rfl utb_96 udX12_readsSyllables_133 (fun H locs w => ?_)
              refine lv_aload_n hx hb udX12_readsSyllables_136 rfl (lv_at hl 3 rfl) ?_
              have hD62 : ES (st (st (st Ma42 151 26 (zI (((y1.2.1 ||| (2 ^ y1.1)) : Nat) : Int))) 151 27 (zI (((y1.2.2 ||| (2 ^ y1.1)) : Nat) : Int))) 151 25 (zI (((y1.1 + 1) : Nat) : Int))) T tn (sk T tn (i + 1)) (syO y1 1 1) o := ES.w hDB41 (Fr1.tr (Fr1.tr Fr1.s Fr1.s) Fr1.s) (EW.sy hDB41.2.2.2 (rqW (reW (rhW hDB41.2.2.2.1 hDB41.2.2.2.2.1.1) hDB41.2.2.2.2.1.1) hDB41.2.2.2.2.1.1) sbit_on sbit_on (by omega))
              have fD62 : FrE (st (st (st Ma42 151 26 (zI (((y1.2.1 ||| (2 ^ y1.1)) : Nat) : Int))) 151 27 (zI (((y1.2.2 ||| (2 ^ y1.1)) : Nat) : Int))) 151 25 (zI (((y1.1 + 1) : Nat) : Int))) M := (FrE.tr (FrE.tr (FrE.tr fDB41 FrE.s) FrE.s) FrE.s)
              have hD63 : ES (st (st (st (st Ma42 151 26 (zI (((y1.2.1 ||| (2 ^ y1.1)) : Nat) : Int))) 151 27 (zI (((y1.2.2 ||| (2 ^ y1.1)) : Nat) : Int))) 151 25 (zI (((y1.1 + 1) : Nat) : Int))) 146 9 (zI ((((sk T tn (i + 1)) + 1) : Nat) : Int))) T tn ((sk T tn (i + 1)) + 1) (syO y1 1 1) o := ES.at hD62 (by omega)
              have fD63 : FrE (st (st (st (st Ma42 151 26 (zI (((y1.2.1 ||| (2 ^ y1.1)) : Nat) : Int))) 151 27 (zI (((y1.2.2 ||| (2 ^ y1.1)) : Nat) : Int))) 151 25 (zI (((y1.1 + 1) : Nat) : Int))) 146 9 (zI ((((sk T tn (i + 1)) + 1) : Nat) : Int))) M := FrE.tr fD62 FrE.a
              refine k_Vv F w (As := []) (rest := []) (a := 146) (kd_lt (a := 146) (show kd 146 = (12, 0, 0) from rfl) (by decide)) (sh_12 rfl _ _) rfl (t_blanks hT hD63.1 hD63.2.1 hD63.2.2.1) ugv_X12_179 uhv_X12_blanks ⟨(by omega), (by omega)⟩ hl.1 rfl (Nat.le_of_ble_eq_true rfl) ⟨Nat.zero_le _, Nat.zero_le _⟩ udX12_readsSyllables_137 (fun Ma65 H locs hp w => ?_)
              rcases hp with ⟨hB64, gB64⟩
              have hkB64 := sk_le (T := T) (N := tn) (i := ((sk T tn (i + 1)) + 1)) (by omega)
              have hDB64 : ES Ma65 T tn (sk T tn ((sk T tn (i + 1)) + 1)) (syO y1 1 1) o := ES.b hD63 gB64 hB64 (by omega)
              have fDB64 : FrE Ma65 M := FrE.tr fD63 (FrE.n9 gB64)
              refine lv_goto (tgt := 4) hx hb udX12_readsSyllables_140 (by decide) ?_
              exact False.elim (by omega)
          · refine lv_iconst (v := zI 0) hx hb udX12_readsSyllables_77 rfl ?_
            exact e_z F w hr hlocks (nar_z (by omega)) (Or.inr ⟨i1.symm.trans ((rs_d (by omega) (by omega) rfl (by omega)).trans (rs_g (by omega) (by omega) (by omega))), rfl, hDB41.o, fDB41⟩) udX12_readsSyllables_78
        · refine lv_iload_n hx hb udX12_readsSyllables_65 rfl (lv_at hl 1 rfl) ?_
          refine lv_bipush (v := zI 79) hx hb udX12_readsSyllables_66 (by decide) ?_
          refine z_icmp_ne (tgt := 77) hx hb (by omega) (by omega) udX12_readsSyllables_68 (by decide) (fun c66 => ?_) (fun c66 => ?_)
          · refine lv_iconst (v := zI 0) hx hb udX12_readsSyllables_77 rfl ?_
            exact e_z F w hr hlocks (nar_z (by omega)) (Or.inr ⟨i1.symm.trans ((rs_d (by omega) (by omega) rfl (by omega)).trans (rs_g (by omega) (by omega) (by omega))), rfl, hDB41.o, fDB41⟩) udX12_readsSyllables_78
          · refine lv_iload_n hx hb udX12_readsSyllables_71 rfl (lv_at hl 0 rfl) ?_
            refine lv_bipush (v := zI 12) hx hb udX12_readsSyllables_72 (by decide) ?_
            refine z_icmp_ne (tgt := 79) hx hb (by omega) (by omega) udX12_readsSyllables_74 (by decide) (fun c67 => ?_) (fun c67 => ?_)
            · refine lv_iload_n hx hb udX12_readsSyllables_79 rfl (lv_at hl 1 rfl) ?_
              refine lv_bipush (v := zI 79) hx hb udX12_readsSyllables_80 (by decide) ?_
              refine z_icmp_ne (tgt := 98) hx hb (by omega) (by omega) udX12_readsSyllables_82 (by decide) (fun c68 => ?_) (fun c68 => ?_)
              · refine lv_iload_n hx hb udX12_readsSyllables_98 rfl (lv_at hl 2 rfl) ?_
                refine z_if_eq (tgt := 115) hx hb (by omega) udX12_readsSyllables_99 (by decide) (fun c69 => False.elim (by omega)) (fun c69 => ?_)
                refine lv_aload_n hx hb udX12_readsSyllables_102 rfl (lv_at hl 3 rfl) ?_
                refine f_12_10 F w (a := 146) rfl utb_93 udX12_readsSyllables_103 ?_
                refine lv_bipush (v := zI 27) hx hb udX12_readsSyllables_106 (by decide) ?_
                refine lv_dup2_11 hx hb udX12_readsSyllables_108 rfl rfl ?_
                refine g_iald F w (a := 151) rfl (j := 27) ⟨by decide, by decide⟩ (by omega) udX12_readsSyllables_109 ?_
                have hw69 := hDB41.2.2.2.wf.2.2.2.1
                refine r_val (v := (zI ((y1.2.2 : Nat) : Int))) (hDB41.2.2.2.1.2.2.2.1) ?_
                refine lv_iconst (v := zI 1) hx hb udX12_readsSyllables_110 rfl ?_
                refine lv_iload_n hx hb udX12_readsSyllables_111 rfl (lv_at hl 0 rfl) ?_
                refine lv_ishl hx hb udX12_readsSyllables_112 ?_
                refine r_val (v := (zI (((2 ^ y1.1) : Nat) : Int))) (zb_shl (n := y1.1) (by omega)) ?_
                have q70 := p2_b (n := y1.1) (by omega)
                refine lv_ior hx hb udX12_readsSyllables_113 ?_
                refine r_val (v := (zI (((y1.2.2 ||| (2 ^ y1.1)) : Nat) : Int))) (zb_or y1.2.2 (2 ^ y1.1)) ?_
                have q71 := or_lt12 (a := y1.2.2) (b := (2 ^ y1.1)) (by omega) (by omega)
                refine g_iast F w (a := 151) rfl (j := 27) ⟨by decide, by decide⟩ (by omega) udX12_readsSyllables_114 (fun H locs w => ?_)
                refine lv_aload_n hx hb udX12_readsSyllables_115 rfl (lv_at hl 3 rfl) ?_
                refine f_12_10 F w (a := 146) rfl utb_93 udX12_readsSyllables_116 ?_
                refine lv_bipush (v := zI 25) hx hb udX12_readsSyllables_119 (by decide) ?_
                refine lv_dup2_11 hx hb udX12_readsSyllables_121 rfl rfl ?_
                refine g_iald F w (a := 151) rfl (j := 25) ⟨by decide, by decide⟩ (by omega) udX12_readsSyllables_122 ?_
                have hq71 := hDB41.2.2.2.2.1.2.1
                refine r_val (v := (zI ((y1.1 : Nat) : Int))) ((st_ne (Or.inr (by omega))).trans (hDB41.2.2.2.1.2.1)) ?_
                refine lv_iconst (v := zI 1) hx hb udX12_readsSyllables_123 rfl ?_
                refine z_iadd (z := (((y1.1 + 1) : Nat) : Int)) hx hb udX12_readsSyllables_124 (by omega) ?_
                refine g_iast F w (a := 151) rfl (j := 25) ⟨by decide, by decide⟩ (by omega) udX12_readsSyllables_125 (fun H locs w => ?_)
                refine lv_aload_n hx hb udX12_readsSyllables_126 rfl (lv_at hl 3 rfl) ?_
                refine lv_dup hx hb udX12_readsSyllables_127 rfl ?_
                refine f_12_9 F w (a := 146) rfl utb_96 udX12_readsSyllables_128 ?_
                refine r_val (v := (zI (((sk T tn (i + 1)) : Nat) : Int))) ((st_ne (Or.inl (by omega))).trans ((st_ne (Or.inl (by omega))).trans (hDB41.2.1))) ?_
                refine lv_iconst (v := zI 1) hx hb udX12_readsSyllables_131 rfl ?_
                refine z_iadd (z := ((((sk T tn (i + 1)) + 1) : Nat) : Int)) hx hb udX12_readsSyllables_132 (by omega) ?_
                refine u_12_9 F w (a := 146) rfl utb_96 udX12_readsSyllables_133 (fun H locs w => ?_)
                refine lv_aload_n hx hb udX12_readsSyllables_136 rfl (lv_at hl 3 rfl) ?_
                have hD73 : ES (st (st Ma42 151 27 (zI (((y1.2.2 ||| (2 ^ y1.1)) : Nat) : Int))) 151 25 (zI (((y1.1 + 1) : Nat) : Int))) T tn (sk T tn (i + 1)) (syO y1 0 1) o := ES.w hDB41 (Fr1.tr Fr1.s Fr1.s) (EW.sy hDB41.2.2.2 (rqW (reW hDB41.2.2.2.1 hDB41.2.2.2.2.1.1) hDB41.2.2.2.2.1.1) (sbit_id hDB41.2.2.2.2.2.1) sbit_on (by omega))
                have fD73 : FrE (st (st Ma42 151 27 (zI (((y1.2.2 ||| (2 ^ y1.1)) : Nat) : Int))) 151 25 (zI (((y1.1 + 1) : Nat) : Int))) M := (FrE.tr (FrE.tr fDB41 FrE.s) FrE.s)
                have hD74 : ES (st (st (st Ma42 151 27 (zI (((y1.2.2 ||| (2 ^ y1.1)) : Nat) : Int))) 151 25 (zI (((y1.1 + 1) : Nat) : Int))) 146 9 (zI ((((sk T tn (i + 1)) + 1) : Nat) : Int))) T tn ((sk T tn (i + 1)) + 1) (syO y1 0 1) o := ES.at hD73 (by omega)
                have fD74 : FrE (st (st (st Ma42 151 27 (zI (((y1.2.2 ||| (2 ^ y1.1)) : Nat) : Int))) 151 25 (zI (((y1.1 + 1) : Nat) : Int))) 146 9 (zI ((((sk T tn (i + 1)) + 1) : Nat) : Int))) M := FrE.tr fD73 FrE.a
                refine k_Vv F w (As := []) (rest := []) (a := 146) (kd_lt (a := 146) (show kd 146 = (12, 0, 0) from rfl) (by decide)) (sh_12 rfl _ _) rfl (t_blanks hT hD74.1 hD74.2.1 hD74.2.2.1) ugv_X12_179 uhv_X12_blanks ⟨(by omega), (by omega)⟩ hl.1 rfl (Nat.le_of_ble_eq_true rfl) ⟨Nat.zero_le _, Nat.zero_le _⟩ udX12_readsSyllables_137 (fun Ma76 H locs hp w => ?_)
                rcases hp with ⟨hB75, gB75⟩
                have hkB75 := sk_le (T := T) (N := tn) (i := ((sk T tn (i + 1)) + 1)) (by omega)
                have hDB75 : ES Ma76 T tn (sk T tn ((sk T tn (i + 1)) + 1)) (syO y1 0 1) o := ES.b hD74 gB75 hB75 (by omega)
                have fDB75 : FrE Ma76 M := FrE.tr fD74 (FrE.n9 gB75)
                refine lv_goto (tgt := 4) hx hb udX12_readsSyllables_140 (by decide) ?_
                exact False.elim (by omega)
              · refine lv_aload_n hx hb udX12_readsSyllables_85 rfl (lv_at hl 3 rfl) ?_
                refine f_12_10 F w (a := 146) rfl utb_93 udX12_readsSyllables_86 ?_
                refine lv_bipush (v := zI 26) hx hb udX12_readsSyllables_89 (by decide) ?_
                refine lv_dup2_11 hx hb udX12_readsSyllables_91 rfl rfl ?_
                refine g_iald F w (a := 151) rfl (j := 26) ⟨by decide, by decide⟩ (by omega) udX12_readsSyllables_92 ?_
                have hw76 := hDB41.2.2.2.wf.2.2.1
                refine r_val (v := (zI ((y1.2.1 : Nat) : Int))) (hDB41.2.2.2.1.2.2.1) ?_
                refine lv_iconst (v := zI 1) hx hb udX12_readsSyllables_93 rfl ?_
                refine lv_iload_n hx hb udX12_readsSyllables_94 rfl (lv_at hl 0 rfl) ?_
                refine lv_ishl hx hb udX12_readsSyllables_95 ?_
                refine r_val (v := (zI (((2 ^ y1.1) : Nat) : Int))) (zb_shl (n := y1.1) (by omega)) ?_
                have q77 := p2_b (n := y1.1) (by omega)
                refine lv_ior hx hb udX12_readsSyllables_96 ?_
                refine r_val (v := (zI (((y1.2.1 ||| (2 ^ y1.1)) : Nat) : Int))) (zb_or y1.2.1 (2 ^ y1.1)) ?_
                have q78 := or_lt12 (a := y1.2.1) (b := (2 ^ y1.1)) (by omega) (by omega)
                refine g_iast F w (a := 151) rfl (j := 26) ⟨by decide, by decide⟩ (by omega) udX12_readsSyllables_97 (fun H locs w => ?_)
                refine lv_iload_n hx hb udX12_readsSyllables_98 rfl (lv_at hl 2 rfl) ?_
                refine z_if_eq (tgt := 115) hx hb (by omega) udX12_readsSyllables_99 (by decide) (fun c79 => False.elim (by omega)) (fun c79 => ?_)
                refine lv_aload_n hx hb udX12_readsSyllables_102 rfl (lv_at hl 3 rfl) ?_
                refine f_12_10 F w (a := 146) rfl utb_93 udX12_readsSyllables_103 ?_
                refine lv_bipush (v := zI 27) hx hb udX12_readsSyllables_106 (by decide) ?_
                refine lv_dup2_11 hx hb udX12_readsSyllables_108 rfl rfl ?_
                refine g_iald F w (a := 151) rfl (j := 27) ⟨by decide, by decide⟩ (by omega) udX12_readsSyllables_109 ?_
                have hw79 := hDB41.2.2.2.wf.2.2.2.1
                refine r_val (v := (zI ((y1.2.2 : Nat) : Int))) ((st_ne (Or.inr (by omega))).trans (hDB41.2.2.2.1.2.2.2.1)) ?_
                refine lv_iconst (v := zI 1) hx hb udX12_readsSyllables_110 rfl ?_
                refine lv_iload_n hx hb udX12_readsSyllables_111 rfl (lv_at hl 0 rfl) ?_
                refine lv_ishl hx hb udX12_readsSyllables_112 ?_
                refine r_val (v := (zI (((2 ^ y1.1) : Nat) : Int))) (zb_shl (n := y1.1) (by omega)) ?_
                have q80 := p2_b (n := y1.1) (by omega)
                refine lv_ior hx hb udX12_readsSyllables_113 ?_
                refine r_val (v := (zI (((y1.2.2 ||| (2 ^ y1.1)) : Nat) : Int))) (zb_or y1.2.2 (2 ^ y1.1)) ?_
                have q81 := or_lt12 (a := y1.2.2) (b := (2 ^ y1.1)) (by omega) (by omega)
                refine g_iast F w (a := 151) rfl (j := 27) ⟨by decide, by decide⟩ (by omega) udX12_readsSyllables_114 (fun H locs w => ?_)
                refine lv_aload_n hx hb udX12_readsSyllables_115 rfl (lv_at hl 3 rfl) ?_
                refine f_12_10 F w (a := 146) rfl utb_93 udX12_readsSyllables_116 ?_
                refine lv_bipush (v := zI 25) hx hb udX12_readsSyllables_119 (by decide) ?_
                refine lv_dup2_11 hx hb udX12_readsSyllables_121 rfl rfl ?_
                refine g_iald F w (a := 151) rfl (j := 25) ⟨by decide, by decide⟩ (by omega) udX12_readsSyllables_122 ?_
                have hq81 := hDB41.2.2.2.2.1.2.1
                refine r_val (v := (zI ((y1.1 : Nat) : Int))) ((st_ne (Or.inr (by omega))).trans ((st_ne (Or.inr (by omega))).trans (hDB41.2.2.2.1.2.1))) ?_
                refine lv_iconst (v := zI 1) hx hb udX12_readsSyllables_123 rfl ?_
                refine z_iadd (z := (((y1.1 + 1) : Nat) : Int)) hx hb udX12_readsSyllables_124 (by omega) ?_
                refine g_iast F w (a := 151) rfl (j := 25) ⟨by decide, by decide⟩ (by omega) udX12_readsSyllables_125 (fun H locs w => ?_)
                refine lv_aload_n hx hb udX12_readsSyllables_126 rfl (lv_at hl 3 rfl) ?_
                refine lv_dup hx hb udX12_readsSyllables_127 rfl ?_
                refine f_12_9 F w (a := 146) rfl utb_96 udX12_readsSyllables_128 ?_
                refine r_val (v := (zI (((sk T tn (i + 1)) : Nat) : Int))) ((st_ne (Or.inl (by omega))).trans ((st_ne (Or.inl (by omega))).trans ((st_ne (Or.inl (by omega))).trans (hDB41.2.1)))) ?_
                refine lv_iconst (v := zI 1) hx hb udX12_readsSyllables_131 rfl ?_
                refine z_iadd (z := ((((sk T tn (i + 1)) + 1) : Nat) : Int)) hx hb udX12_readsSyllables_132 (by omega) ?_
                refine u_12_9 F w (a := 146) rfl utb_96 udX12_readsSyllables_133 (fun H locs w => ?_)
                refine lv_aload_n hx hb udX12_readsSyllables_136 rfl (lv_at hl 3 rfl) ?_
                have hD84 : ES (st (st (st Ma42 151 26 (zI (((y1.2.1 ||| (2 ^ y1.1)) : Nat) : Int))) 151 27 (zI (((y1.2.2 ||| (2 ^ y1.1)) : Nat) : Int))) 151 25 (zI (((y1.1 + 1) : Nat) : Int))) T tn (sk T tn (i + 1)) (syO y1 1 1) o := ES.w hDB41 (Fr1.tr (Fr1.tr Fr1.s Fr1.s) Fr1.s) (EW.sy hDB41.2.2.2 (rqW (reW (rhW hDB41.2.2.2.1 hDB41.2.2.2.2.1.1) hDB41.2.2.2.2.1.1) hDB41.2.2.2.2.1.1) sbit_on sbit_on (by omega))
                have fD84 : FrE (st (st (st Ma42 151 26 (zI (((y1.2.1 ||| (2 ^ y1.1)) : Nat) : Int))) 151 27 (zI (((y1.2.2 ||| (2 ^ y1.1)) : Nat) : Int))) 151 25 (zI (((y1.1 + 1) : Nat) : Int))) M := (FrE.tr (FrE.tr (FrE.tr fDB41 FrE.s) FrE.s) FrE.s)
                have hD85 : ES (st (st (st (st Ma42 151 26 (zI (((y1.2.1 ||| (2 ^ y1.1)) : Nat) : Int))) 151 27 (zI (((y1.2.2 ||| (2 ^ y1.1)) : Nat) : Int))) 151 25 (zI (((y1.1 + 1) : Nat) : Int))) 146 9 (zI ((((sk T tn (i + 1)) + 1) : Nat) : Int))) T tn ((sk T tn (i + 1)) + 1) (syO y1 1 1) o := ES.at hD84 (by omega)
                have fD85 : FrE (st (st (st (st Ma42 151 26 (zI (((y1.2.1 ||| (2 ^ y1.1)) : Nat) : Int))) 151 27 (zI (((y1.2.2 ||| (2 ^ y1.1)) : Nat) : Int))) 151 25 (zI (((y1.1 + 1) : Nat) : Int))) 146 9 (zI ((((sk T tn (i + 1)) + 1) : Nat) : Int))) M := FrE.tr fD84 FrE.a
                refine k_Vv F w (As := []) (rest := []) (a := 146) (kd_lt (a := 146) (show kd 146 = (12, 0, 0) from rfl) (by decide)) (sh_12 rfl _ _) rfl (t_blanks hT hD85.1 hD85.2.1 hD85.2.2.1) ugv_X12_179 uhv_X12_blanks ⟨(by omega), (by omega)⟩ hl.1 rfl (Nat.le_of_ble_eq_true rfl) ⟨Nat.zero_le _, Nat.zero_le _⟩ udX12_readsSyllables_137 (fun Ma87 H locs hp w => ?_)
                rcases hp with ⟨hB86, gB86⟩
                have hkB86 := sk_le (T := T) (N := tn) (i := ((sk T tn (i + 1)) + 1)) (by omega)
                have hDB86 : ES Ma87 T tn (sk T tn ((sk T tn (i + 1)) + 1)) (syO y1 1 1) o := ES.b hD85 gB86 hB86 (by omega)
                have fDB86 : FrE Ma87 M := FrE.tr fD85 (FrE.n9 gB86)
                refine lv_goto (tgt := 4) hx hb udX12_readsSyllables_140 (by decide) ?_
                exact False.elim (by omega)
            · refine lv_iconst (v := zI 0) hx hb udX12_readsSyllables_77 rfl ?_
              exact e_z F w hr hlocks (nar_z (by omega)) (Or.inr ⟨i1.symm.trans ((rs_d (by omega) (by omega) rfl (by omega)).trans (rs_g (by omega) (by omega) (by omega))), rfl, hDB41.o, fDB41⟩) udX12_readsSyllables_78
  | succ f ih =>
    intro i Nm y1 fu i0 i1 i2 i3 hf H locs ls w hl
    have hiN := i0.2.2.1
    have hq12 := i0.2.2.2.2.1.2.1
    refine lv_aload_n hx hb udX12_readsSyllables_4 rfl (lv_at hl 0 rfl) ?_
    refine x_Vi F w (As := []) (rest := []) (a := 146) (kd_lt (a := 146) (show kd 146 = (12, 0, 0) from rfl) (by decide)) (sh_12 rfl _ _) rfl (t_here hT i0.1 (A := i) i0.2.1 (by omega)) ugv_X12_175 uhv_X12_here ⟨(by omega), (by omega)⟩ hl.1 rfl (Nat.le_of_ble_eq_true rfl) ⟨Nat.zero_le _, Nat.zero_le _⟩ udX12_readsSyllables_5 (fun H locs w => ?_)
    have hg0 := sg_rg hT (i : Int)
    have hh0 := sg_c (T := T) (N := tn) i
    have ht0 := hT.2 i
    refine lv_bipush (v := zI 47) hx hb udX12_readsSyllables_8 (by decide) ?_
    refine z_icmp_eq (tgt := 143) hx hb (by omega) (by omega) udX12_readsSyllables_10 (by decide) (fun c2 => ?_) (fun c2 => ?_)
    · exact kk i Nm y1 fu _ _ ls (i1.symm.trans (rs_s (by omega) (by omega) rfl (by omega))) i0 i2 (by omega) w (lv_sub hl [0] rfl)
    · refine lv_aload_n hx hb udX12_readsSyllables_13 rfl (lv_at hl 0 rfl) ?_
      refine x_Vi F w (As := []) (rest := []) (a := 146) (kd_lt (a := 146) (show kd 146 = (12, 0, 0) from rfl) (by decide)) (sh_12 rfl _ _) rfl (t_here hT i0.1 (A := i) i0.2.1 (by omega)) ugv_X12_175 uhv_X12_here ⟨(by omega), (by omega)⟩ hl.1 rfl (Nat.le_of_ble_eq_true rfl) ⟨Nat.zero_le _, Nat.zero_le _⟩ udX12_readsSyllables_14 (fun H locs w => ?_)
      have hg2 := sg_rg hT (i : Int)
      have hh2 := sg_c (T := T) (N := tn) i
      have ht2 := hT.2 i
      refine lv_bipush (v := zI 45) hx hb udX12_readsSyllables_17 (by decide) ?_
      refine z_icmp_ne (tgt := 26) hx hb (by omega) (by omega) udX12_readsSyllables_19 (by decide) (fun c4 => ?_) (fun c4 => ?_)
      · refine lv_iconst (v := zI 0) hx hb udX12_readsSyllables_26 rfl ?_
        refine lv_istore_n (lv' := [(1, .int (zI 0)), (0, .ref (B + 146))]) hx hb udX12_readsSyllables_27 rfl hl (by decide) rfl (fun ls hl => ?_)
        refine lv_iload_n hx hb udX12_readsSyllables_28 rfl (lv_at hl 0 rfl) ?_
        refine z_if_eq (tgt := 46) hx hb (by omega) udX12_readsSyllables_29 (by decide) (fun c5 => ?_) (fun c5 => False.elim (by omega))
        refine lv_aload_n hx hb udX12_readsSyllables_46 rfl (lv_at hl 1 rfl) ?_
        refine x_Vi F w (As := []) (rest := []) (a := 146) (kd_lt (a := 146) (show kd 146 = (12, 0, 0) from rfl) (by decide)) (sh_12 rfl _ _) rfl (t_here hT i0.1 (A := i) i0.2.1 (by omega)) ugv_X12_175 uhv_X12_here ⟨(by omega), (by omega)⟩ hl.1 rfl (Nat.le_of_ble_eq_true rfl) ⟨Nat.zero_le _, Nat.zero_le _⟩ udX12_readsSyllables_47 (fun H locs w => ?_)
        have hg5 := sg_rg hT (i : Int)
        have hh5 := sg_c (T := T) (N := tn) i
        have ht5 := hT.2 i
        refine lv_istore_n (lv' := [(2, .int (zI (sg T tn (i : Int)))), (1, .int (zI 0)), (0, .ref (B + 146))]) hx hb udX12_readsSyllables_50 rfl hl (by decide) rfl (fun ls hl => ?_)
        refine lv_aload_n hx hb udX12_readsSyllables_51 rfl (lv_at hl 2 rfl) ?_
        refine f_12_10 F w (a := 146) rfl utb_93 udX12_readsSyllables_52 ?_
        refine lv_bipush (v := zI 25) hx hb udX12_readsSyllables_55 (by decide) ?_
        refine g_iald F w (a := 151) rfl (j := 25) ⟨by decide, by decide⟩ (by omega) udX12_readsSyllables_57 ?_
        have hq6 := i0.2.2.2.2.1.2.1
        refine r_val (v := (zI ((y1.1 : Nat) : Int))) (i0.2.2.2.1.2.1) ?_
        refine lv_istore_n (lv' := [(3, .int (zI ((y1.1 : Nat) : Int))), (2, .int (zI (sg T tn (i : Int)))), (1, .int (zI 0)), (0, .ref (B + 146))]) hx hb udX12_readsSyllables_58 rfl hl (by decide) rfl (fun ls hl => ?_)
        refine lv_iload_n hx hb udX12_readsSyllables_59 rfl (lv_at hl 1 rfl) ?_
        refine lv_bipush (v := zI 111) hx hb udX12_readsSyllables_60 (by decide) ?_
        refine z_icmp_eq (tgt := 71) hx hb (by omega) (by omega) udX12_readsSyllables_62 (by decide) (fun c7 => ?_) (fun c7 => ?_)
        · refine lv_iload_n hx hb udX12_readsSyllables_71 rfl (lv_at hl 0 rfl) ?_
          refine lv_bipush (v := zI 12) hx hb udX12_readsSyllables_72 (by decide) ?_
          refine z_icmp_ne (tgt := 79) hx hb (by omega) (by omega) udX12_readsSyllables_74 (by decide) (fun c8 => ?_) (fun c8 => ?_)
          · refine lv_iload_n hx hb udX12_readsSyllables_79 rfl (lv_at hl 1 rfl) ?_
            refine lv_bipush (v := zI 79) hx hb udX12_readsSyllables_80 (by decide) ?_
            refine z_icmp_ne (tgt := 98) hx hb (by omega) (by omega) udX12_readsSyllables_82 (by decide) (fun c9 => ?_) (fun c9 => ?_)
            · refine lv_iload_n hx hb udX12_readsSyllables_98 rfl (lv_at hl 2 rfl) ?_
              refine z_if_eq (tgt := 115) hx hb (by omega) udX12_readsSyllables_99 (by decide) (fun c10 => ?_) (fun c10 => False.elim (by omega))
              refine lv_aload_n hx hb udX12_readsSyllables_115 rfl (lv_at hl 3 rfl) ?_
              refine f_12_10 F w (a := 146) rfl utb_93 udX12_readsSyllables_116 ?_
              refine lv_bipush (v := zI 25) hx hb udX12_readsSyllables_119 (by decide) ?_
              refine lv_dup2_11 hx hb udX12_readsSyllables_121 rfl rfl ?_
              refine g_iald F w (a := 151) rfl (j := 25) ⟨by decide, by decide⟩ (by omega) udX12_readsSyllables_122 ?_
              have hq10 := i0.2.2.2.2.1.2.1
              refine r_val (v := (zI ((y1.1 : Nat) : Int))) (i0.2.2.2.1.2.1) ?_
              refine lv_iconst (v := zI 1) hx hb udX12_readsSyllables_123 rfl ?_
              refine z_iadd (z := (((y1.1 + 1) : Nat) : Int)) hx hb udX12_readsSyllables_124 (by omega) ?_
              refine g_iast F w (a := 151) rfl (j := 25) ⟨by decide, by decide⟩ (by omega) udX12_readsSyllables_125 (fun H locs w => ?_)
              refine lv_aload_n hx hb udX12_readsSyllables_126 rfl (lv_at hl 3 rfl) ?_
              refine lv_dup hx hb udX12_readsSyllables_127 rfl ?_
              refine f_12_9 F w (a := 146) rfl utb_96 udX12_readsSyllables_128 ?_
              refine r_val (v := (zI (i : Int))) ((st_ne (Or.inl (by omega))).trans (i0.2.1)) ?_
              refine lv_iconst (v := zI 1) hx hb udX12_readsSyllables_131 rfl ?_
              refine z_iadd (z := (((i + 1) : Nat) : Int)) hx hb udX12_readsSyllables_132 (by omega) ?_
              refine u_12_9 F w (a := 146) rfl utb_96 udX12_readsSyllables_133 (fun H locs w => ?_)
              refine lv_aload_n hx hb udX12_readsSyllables_136 rfl (lv_at hl 3 rfl) ?_
              have hD11 : ES (st Nm 151 25 (zI (((y1.1 + 1) : Nat) : Int))) T tn i (syO y1 0 0) o := ES.w i0 Fr1.s (EW.sy i0.2.2.2 (rqW i0.2.2.2.1 i0.2.2.2.2.1.1) (sbit_id i0.2.2.2.2.2.1) (sbit_id i0.2.2.2.2.2.2) (by omega))
              have fD11 : FrE (st Nm 151 25 (zI (((y1.1 + 1) : Nat) : Int))) M := (FrE.tr i2 FrE.s)
              have hD12 : ES (st (st Nm 151 25 (zI (((y1.1 + 1) : Nat) : Int))) 146 9 (zI (((i + 1) : Nat) : Int))) T tn (i + 1) (syO y1 0 0) o := ES.at hD11 (by omega)
              have fD12 : FrE (st (st Nm 151 25 (zI (((y1.1 + 1) : Nat) : Int))) 146 9 (zI (((i + 1) : Nat) : Int))) M := FrE.tr fD11 FrE.a
              refine k_Vv F w (As := []) (rest := []) (a := 146) (kd_lt (a := 146) (show kd 146 = (12, 0, 0) from rfl) (by decide)) (sh_12 rfl _ _) rfl (t_blanks hT hD12.1 hD12.2.1 hD12.2.2.1) ugv_X12_179 uhv_X12_blanks ⟨(by omega), (by omega)⟩ hl.1 rfl (Nat.le_of_ble_eq_true rfl) ⟨Nat.zero_le _, Nat.zero_le _⟩ udX12_readsSyllables_137 (fun Ma14 H locs hp w => ?_)
              rcases hp with ⟨hB13, gB13⟩
              have hkB13 := sk_le (T := T) (N := tn) (i := (i + 1)) (by omega)
              have hDB13 : ES Ma14 T tn (sk T tn (i + 1)) (syO y1 0 0) o := ES.b hD12 gB13 hB13 (by omega)
              have fDB13 : FrE Ma14 M := FrE.tr fD12 (FrE.n9 gB13)
              refine lv_goto (tgt := 4) hx hb udX12_readsSyllables_140 (by decide) ?_
              exact ih (sk T tn (i + 1)) Ma14 (syO y1 0 0) (fu - 1) hDB13 ((rs_y (b := 0) (by omega) (by omega) (by omega) (by have h9 := hO_a (T i); omega) (by omega)).symm.trans i1) fDB13 (by omega) (by omega) _ _ ls w (lv_sub hl [3] rfl)
            · refine lv_aload_n hx hb udX12_readsSyllables_85 rfl (lv_at hl 3 rfl) ?_
              refine f_12_10 F w (a := 146) rfl utb_93 udX12_readsSyllables_86 ?_
              refine lv_bipush (v := zI 26) hx hb udX12_readsSyllables_89 (by decide) ?_
              refine lv_dup2_11 hx hb udX12_readsSyllables_91 rfl rfl ?_
              refine g_iald F w (a := 151) rfl (j := 26) ⟨by decide, by decide⟩ (by omega) udX12_readsSyllables_92 ?_
              have hw14 := i0.2.2.2.wf.2.2.1
              refine r_val (v := (zI ((y1.2.1 : Nat) : Int))) (i0.2.2.2.1.2.2.1) ?_
              refine lv_iconst (v := zI 1) hx hb udX12_readsSyllables_93 rfl ?_
              refine lv_iload_n hx hb udX12_readsSyllables_94 rfl (lv_at hl 0 rfl) ?_
              refine lv_ishl hx hb udX12_readsSyllables_95 ?_
              refine r_val (v := (zI (((2 ^ y1.1) : Nat) : Int))) (zb_shl (n := y1.1) (by omega)) ?_
              have q15 := p2_b (n := y1.1) (by omega)
              refine lv_ior hx hb udX12_readsSyllables_96 ?_
              refine r_val (v := (zI (((y1.2.1 ||| (2 ^ y1.1)) : Nat) : Int))) (zb_or y1.2.1 (2 ^ y1.1)) ?_
              have q16 := or_lt12 (a := y1.2.1) (b := (2 ^ y1.1)) (by omega) (by omega)
              refine g_iast F w (a := 151) rfl (j := 26) ⟨by decide, by decide⟩ (by omega) udX12_readsSyllables_97 (fun H locs w => ?_)
              refine lv_iload_n hx hb udX12_readsSyllables_98 rfl (lv_at hl 2 rfl) ?_
              refine z_if_eq (tgt := 115) hx hb (by omega) udX12_readsSyllables_99 (by decide) (fun c17 => ?_) (fun c17 => False.elim (by omega))
              refine lv_aload_n hx hb udX12_readsSyllables_115 rfl (lv_at hl 3 rfl) ?_
              refine f_12_10 F w (a := 146) rfl utb_93 udX12_readsSyllables_116 ?_
              refine lv_bipush (v := zI 25) hx hb udX12_readsSyllables_119 (by decide) ?_
              refine lv_dup2_11 hx hb udX12_readsSyllables_121 rfl rfl ?_
              refine g_iald F w (a := 151) rfl (j := 25) ⟨by decide, by decide⟩ (by omega) udX12_readsSyllables_122 ?_
              have hq17 := i0.2.2.2.2.1.2.1
              refine r_val (v := (zI ((y1.1 : Nat) : Int))) ((st_ne (Or.inr (by omega))).trans (i0.2.2.2.1.2.1)) ?_
              refine lv_iconst (v := zI 1) hx hb udX12_readsSyllables_123 rfl ?_
              refine z_iadd (z := (((y1.1 + 1) : Nat) : Int)) hx hb udX12_readsSyllables_124 (by omega) ?_
              refine g_iast F w (a := 151) rfl (j := 25) ⟨by decide, by decide⟩ (by omega) udX12_readsSyllables_125 (fun H locs w => ?_)
              refine lv_aload_n hx hb udX12_readsSyllables_126 rfl (lv_at hl 3 rfl) ?_
              refine lv_dup hx hb udX12_readsSyllables_127 rfl ?_
              refine f_12_9 F w (a := 146) rfl utb_96 udX12_readsSyllables_128 ?_
              refine r_val (v := (zI (i : Int))) ((st_ne (Or.inl (by omega))).trans ((st_ne (Or.inl (by omega))).trans (i0.2.1))) ?_
              refine lv_iconst (v := zI 1) hx hb udX12_readsSyllables_131 rfl ?_
              refine z_iadd (z := (((i + 1) : Nat) : Int)) hx hb udX12_readsSyllables_132 (by omega) ?_
              refine u_12_9 F w (a := 146) rfl utb_96 udX12_readsSyllables_133 (fun H locs w => ?_)
              refine lv_aload_n hx hb udX12_readsSyllables_136 rfl (lv_at hl 3 rfl) ?_
              have hD19 : ES (st (st Nm 151 26 (zI (((y1.2.1 ||| (2 ^ y1.1)) : Nat) : Int))) 151 25 (zI (((y1.1 + 1) : Nat) : Int))) T tn i (syO y1 1 0) o := ES.w i0 (Fr1.tr Fr1.s Fr1.s) (EW.sy i0.2.2.2 (rqW (rhW i0.2.2.2.1 i0.2.2.2.2.1.1) i0.2.2.2.2.1.1) sbit_on (sbit_id i0.2.2.2.2.2.2) (by omega))
              have fD19 : FrE (st (st Nm 151 26 (zI (((y1.2.1 ||| (2 ^ y1.1)) : Nat) : Int))) 151 25 (zI (((y1.1 + 1) : Nat) : Int))) M := (FrE.tr (FrE.tr i2 FrE.s) FrE.s)
              have hD20 : ES (st (st (st Nm 151 26 (zI (((y1.2.1 ||| (2 ^ y1.1)) : Nat) : Int))) 151 25 (zI (((y1.1 + 1) : Nat) : Int))) 146 9 (zI (((i + 1) : Nat) : Int))) T tn (i + 1) (syO y1 1 0) o := ES.at hD19 (by omega)
              have fD20 : FrE (st (st (st Nm 151 26 (zI (((y1.2.1 ||| (2 ^ y1.1)) : Nat) : Int))) 151 25 (zI (((y1.1 + 1) : Nat) : Int))) 146 9 (zI (((i + 1) : Nat) : Int))) M := FrE.tr fD19 FrE.a
              refine k_Vv F w (As := []) (rest := []) (a := 146) (kd_lt (a := 146) (show kd 146 = (12, 0, 0) from rfl) (by decide)) (sh_12 rfl _ _) rfl (t_blanks hT hD20.1 hD20.2.1 hD20.2.2.1) ugv_X12_179 uhv_X12_blanks ⟨(by omega), (by omega)⟩ hl.1 rfl (Nat.le_of_ble_eq_true rfl) ⟨Nat.zero_le _, Nat.zero_le _⟩ udX12_readsSyllables_137 (fun Ma22 H locs hp w => ?_)
              rcases hp with ⟨hB21, gB21⟩
              have hkB21 := sk_le (T := T) (N := tn) (i := (i + 1)) (by omega)
              have hDB21 : ES Ma22 T tn (sk T tn (i + 1)) (syO y1 1 0) o := ES.b hD20 gB21 hB21 (by omega)
              have fDB21 : FrE Ma22 M := FrE.tr fD20 (FrE.n9 gB21)
              refine lv_goto (tgt := 4) hx hb udX12_readsSyllables_140 (by decide) ?_
              exact ih (sk T tn (i + 1)) Ma22 (syO y1 1 0) (fu - 1) hDB21 ((rs_y (b := 1) (by omega) (by omega) (by omega) (by have h9 := hO_a (T i); omega) (by omega)).symm.trans i1) fDB21 (by omega) (by omega) _ _ ls w (lv_sub hl [3] rfl)
          · refine lv_iconst (v := zI 0) hx hb udX12_readsSyllables_77 rfl ?_
            exact e_z F w hr hlocks (nar_z (by omega)) (Or.inr ⟨i1.symm.trans (rs_g (by omega) (by omega) (by omega)), rfl, i0.o, i2⟩) udX12_readsSyllables_78
        · refine lv_iload_n hx hb udX12_readsSyllables_65 rfl (lv_at hl 1 rfl) ?_
          refine lv_bipush (v := zI 79) hx hb udX12_readsSyllables_66 (by decide) ?_
          refine z_icmp_ne (tgt := 77) hx hb (by omega) (by omega) udX12_readsSyllables_68 (by decide) (fun c23 => ?_) (fun c23 => ?_)
          · refine lv_iconst (v := zI 0) hx hb udX12_readsSyllables_77 rfl ?_
            exact e_z F w hr hlocks (nar_z (by omega)) (Or.inr ⟨i1.symm.trans (rs_g (by omega) (by omega) (by omega)), rfl, i0.o, i2⟩) udX12_readsSyllables_78
          · refine lv_iload_n hx hb udX12_readsSyllables_71 rfl (lv_at hl 0 rfl) ?_
            refine lv_bipush (v := zI 12) hx hb udX12_readsSyllables_72 (by decide) ?_
            refine z_icmp_ne (tgt := 79) hx hb (by omega) (by omega) udX12_readsSyllables_74 (by decide) (fun c24 => ?_) (fun c24 => ?_)
            · refine lv_iload_n hx hb udX12_readsSyllables_79 rfl (lv_at hl 1 rfl) ?_
              refine lv_bipush (v := zI 79) hx hb udX12_readsSyllables_80 (by decide) ?_
              refine z_icmp_ne (tgt := 98) hx hb (by omega) (by omega) udX12_readsSyllables_82 (by decide) (fun c25 => ?_) (fun c25 => ?_)
              · refine lv_iload_n hx hb udX12_readsSyllables_98 rfl (lv_at hl 2 rfl) ?_
                refine z_if_eq (tgt := 115) hx hb (by omega) udX12_readsSyllables_99 (by decide) (fun c26 => ?_) (fun c26 => False.elim (by omega))
                refine lv_aload_n hx hb udX12_readsSyllables_115 rfl (lv_at hl 3 rfl) ?_
                refine f_12_10 F w (a := 146) rfl utb_93 udX12_readsSyllables_116 ?_
                refine lv_bipush (v := zI 25) hx hb udX12_readsSyllables_119 (by decide) ?_
                refine lv_dup2_11 hx hb udX12_readsSyllables_121 rfl rfl ?_
                refine g_iald F w (a := 151) rfl (j := 25) ⟨by decide, by decide⟩ (by omega) udX12_readsSyllables_122 ?_
                have hq26 := i0.2.2.2.2.1.2.1
                refine r_val (v := (zI ((y1.1 : Nat) : Int))) (i0.2.2.2.1.2.1) ?_
                refine lv_iconst (v := zI 1) hx hb udX12_readsSyllables_123 rfl ?_
                refine z_iadd (z := (((y1.1 + 1) : Nat) : Int)) hx hb udX12_readsSyllables_124 (by omega) ?_
                refine g_iast F w (a := 151) rfl (j := 25) ⟨by decide, by decide⟩ (by omega) udX12_readsSyllables_125 (fun H locs w => ?_)
                refine lv_aload_n hx hb udX12_readsSyllables_126 rfl (lv_at hl 3 rfl) ?_
                refine lv_dup hx hb udX12_readsSyllables_127 rfl ?_
                refine f_12_9 F w (a := 146) rfl utb_96 udX12_readsSyllables_128 ?_
                refine r_val (v := (zI (i : Int))) ((st_ne (Or.inl (by omega))).trans (i0.2.1)) ?_
                refine lv_iconst (v := zI 1) hx hb udX12_readsSyllables_131 rfl ?_
                refine z_iadd (z := (((i + 1) : Nat) : Int)) hx hb udX12_readsSyllables_132 (by omega) ?_
                refine u_12_9 F w (a := 146) rfl utb_96 udX12_readsSyllables_133 (fun H locs w => ?_)
                refine lv_aload_n hx hb udX12_readsSyllables_136 rfl (lv_at hl 3 rfl) ?_
                have hD27 : ES (st Nm 151 25 (zI (((y1.1 + 1) : Nat) : Int))) T tn i (syO y1 0 0) o := ES.w i0 Fr1.s (EW.sy i0.2.2.2 (rqW i0.2.2.2.1 i0.2.2.2.2.1.1) (sbit_id i0.2.2.2.2.2.1) (sbit_id i0.2.2.2.2.2.2) (by omega))
                have fD27 : FrE (st Nm 151 25 (zI (((y1.1 + 1) : Nat) : Int))) M := (FrE.tr i2 FrE.s)
                have hD28 : ES (st (st Nm 151 25 (zI (((y1.1 + 1) : Nat) : Int))) 146 9 (zI (((i + 1) : Nat) : Int))) T tn (i + 1) (syO y1 0 0) o := ES.at hD27 (by omega)
                have fD28 : FrE (st (st Nm 151 25 (zI (((y1.1 + 1) : Nat) : Int))) 146 9 (zI (((i + 1) : Nat) : Int))) M := FrE.tr fD27 FrE.a
                refine k_Vv F w (As := []) (rest := []) (a := 146) (kd_lt (a := 146) (show kd 146 = (12, 0, 0) from rfl) (by decide)) (sh_12 rfl _ _) rfl (t_blanks hT hD28.1 hD28.2.1 hD28.2.2.1) ugv_X12_179 uhv_X12_blanks ⟨(by omega), (by omega)⟩ hl.1 rfl (Nat.le_of_ble_eq_true rfl) ⟨Nat.zero_le _, Nat.zero_le _⟩ udX12_readsSyllables_137 (fun Ma30 H locs hp w => ?_)
                rcases hp with ⟨hB29, gB29⟩
                have hkB29 := sk_le (T := T) (N := tn) (i := (i + 1)) (by omega)
                have hDB29 : ES Ma30 T tn (sk T tn (i + 1)) (syO y1 0 0) o := ES.b hD28 gB29 hB29 (by omega)
                have fDB29 : FrE Ma30 M := FrE.tr fD28 (FrE.n9 gB29)
                refine lv_goto (tgt := 4) hx hb udX12_readsSyllables_140 (by decide) ?_
                exact ih (sk T tn (i + 1)) Ma30 (syO y1 0 0) (fu - 1) hDB29 ((rs_y (b := 0) (by omega) (by omega) (by omega) (by have h9 := hO_a (T i); omega) (by omega)).symm.trans i1) fDB29 (by omega) (by omega) _ _ ls w (lv_sub hl [3] rfl)
              · refine lv_aload_n hx hb udX12_readsSyllables_85 rfl (lv_at hl 3 rfl) ?_
                refine f_12_10 F w (a := 146) rfl utb_93 udX12_readsSyllables_86 ?_
                refine lv_bipush (v := zI 26) hx hb udX12_readsSyllables_89 (by decide) ?_
                refine lv_dup2_11 hx hb udX12_readsSyllables_91 rfl rfl ?_
                refine g_iald F w (a := 151) rfl (j := 26) ⟨by decide, by decide⟩ (by omega) udX12_readsSyllables_92 ?_
                have hw30 := i0.2.2.2.wf.2.2.1
                refine r_val (v := (zI ((y1.2.1 : Nat) : Int))) (i0.2.2.2.1.2.2.1) ?_
                refine lv_iconst (v := zI 1) hx hb udX12_readsSyllables_93 rfl ?_
                refine lv_iload_n hx hb udX12_readsSyllables_94 rfl (lv_at hl 0 rfl) ?_
                refine lv_ishl hx hb udX12_readsSyllables_95 ?_
                refine r_val (v := (zI (((2 ^ y1.1) : Nat) : Int))) (zb_shl (n := y1.1) (by omega)) ?_
                have q31 := p2_b (n := y1.1) (by omega)
                refine lv_ior hx hb udX12_readsSyllables_96 ?_
                refine r_val (v := (zI (((y1.2.1 ||| (2 ^ y1.1)) : Nat) : Int))) (zb_or y1.2.1 (2 ^ y1.1)) ?_
                have q32 := or_lt12 (a := y1.2.1) (b := (2 ^ y1.1)) (by omega) (by omega)
                refine g_iast F w (a := 151) rfl (j := 26) ⟨by decide, by decide⟩ (by omega) udX12_readsSyllables_97 (fun H locs w => ?_)
                refine lv_iload_n hx hb udX12_readsSyllables_98 rfl (lv_at hl 2 rfl) ?_
                refine z_if_eq (tgt := 115) hx hb (by omega) udX12_readsSyllables_99 (by decide) (fun c33 => ?_) (fun c33 => False.elim (by omega))
                refine lv_aload_n hx hb udX12_readsSyllables_115 rfl (lv_at hl 3 rfl) ?_
                refine f_12_10 F w (a := 146) rfl utb_93 udX12_readsSyllables_116 ?_
                refine lv_bipush (v := zI 25) hx hb udX12_readsSyllables_119 (by decide) ?_
                refine lv_dup2_11 hx hb udX12_readsSyllables_121 rfl rfl ?_
                refine g_iald F w (a := 151) rfl (j := 25) ⟨by decide, by decide⟩ (by omega) udX12_readsSyllables_122 ?_
                have hq33 := i0.2.2.2.2.1.2.1
                refine r_val (v := (zI ((y1.1 : Nat) : Int))) ((st_ne (Or.inr (by omega))).trans (i0.2.2.2.1.2.1)) ?_
                refine lv_iconst (v := zI 1) hx hb udX12_readsSyllables_123 rfl ?_
                refine z_iadd (z := (((y1.1 + 1) : Nat) : Int)) hx hb udX12_readsSyllables_124 (by omega) ?_
                refine g_iast F w (a := 151) rfl (j := 25) ⟨by decide, by decide⟩ (by omega) udX12_readsSyllables_125 (fun H locs w => ?_)
                refine lv_aload_n hx hb udX12_readsSyllables_126 rfl (lv_at hl 3 rfl) ?_
                refine lv_dup hx hb udX12_readsSyllables_127 rfl ?_
                refine f_12_9 F w (a := 146) rfl utb_96 udX12_readsSyllables_128 ?_
                refine r_val (v := (zI (i : Int))) ((st_ne (Or.inl (by omega))).trans ((st_ne (Or.inl (by omega))).trans (i0.2.1))) ?_
                refine lv_iconst (v := zI 1) hx hb udX12_readsSyllables_131 rfl ?_
                refine z_iadd (z := (((i + 1) : Nat) : Int)) hx hb udX12_readsSyllables_132 (by omega) ?_
                refine u_12_9 F w (a := 146) rfl utb_96 udX12_readsSyllables_133 (fun H locs w => ?_)
                refine lv_aload_n hx hb udX12_readsSyllables_136 rfl (lv_at hl 3 rfl) ?_
                have hD35 : ES (st (st Nm 151 26 (zI (((y1.2.1 ||| (2 ^ y1.1)) : Nat) : Int))) 151 25 (zI (((y1.1 + 1) : Nat) : Int))) T tn i (syO y1 1 0) o := ES.w i0 (Fr1.tr Fr1.s Fr1.s) (EW.sy i0.2.2.2 (rqW (rhW i0.2.2.2.1 i0.2.2.2.2.1.1) i0.2.2.2.2.1.1) sbit_on (sbit_id i0.2.2.2.2.2.2) (by omega))
                have fD35 : FrE (st (st Nm 151 26 (zI (((y1.2.1 ||| (2 ^ y1.1)) : Nat) : Int))) 151 25 (zI (((y1.1 + 1) : Nat) : Int))) M := (FrE.tr (FrE.tr i2 FrE.s) FrE.s)
                have hD36 : ES (st (st (st Nm 151 26 (zI (((y1.2.1 ||| (2 ^ y1.1)) : Nat) : Int))) 151 25 (zI (((y1.1 + 1) : Nat) : Int))) 146 9 (zI (((i + 1) : Nat) : Int))) T tn (i + 1) (syO y1 1 0) o := ES.at hD35 (by omega)
                have fD36 : FrE (st (st (st Nm 151 26 (zI (((y1.2.1 ||| (2 ^ y1.1)) : Nat) : Int))) 151 25 (zI (((y1.1 + 1) : Nat) : Int))) 146 9 (zI (((i + 1) : Nat) : Int))) M := FrE.tr fD35 FrE.a
                refine k_Vv F w (As := []) (rest := []) (a := 146) (kd_lt (a := 146) (show kd 146 = (12, 0, 0) from rfl) (by decide)) (sh_12 rfl _ _) rfl (t_blanks hT hD36.1 hD36.2.1 hD36.2.2.1) ugv_X12_179 uhv_X12_blanks ⟨(by omega), (by omega)⟩ hl.1 rfl (Nat.le_of_ble_eq_true rfl) ⟨Nat.zero_le _, Nat.zero_le _⟩ udX12_readsSyllables_137 (fun Ma38 H locs hp w => ?_)
                rcases hp with ⟨hB37, gB37⟩
                have hkB37 := sk_le (T := T) (N := tn) (i := (i + 1)) (by omega)
                have hDB37 : ES Ma38 T tn (sk T tn (i + 1)) (syO y1 1 0) o := ES.b hD36 gB37 hB37 (by omega)
                have fDB37 : FrE Ma38 M := FrE.tr fD36 (FrE.n9 gB37)
                refine lv_goto (tgt := 4) hx hb udX12_readsSyllables_140 (by decide) ?_
                exact ih (sk T tn (i + 1)) Ma38 (syO y1 1 0) (fu - 1) hDB37 ((rs_y (b := 1) (by omega) (by omega) (by omega) (by have h9 := hO_a (T i); omega) (by omega)).symm.trans i1) fDB37 (by omega) (by omega) _ _ ls w (lv_sub hl [3] rfl)
            · refine lv_iconst (v := zI 0) hx hb udX12_readsSyllables_77 rfl ?_
              exact e_z F w hr hlocks (nar_z (by omega)) (Or.inr ⟨i1.symm.trans (rs_g (by omega) (by omega) (by omega)), rfl, i0.o, i2⟩) udX12_readsSyllables_78
      · refine lv_iconst (v := zI 1) hx hb udX12_readsSyllables_22 rfl ?_
        refine lv_goto (tgt := 27) hx hb udX12_readsSyllables_23 (by decide) ?_
        refine lv_istore_n (lv' := [(1, .int (zI 1)), (0, .ref (B + 146))]) hx hb udX12_readsSyllables_27 rfl hl (by decide) rfl (fun ls hl => ?_)
        refine lv_iload_n hx hb udX12_readsSyllables_28 rfl (lv_at hl 0 rfl) ?_
        refine z_if_eq (tgt := 46) hx hb (by omega) udX12_readsSyllables_29 (by decide) (fun c39 => False.elim (by omega)) (fun c39 => ?_)
        refine lv_aload_n hx hb udX12_readsSyllables_32 rfl (lv_at hl 1 rfl) ?_
        refine lv_dup hx hb udX12_readsSyllables_33 rfl ?_
        refine f_12_9 F w (a := 146) rfl utb_96 udX12_readsSyllables_34 ?_
        refine r_val (v := (zI (i : Int))) (i0.2.1) ?_
        refine lv_iconst (v := zI 1) hx hb udX12_readsSyllables_37 rfl ?_
        refine z_iadd (z := (((i + 1) : Nat) : Int)) hx hb udX12_readsSyllables_38 (by omega) ?_
        refine u_12_9 F w (a := 146) rfl utb_96 udX12_readsSyllables_39 (fun H locs w => ?_)
        refine lv_aload_n hx hb udX12_readsSyllables_42 rfl (lv_at hl 1 rfl) ?_
        have hD40 : ES (st Nm 146 9 (zI (((i + 1) : Nat) : Int))) T tn (i + 1) y1 o := ES.at i0 (by omega)
        have fD40 : FrE (st Nm 146 9 (zI (((i + 1) : Nat) : Int))) M := FrE.tr i2 FrE.a
        refine k_Vv F w (As := []) (rest := []) (a := 146) (kd_lt (a := 146) (show kd 146 = (12, 0, 0) from rfl) (by decide)) (sh_12 rfl _ _) rfl (t_blanks hT hD40.1 hD40.2.1 hD40.2.2.1) ugv_X12_179 uhv_X12_blanks ⟨(by omega), (by omega)⟩ hl.1 rfl (Nat.le_of_ble_eq_true rfl) ⟨Nat.zero_le _, Nat.zero_le _⟩ udX12_readsSyllables_43 (fun Ma42 H locs hp w => ?_)
        rcases hp with ⟨hB41, gB41⟩
        have hkB41 := sk_le (T := T) (N := tn) (i := (i + 1)) (by omega)
        have hDB41 : ES Ma42 T tn (sk T tn (i + 1)) y1 o := ES.b hD40 gB41 hB41 (by omega)
        have fDB41 : FrE Ma42 M := FrE.tr fD40 (FrE.n9 gB41)
        refine lv_aload_n hx hb udX12_readsSyllables_46 rfl (lv_at hl 1 rfl) ?_
        refine x_Vi F w (As := []) (rest := []) (a := 146) (kd_lt (a := 146) (show kd 146 = (12, 0, 0) from rfl) (by decide)) (sh_12 rfl _ _) rfl (t_here hT hDB41.1 (A := (sk T tn (i + 1))) hDB41.2.1 (by omega)) ugv_X12_175 uhv_X12_here ⟨(by omega), (by omega)⟩ hl.1 rfl (Nat.le_of_ble_eq_true rfl) ⟨Nat.zero_le _, Nat.zero_le _⟩ udX12_readsSyllables_47 (fun H locs w => ?_)
        have hg42 := sg_rg hT (((sk T tn (i + 1)) : Nat) : Int)
        have hh42 := sg_c (T := T) (N := tn) (sk T tn (i + 1))
        have ht42 := hT.2 (sk T tn (i + 1))
        refine lv_istore_n (lv' := [(2, .int (zI (sg T tn (((sk T tn (i + 1)) : Nat) : Int)))), (1, .int (zI 1)), (0, .ref (B + 146))]) hx hb udX12_readsSyllables_50 rfl hl (by decide) rfl (fun ls hl => ?_)
        refine lv_aload_n hx hb udX12_readsSyllables_51 rfl (lv_at hl 2 rfl) ?_
        refine f_12_10 F w (a := 146) rfl utb_93 udX12_readsSyllables_52 ?_
        refine lv_bipush (v := zI 25) hx hb udX12_readsSyllables_55 (by decide) ?_
        refine g_iald F w (a := 151) rfl (j := 25) ⟨by decide, by decide⟩ (by omega) udX12_readsSyllables_57 ?_
        have hq43 := hDB41.2.2.2.2.1.2.1
        refine r_val (v := (zI ((y1.1 : Nat) : Int))) (hDB41.2.2.2.1.2.1) ?_
        refine lv_istore_n (lv' := [(3, .int (zI ((y1.1 : Nat) : Int))), (2, .int (zI (sg T tn (((sk T tn (i + 1)) : Nat) : Int)))), (1, .int (zI 1)), (0, .ref (B + 146))]) hx hb udX12_readsSyllables_58 rfl hl (by decide) rfl (fun ls hl => ?_)
        refine lv_iload_n hx hb udX12_readsSyllables_59 rfl (lv_at hl 1 rfl) ?_
        refine lv_bipush (v := zI 111) hx hb udX12_readsSyllables_60 (by decide) ?_
        refine z_icmp_eq (tgt := 71) hx hb (by omega) (by omega) udX12_readsSyllables_62 (by decide) (fun c44 => ?_) (fun c44 => ?_)
        · refine lv_iload_n hx hb udX12_readsSyllables_71 rfl (lv_at hl 0 rfl) ?_
          refine lv_bipush (v := zI 12) hx hb udX12_readsSyllables_72 (by decide) ?_
          refine z_icmp_ne (tgt := 79) hx hb (by omega) (by omega) udX12_readsSyllables_74 (by decide) (fun c45 => ?_) (fun c45 => ?_)
          · refine lv_iload_n hx hb udX12_readsSyllables_79 rfl (lv_at hl 1 rfl) ?_
            refine lv_bipush (v := zI 79) hx hb udX12_readsSyllables_80 (by decide) ?_
            refine z_icmp_ne (tgt := 98) hx hb (by omega) (by omega) udX12_readsSyllables_82 (by decide) (fun c46 => ?_) (fun c46 => ?_)
            · refine lv_iload_n hx hb udX12_readsSyllables_98 rfl (lv_at hl 2 rfl) ?_
              refine z_if_eq (tgt := 115) hx hb (by omega) udX12_readsSyllables_99 (by decide) (fun c47 => False.elim (by omega)) (fun c47 => ?_)
              refine lv_aload_n hx hb udX12_readsSyllables_102 rfl (lv_at hl 3 rfl) ?_
              refine f_12_10 F w (a := 146) rfl utb_93 udX12_readsSyllables_103 ?_
              refine lv_bipush (v := zI 27) hx hb udX12_readsSyllables_106 (by decide) ?_
              refine lv_dup2_11 hx hb udX12_readsSyllables_108 rfl rfl ?_
              refine g_iald F w (a := 151) rfl (j := 27) ⟨by decide, by decide⟩ (by omega) udX12_readsSyllables_109 ?_
              have hw47 := hDB41.2.2.2.wf.2.2.2.1
              refine r_val (v := (zI ((y1.2.2 : Nat) : Int))) (hDB41.2.2.2.1.2.2.2.1) ?_
              refine lv_iconst (v := zI 1) hx hb udX12_readsSyllables_110 rfl ?_
              refine lv_iload_n hx hb udX12_readsSyllables_111 rfl (lv_at hl 0 rfl) ?_
              refine lv_ishl hx hb udX12_readsSyllables_112 ?_
              refine r_val (v := (zI (((2 ^ y1.1) : Nat) : Int))) (zb_shl (n := y1.1) (by omega)) ?_
              have q48 := p2_b (n := y1.1) (by omega)
              refine lv_ior hx hb udX12_readsSyllables_113 ?_
              refine r_val (v := (zI (((y1.2.2 ||| (2 ^ y1.1)) : Nat) : Int))) (zb_or y1.2.2 (2 ^ y1.1)) ?_
              have q49 := or_lt12 (a := y1.2.2) (b := (2 ^ y1.1)) (by omega) (by omega)
              refine g_iast F w (a := 151) rfl (j := 27) ⟨by decide, by decide⟩ (by omega) udX12_readsSyllables_114 (fun H locs w => ?_)
              refine lv_aload_n hx hb udX12_readsSyllables_115 rfl (lv_at hl 3 rfl) ?_
              refine f_12_10 F w (a := 146) rfl utb_93 udX12_readsSyllables_116 ?_
              refine lv_bipush (v := zI 25) hx hb udX12_readsSyllables_119 (by decide) ?_
              refine lv_dup2_11 hx hb udX12_readsSyllables_121 rfl rfl ?_
              refine g_iald F w (a := 151) rfl (j := 25) ⟨by decide, by decide⟩ (by omega) udX12_readsSyllables_122 ?_
              have hq49 := hDB41.2.2.2.2.1.2.1
              refine r_val (v := (zI ((y1.1 : Nat) : Int))) ((st_ne (Or.inr (by omega))).trans (hDB41.2.2.2.1.2.1)) ?_
              refine lv_iconst (v := zI 1) hx hb udX12_readsSyllables_123 rfl ?_
              refine z_iadd (z := (((y1.1 + 1) : Nat) : Int)) hx hb udX12_readsSyllables_124 (by omega) ?_
              refine g_iast F w (a := 151) rfl (j := 25) ⟨by decide, by decide⟩ (by omega) udX12_readsSyllables_125 (fun H locs w => ?_)
              refine lv_aload_n hx hb udX12_readsSyllables_126 rfl (lv_at hl 3 rfl) ?_
              refine lv_dup hx hb udX12_readsSyllables_127 rfl ?_
              refine f_12_9 F w (a := 146) rfl utb_96 udX12_readsSyllables_128 ?_
              refine r_val (v := (zI (((sk T tn (i + 1)) : Nat) : Int))) ((st_ne (Or.inl (by omega))).trans ((st_ne (Or.inl (by omega))).trans (hDB41.2.1))) ?_
              refine lv_iconst (v := zI 1) hx hb udX12_readsSyllables_131 rfl ?_
              refine z_iadd (z := ((((sk T tn (i + 1)) + 1) : Nat) : Int)) hx hb udX12_readsSyllables_132 (by omega) ?_
              refine u_12_9 F w (a := 146) rfl utb_96 udX12_readsSyllables_133 (fun H locs w => ?_)
              refine lv_aload_n hx hb udX12_readsSyllables_136 rfl (lv_at hl 3 rfl) ?_
              have hD51 : ES (st (st Ma42 151 27 (zI (((y1.2.2 ||| (2 ^ y1.1)) : Nat) : Int))) 151 25 (zI (((y1.1 + 1) : Nat) : Int))) T tn (sk T tn (i + 1)) (syO y1 0 1) o := ES.w hDB41 (Fr1.tr Fr1.s Fr1.s) (EW.sy hDB41.2.2.2 (rqW (reW hDB41.2.2.2.1 hDB41.2.2.2.2.1.1) hDB41.2.2.2.2.1.1) (sbit_id hDB41.2.2.2.2.2.1) sbit_on (by omega))
              have fD51 : FrE (st (st Ma42 151 27 (zI (((y1.2.2 ||| (2 ^ y1.1)) : Nat) : Int))) 151 25 (zI (((y1.1 + 1) : Nat) : Int))) M := (FrE.tr (FrE.tr fDB41 FrE.s) FrE.s)
              have hD52 : ES (st (st (st Ma42 151 27 (zI (((y1.2.2 ||| (2 ^ y1.1)) : Nat) : Int))) 151 25 (zI (((y1.1 + 1) : Nat) : Int))) 146 9 (zI ((((sk T tn (i + 1)) + 1) : Nat) : Int))) T tn ((sk T tn (i + 1)) + 1) (syO y1 0 1) o := ES.at hD51 (by omega)
              have fD52 : FrE (st (st (st Ma42 151 27 (zI (((y1.2.2 ||| (2 ^ y1.1)) : Nat) : Int))) 151 25 (zI (((y1.1 + 1) : Nat) : Int))) 146 9 (zI ((((sk T tn (i + 1)) + 1) : Nat) : Int))) M := FrE.tr fD51 FrE.a
              refine k_Vv F w (As := []) (rest := []) (a := 146) (kd_lt (a := 146) (show kd 146 = (12, 0, 0) from rfl) (by decide)) (sh_12 rfl _ _) rfl (t_blanks hT hD52.1 hD52.2.1 hD52.2.2.1) ugv_X12_179 uhv_X12_blanks ⟨(by omega), (by omega)⟩ hl.1 rfl (Nat.le_of_ble_eq_true rfl) ⟨Nat.zero_le _, Nat.zero_le _⟩ udX12_readsSyllables_137 (fun Ma54 H locs hp w => ?_)
              rcases hp with ⟨hB53, gB53⟩
              have hkB53 := sk_le (T := T) (N := tn) (i := ((sk T tn (i + 1)) + 1)) (by omega)
              have hDB53 : ES Ma54 T tn (sk T tn ((sk T tn (i + 1)) + 1)) (syO y1 0 1) o := ES.b hD52 gB53 hB53 (by omega)
              have fDB53 : FrE Ma54 M := FrE.tr fD52 (FrE.n9 gB53)
              refine lv_goto (tgt := 4) hx hb udX12_readsSyllables_140 (by decide) ?_
              exact ih (sk T tn ((sk T tn (i + 1)) + 1)) Ma54 (syO y1 0 1) (fu - 1 - 1) hDB53 (((rs_d (by omega) (by omega) rfl (by omega)).trans (rs_y (b := 0) (by omega) (by omega) (by omega) (by have h9 := hO_a (T (sk T tn (i + 1))); omega) (by omega))).symm.trans i1) fDB53 (by omega) (by omega) _ _ ls w (lv_sub hl [3] rfl)
            · refine lv_aload_n hx hb udX12_readsSyllables_85 rfl (lv_at hl 3 rfl) ?_
              refine f_12_10 F w (a := 146) rfl utb_93 udX12_readsSyllables_86 ?_
              refine lv_bipush (v := zI 26) hx hb udX12_readsSyllables_89 (by decide) ?_
              refine lv_dup2_11 hx hb udX12_readsSyllables_91 rfl rfl ?_
              refine g_iald F w (a := 151) rfl (j := 26) ⟨by decide, by decide⟩ (by omega) udX12_readsSyllables_92 ?_
              have hw54 := hDB41.2.2.2.wf.2.2.1
              refine r_val (v := (zI ((y1.2.1 : Nat) : Int))) (hDB41.2.2.2.1.2.2.1) ?_
              refine lv_iconst (v := zI 1) hx hb udX12_readsSyllables_93 rfl ?_
              refine lv_iload_n hx hb udX12_readsSyllables_94 rfl (lv_at hl 0 rfl) ?_
              refine lv_ishl hx hb udX12_readsSyllables_95 ?_
              refine r_val (v := (zI (((2 ^ y1.1) : Nat) : Int))) (zb_shl (n := y1.1) (by omega)) ?_
              have q55 := p2_b (n := y1.1) (by omega)
              refine lv_ior hx hb udX12_readsSyllables_96 ?_
              refine r_val (v := (zI (((y1.2.1 ||| (2 ^ y1.1)) : Nat) : Int))) (zb_or y1.2.1 (2 ^ y1.1)) ?_
              have q56 := or_lt12 (a := y1.2.1) (b := (2 ^ y1.1)) (by omega) (by omega)
              refine g_iast F w (a := 151) rfl (j := 26) ⟨by decide, by decide⟩ (by omega) udX12_readsSyllables_97 (fun H locs w => ?_)
              refine lv_iload_n hx hb udX12_readsSyllables_98 rfl (lv_at hl 2 rfl) ?_
              refine z_if_eq (tgt := 115) hx hb (by omega) udX12_readsSyllables_99 (by decide) (fun c57 => False.elim (by omega)) (fun c57 => ?_)
              refine lv_aload_n hx hb udX12_readsSyllables_102 rfl (lv_at hl 3 rfl) ?_
              refine f_12_10 F w (a := 146) rfl utb_93 udX12_readsSyllables_103 ?_
              refine lv_bipush (v := zI 27) hx hb udX12_readsSyllables_106 (by decide) ?_
              refine lv_dup2_11 hx hb udX12_readsSyllables_108 rfl rfl ?_
              refine g_iald F w (a := 151) rfl (j := 27) ⟨by decide, by decide⟩ (by omega) udX12_readsSyllables_109 ?_
              have hw57 := hDB41.2.2.2.wf.2.2.2.1
              refine r_val (v := (zI ((y1.2.2 : Nat) : Int))) ((st_ne (Or.inr (by omega))).trans (hDB41.2.2.2.1.2.2.2.1)) ?_
              refine lv_iconst (v := zI 1) hx hb udX12_readsSyllables_110 rfl ?_
              refine lv_iload_n hx hb udX12_readsSyllables_111 rfl (lv_at hl 0 rfl) ?_
              refine lv_ishl hx hb udX12_readsSyllables_112 ?_
              refine r_val (v := (zI (((2 ^ y1.1) : Nat) : Int))) (zb_shl (n := y1.1) (by omega)) ?_
              have q58 := p2_b (n := y1.1) (by omega)
              refine lv_ior hx hb udX12_readsSyllables_113 ?_
              refine r_val (v := (zI (((y1.2.2 ||| (2 ^ y1.1)) : Nat) : Int))) (zb_or y1.2.2 (2 ^ y1.1)) ?_
              have q59 := or_lt12 (a := y1.2.2) (b := (2 ^ y1.1)) (by omega) (by omega)
              refine g_iast F w (a := 151) rfl (j := 27) ⟨by decide, by decide⟩ (by omega) udX12_readsSyllables_114 (fun H locs w => ?_)
              refine lv_aload_n hx hb udX12_readsSyllables_115 rfl (lv_at hl 3 rfl) ?_
              refine f_12_10 F w (a := 146) rfl utb_93 udX12_readsSyllables_116 ?_
              refine lv_bipush (v := zI 25) hx hb udX12_readsSyllables_119 (by decide) ?_
              refine lv_dup2_11 hx hb udX12_readsSyllables_121 rfl rfl ?_
              refine g_iald F w (a := 151) rfl (j := 25) ⟨by decide, by decide⟩ (by omega) udX12_readsSyllables_122 ?_
              have hq59 := hDB41.2.2.2.2.1.2.1
              refine r_val (v := (zI ((y1.1 : Nat) : Int))) ((st_ne (Or.inr (by omega))).trans ((st_ne (Or.inr (by omega))).trans (hDB41.2.2.2.1.2.1))) ?_
              refine lv_iconst (v := zI 1) hx hb udX12_readsSyllables_123 rfl ?_
              refine z_iadd (z := (((y1.1 + 1) : Nat) : Int)) hx hb udX12_readsSyllables_124 (by omega) ?_
              refine g_iast F w (a := 151) rfl (j := 25) ⟨by decide, by decide⟩ (by omega) udX12_readsSyllables_125 (fun H locs w => ?_)
              refine lv_aload_n hx hb udX12_readsSyllables_126 rfl (lv_at hl 3 rfl) ?_
              refine lv_dup hx hb udX12_readsSyllables_127 rfl ?_
              refine f_12_9 F w (a := 146) rfl utb_96 udX12_readsSyllables_128 ?_
              refine r_val (v := (zI (((sk T tn (i + 1)) : Nat) : Int))) ((st_ne (Or.inl (by omega))).trans ((st_ne (Or.inl (by omega))).trans ((st_ne (Or.inl (by omega))).trans (hDB41.2.1)))) ?_
              refine lv_iconst (v := zI 1) hx hb udX12_readsSyllables_131 rfl ?_
              refine z_iadd (z := ((((sk T tn (i + 1)) + 1) : Nat) : Int)) hx hb udX12_readsSyllables_132 (by omega) ?_
              refine u_12_9 F w (a := 146) rfl utb_96 udX12_readsSyllables_133 (fun H locs w => ?_)
              refine lv_aload_n hx hb udX12_readsSyllables_136 rfl (lv_at hl 3 rfl) ?_
              have hD62 : ES (st (st (st Ma42 151 26 (zI (((y1.2.1 ||| (2 ^ y1.1)) : Nat) : Int))) 151 27 (zI (((y1.2.2 ||| (2 ^ y1.1)) : Nat) : Int))) 151 25 (zI (((y1.1 + 1) : Nat) : Int))) T tn (sk T tn (i + 1)) (syO y1 1 1) o := ES.w hDB41 (Fr1.tr (Fr1.tr Fr1.s Fr1.s) Fr1.s) (EW.sy hDB41.2.2.2 (rqW (reW (rhW hDB41.2.2.2.1 hDB41.2.2.2.2.1.1) hDB41.2.2.2.2.1.1) hDB41.2.2.2.2.1.1) sbit_on sbit_on (by omega))
              have fD62 : FrE (st (st (st Ma42 151 26 (zI (((y1.2.1 ||| (2 ^ y1.1)) : Nat) : Int))) 151 27 (zI (((y1.2.2 ||| (2 ^ y1.1)) : Nat) : Int))) 151 25 (zI (((y1.1 + 1) : Nat) : Int))) M := (FrE.tr (FrE.tr (FrE.tr fDB41 FrE.s) FrE.s) FrE.s)
              have hD63 : ES (st (st (st (st Ma42 151 26 (zI (((y1.2.1 ||| (2 ^ y1.1)) : Nat) : Int))) 151 27 (zI (((y1.2.2 ||| (2 ^ y1.1)) : Nat) : Int))) 151 25 (zI (((y1.1 + 1) : Nat) : Int))) 146 9 (zI ((((sk T tn (i + 1)) + 1) : Nat) : Int))) T tn ((sk T tn (i + 1)) + 1) (syO y1 1 1) o := ES.at hD62 (by omega)
              have fD63 : FrE (st (st (st (st Ma42 151 26 (zI (((y1.2.1 ||| (2 ^ y1.1)) : Nat) : Int))) 151 27 (zI (((y1.2.2 ||| (2 ^ y1.1)) : Nat) : Int))) 151 25 (zI (((y1.1 + 1) : Nat) : Int))) 146 9 (zI ((((sk T tn (i + 1)) + 1) : Nat) : Int))) M := FrE.tr fD62 FrE.a
              refine k_Vv F w (As := []) (rest := []) (a := 146) (kd_lt (a := 146) (show kd 146 = (12, 0, 0) from rfl) (by decide)) (sh_12 rfl _ _) rfl (t_blanks hT hD63.1 hD63.2.1 hD63.2.2.1) ugv_X12_179 uhv_X12_blanks ⟨(by omega), (by omega)⟩ hl.1 rfl (Nat.le_of_ble_eq_true rfl) ⟨Nat.zero_le _, Nat.zero_le _⟩ udX12_readsSyllables_137 (fun Ma65 H locs hp w => ?_)
              rcases hp with ⟨hB64, gB64⟩
              have hkB64 := sk_le (T := T) (N := tn) (i := ((sk T tn (i + 1)) + 1)) (by omega)
              have hDB64 : ES Ma65 T tn (sk T tn ((sk T tn (i + 1)) + 1)) (syO y1 1 1) o := ES.b hD63 gB64 hB64 (by omega)
              have fDB64 : FrE Ma65 M := FrE.tr fD63 (FrE.n9 gB64)
              refine lv_goto (tgt := 4) hx hb udX12_readsSyllables_140 (by decide) ?_
              exact ih (sk T tn ((sk T tn (i + 1)) + 1)) Ma65 (syO y1 1 1) (fu - 1 - 1) hDB64 (((rs_d (by omega) (by omega) rfl (by omega)).trans (rs_y (b := 1) (by omega) (by omega) (by omega) (by have h9 := hO_a (T (sk T tn (i + 1))); omega) (by omega))).symm.trans i1) fDB64 (by omega) (by omega) _ _ ls w (lv_sub hl [3] rfl)
          · refine lv_iconst (v := zI 0) hx hb udX12_readsSyllables_77 rfl ?_
            exact e_z F w hr hlocks (nar_z (by omega)) (Or.inr ⟨i1.symm.trans ((rs_d (by omega) (by omega) rfl (by omega)).trans (rs_g (by omega) (by omega) (by omega))), rfl, hDB41.o, fDB41⟩) udX12_readsSyllables_78
        · refine lv_iload_n hx hb udX12_readsSyllables_65 rfl (lv_at hl 1 rfl) ?_
          refine lv_bipush (v := zI 79) hx hb udX12_readsSyllables_66 (by decide) ?_
          refine z_icmp_ne (tgt := 77) hx hb (by omega) (by omega) udX12_readsSyllables_68 (by decide) (fun c66 => ?_) (fun c66 => ?_)
          · refine lv_iconst (v := zI 0) hx hb udX12_readsSyllables_77 rfl ?_
            exact e_z F w hr hlocks (nar_z (by omega)) (Or.inr ⟨i1.symm.trans ((rs_d (by omega) (by omega) rfl (by omega)).trans (rs_g (by omega) (by omega) (by omega))), rfl, hDB41.o, fDB41⟩) udX12_readsSyllables_78
          · refine lv_iload_n hx hb udX12_readsSyllables_71 rfl (lv_at hl 0 rfl) ?_
            refine lv_bipush (v := zI 12) hx hb udX12_readsSyllables_72 (by decide) ?_
            refine z_icmp_ne (tgt := 79) hx hb (by omega) (by omega) udX12_readsSyllables_74 (by decide) (fun c67 => ?_) (fun c67 => ?_)
            · refine lv_iload_n hx hb udX12_readsSyllables_79 rfl (lv_at hl 1 rfl) ?_
              refine lv_bipush (v := zI 79) hx hb udX12_readsSyllables_80 (by decide) ?_
              refine z_icmp_ne (tgt := 98) hx hb (by omega) (by omega) udX12_readsSyllables_82 (by decide) (fun c68 => ?_) (fun c68 => ?_)
              · refine lv_iload_n hx hb udX12_readsSyllables_98 rfl (lv_at hl 2 rfl) ?_
                refine z_if_eq (tgt := 115) hx hb (by omega) udX12_readsSyllables_99 (by decide) (fun c69 => False.elim (by omega)) (fun c69 => ?_)
                refine lv_aload_n hx hb udX12_readsSyllables_102 rfl (lv_at hl 3 rfl) ?_
                refine f_12_10 F w (a := 146) rfl utb_93 udX12_readsSyllables_103 ?_
                refine lv_bipush (v := zI 27) hx hb udX12_readsSyllables_106 (by decide) ?_
                refine lv_dup2_11 hx hb udX12_readsSyllables_108 rfl rfl ?_
                refine g_iald F w (a := 151) rfl (j := 27) ⟨by decide, by decide⟩ (by omega) udX12_readsSyllables_109 ?_
                have hw69 := hDB41.2.2.2.wf.2.2.2.1
                refine r_val (v := (zI ((y1.2.2 : Nat) : Int))) (hDB41.2.2.2.1.2.2.2.1) ?_
                refine lv_iconst (v := zI 1) hx hb udX12_readsSyllables_110 rfl ?_
                refine lv_iload_n hx hb udX12_readsSyllables_111 rfl (lv_at hl 0 rfl) ?_
                refine lv_ishl hx hb udX12_readsSyllables_112 ?_
                refine r_val (v := (zI (((2 ^ y1.1) : Nat) : Int))) (zb_shl (n := y1.1) (by omega)) ?_
                have q70 := p2_b (n := y1.1) (by omega)
                refine lv_ior hx hb udX12_readsSyllables_113 ?_
                refine r_val (v := (zI (((y1.2.2 ||| (2 ^ y1.1)) : Nat) : Int))) (zb_or y1.2.2 (2 ^ y1.1)) ?_
                have q71 := or_lt12 (a := y1.2.2) (b := (2 ^ y1.1)) (by omega) (by omega)
                refine g_iast F w (a := 151) rfl (j := 27) ⟨by decide, by decide⟩ (by omega) udX12_readsSyllables_114 (fun H locs w => ?_)
                refine lv_aload_n hx hb udX12_readsSyllables_115 rfl (lv_at hl 3 rfl) ?_
                refine f_12_10 F w (a := 146) rfl utb_93 udX12_readsSyllables_116 ?_
                refine lv_bipush (v := zI 25) hx hb udX12_readsSyllables_119 (by decide) ?_
                refine lv_dup2_11 hx hb udX12_readsSyllables_121 rfl rfl ?_
                refine g_iald F w (a := 151) rfl (j := 25) ⟨by decide, by decide⟩ (by omega) udX12_readsSyllables_122 ?_
                have hq71 := hDB41.2.2.2.2.1.2.1
                refine r_val (v := (zI ((y1.1 : Nat) : Int))) ((st_ne (Or.inr (by omega))).trans (hDB41.2.2.2.1.2.1)) ?_
                refine lv_iconst (v := zI 1) hx hb udX12_readsSyllables_123 rfl ?_
                refine z_iadd (z := (((y1.1 + 1) : Nat) : Int)) hx hb udX12_readsSyllables_124 (by omega) ?_
                refine g_iast F w (a := 151) rfl (j := 25) ⟨by decide, by decide⟩ (by omega) udX12_readsSyllables_125 (fun H locs w => ?_)
                refine lv_aload_n hx hb udX12_readsSyllables_126 rfl (lv_at hl 3 rfl) ?_
                refine lv_dup hx hb udX12_readsSyllables_127 rfl ?_
                refine f_12_9 F w (a := 146) rfl utb_96 udX12_readsSyllables_128 ?_
                refine r_val (v := (zI (((sk T tn (i + 1)) : Nat) : Int))) ((st_ne (Or.inl (by omega))).trans ((st_ne (Or.inl (by omega))).trans (hDB41.2.1))) ?_
                refine lv_iconst (v := zI 1) hx hb udX12_readsSyllables_131 rfl ?_
                refine z_iadd (z := ((((sk T tn (i + 1)) + 1) : Nat) : Int)) hx hb udX12_readsSyllables_132 (by omega) ?_
                refine u_12_9 F w (a := 146) rfl utb_96 udX12_readsSyllables_133 (fun H locs w => ?_)
                refine lv_aload_n hx hb udX12_readsSyllables_136 rfl (lv_at hl 3 rfl) ?_
                have hD73 : ES (st (st Ma42 151 27 (zI (((y1.2.2 ||| (2 ^ y1.1)) : Nat) : Int))) 151 25 (zI (((y1.1 + 1) : Nat) : Int))) T tn (sk T tn (i + 1)) (syO y1 0 1) o := ES.w hDB41 (Fr1.tr Fr1.s Fr1.s) (EW.sy hDB41.2.2.2 (rqW (reW hDB41.2.2.2.1 hDB41.2.2.2.2.1.1) hDB41.2.2.2.2.1.1) (sbit_id hDB41.2.2.2.2.2.1) sbit_on (by omega))
                have fD73 : FrE (st (st Ma42 151 27 (zI (((y1.2.2 ||| (2 ^ y1.1)) : Nat) : Int))) 151 25 (zI (((y1.1 + 1) : Nat) : Int))) M := (FrE.tr (FrE.tr fDB41 FrE.s) FrE.s)
                have hD74 : ES (st (st (st Ma42 151 27 (zI (((y1.2.2 ||| (2 ^ y1.1)) : Nat) : Int))) 151 25 (zI (((y1.1 + 1) : Nat) : Int))) 146 9 (zI ((((sk T tn (i + 1)) + 1) : Nat) : Int))) T tn ((sk T tn (i + 1)) + 1) (syO y1 0 1) o := ES.at hD73 (by omega)
                have fD74 : FrE (st (st (st Ma42 151 27 (zI (((y1.2.2 ||| (2 ^ y1.1)) : Nat) : Int))) 151 25 (zI (((y1.1 + 1) : Nat) : Int))) 146 9 (zI ((((sk T tn (i + 1)) + 1) : Nat) : Int))) M := FrE.tr fD73 FrE.a
                refine k_Vv F w (As := []) (rest := []) (a := 146) (kd_lt (a := 146) (show kd 146 = (12, 0, 0) from rfl) (by decide)) (sh_12 rfl _ _) rfl (t_blanks hT hD74.1 hD74.2.1 hD74.2.2.1) ugv_X12_179 uhv_X12_blanks ⟨(by omega), (by omega)⟩ hl.1 rfl (Nat.le_of_ble_eq_true rfl) ⟨Nat.zero_le _, Nat.zero_le _⟩ udX12_readsSyllables_137 (fun Ma76 H locs hp w => ?_)
                rcases hp with ⟨hB75, gB75⟩
                have hkB75 := sk_le (T := T) (N := tn) (i := ((sk T tn (i + 1)) + 1)) (by omega)
                have hDB75 : ES Ma76 T tn (sk T tn ((sk T tn (i + 1)) + 1)) (syO y1 0 1) o := ES.b hD74 gB75 hB75 (by omega)
                have fDB75 : FrE Ma76 M := FrE.tr fD74 (FrE.n9 gB75)
                refine lv_goto (tgt := 4) hx hb udX12_readsSyllables_140 (by decide) ?_
                exact ih (sk T tn ((sk T tn (i + 1)) + 1)) Ma76 (syO y1 0 1) (fu - 1 - 1) hDB75 (((rs_d (by omega) (by omega) rfl (by omega)).trans (rs_y (b := 0) (by omega) (by omega) (by omega) (by have h9 := hO_a (T (sk T tn (i + 1))); omega) (by omega))).symm.trans i1) fDB75 (by omega) (by omega) _ _ ls w (lv_sub hl [3] rfl)
              · refine lv_aload_n hx hb udX12_readsSyllables_85 rfl (lv_at hl 3 rfl) ?_
                refine f_12_10 F w (a := 146) rfl utb_93 udX12_readsSyllables_86 ?_
                refine lv_bipush (v := zI 26) hx hb udX12_readsSyllables_89 (by decide) ?_
                refine lv_dup2_11 hx hb udX12_readsSyllables_91 rfl rfl ?_
                refine g_iald F w (a := 151) rfl (j := 26) ⟨by decide, by decide⟩ (by omega) udX12_readsSyllables_92 ?_
                have hw76 := hDB41.2.2.2.wf.2.2.1
                refine r_val (v := (zI ((y1.2.1 : Nat) : Int))) (hDB41.2.2.2.1.2.2.1) ?_
                refine lv_iconst (v := zI 1) hx hb udX12_readsSyllables_93 rfl ?_
                refine lv_iload_n hx hb udX12_readsSyllables_94 rfl (lv_at hl 0 rfl) ?_
                refine lv_ishl hx hb udX12_readsSyllables_95 ?_
                refine r_val (v := (zI (((2 ^ y1.1) : Nat) : Int))) (zb_shl (n := y1.1) (by omega)) ?_
                have q77 := p2_b (n := y1.1) (by omega)
                refine lv_ior hx hb udX12_readsSyllables_96 ?_
                refine r_val (v := (zI (((y1.2.1 ||| (2 ^ y1.1)) : Nat) : Int))) (zb_or y1.2.1 (2 ^ y1.1)) ?_
                have q78 := or_lt12 (a := y1.2.1) (b := (2 ^ y1.1)) (by omega) (by omega)
                refine g_iast F w (a := 151) rfl (j := 26) ⟨by decide, by decide⟩ (by omega) udX12_readsSyllables_97 (fun H locs w => ?_)
                refine lv_iload_n hx hb udX12_readsSyllables_98 rfl (lv_at hl 2 rfl) ?_
                refine z_if_eq (tgt := 115) hx hb (by omega) udX12_readsSyllables_99 (by decide) (fun c79 => False.elim (by omega)) (fun c79 => ?_)
                refine lv_aload_n hx hb udX12_readsSyllables_102 rfl (lv_at hl 3 rfl) ?_
                refine f_12_10 F w (a := 146) rfl utb_93 udX12_readsSyllables_103 ?_
                refine lv_bipush (v := zI 27) hx hb udX12_readsSyllables_106 (by decide) ?_
                refine lv_dup2_11 hx hb udX12_readsSyllables_108 rfl rfl ?_
                refine g_iald F w (a := 151) rfl (j := 27) ⟨by decide, by decide⟩ (by omega) udX12_readsSyllables_109 ?_
                have hw79 := hDB41.2.2.2.wf.2.2.2.1
                refine r_val (v := (zI ((y1.2.2 : Nat) : Int))) ((st_ne (Or.inr (by omega))).trans (hDB41.2.2.2.1.2.2.2.1)) ?_
                refine lv_iconst (v := zI 1) hx hb udX12_readsSyllables_110 rfl ?_
                refine lv_iload_n hx hb udX12_readsSyllables_111 rfl (lv_at hl 0 rfl) ?_
                refine lv_ishl hx hb udX12_readsSyllables_112 ?_
                refine r_val (v := (zI (((2 ^ y1.1) : Nat) : Int))) (zb_shl (n := y1.1) (by omega)) ?_
                have q80 := p2_b (n := y1.1) (by omega)
                refine lv_ior hx hb udX12_readsSyllables_113 ?_
                refine r_val (v := (zI (((y1.2.2 ||| (2 ^ y1.1)) : Nat) : Int))) (zb_or y1.2.2 (2 ^ y1.1)) ?_
                have q81 := or_lt12 (a := y1.2.2) (b := (2 ^ y1.1)) (by omega) (by omega)
                refine g_iast F w (a := 151) rfl (j := 27) ⟨by decide, by decide⟩ (by omega) udX12_readsSyllables_114 (fun H locs w => ?_)
                refine lv_aload_n hx hb udX12_readsSyllables_115 rfl (lv_at hl 3 rfl) ?_
                refine f_12_10 F w (a := 146) rfl utb_93 udX12_readsSyllables_116 ?_
                refine lv_bipush (v := zI 25) hx hb udX12_readsSyllables_119 (by decide) ?_
                refine lv_dup2_11 hx hb udX12_readsSyllables_121 rfl rfl ?_
                refine g_iald F w (a := 151) rfl (j := 25) ⟨by decide, by decide⟩ (by omega) udX12_readsSyllables_122 ?_
                have hq81 := hDB41.2.2.2.2.1.2.1
                refine r_val (v := (zI ((y1.1 : Nat) : Int))) ((st_ne (Or.inr (by omega))).trans ((st_ne (Or.inr (by omega))).trans (hDB41.2.2.2.1.2.1))) ?_
                refine lv_iconst (v := zI 1) hx hb udX12_readsSyllables_123 rfl ?_
                refine z_iadd (z := (((y1.1 + 1) : Nat) : Int)) hx hb udX12_readsSyllables_124 (by omega) ?_
                refine g_iast F w (a := 151) rfl (j := 25) ⟨by decide, by decide⟩ (by omega) udX12_readsSyllables_125 (fun H locs w => ?_)
                refine lv_aload_n hx hb udX12_readsSyllables_126 rfl (lv_at hl 3 rfl) ?_
                refine lv_dup hx hb udX12_readsSyllables_127 rfl ?_
                refine f_12_9 F w (a := 146) rfl utb_96 udX12_readsSyllables_128 ?_
                refine r_val (v := (zI (((sk T tn (i + 1)) : Nat) : Int))) ((st_ne (Or.inl (by omega))).trans ((st_ne (Or.inl (by omega))).trans ((st_ne (Or.inl (by omega))).trans (hDB41.2.1)))) ?_
                refine lv_iconst (v := zI 1) hx hb udX12_readsSyllables_131 rfl ?_
                refine z_iadd (z := ((((sk T tn (i + 1)) + 1) : Nat) : Int)) hx hb udX12_readsSyllables_132 (by omega) ?_
                refine u_12_9 F w (a := 146) rfl utb_96 udX12_readsSyllables_133 (fun H locs w => ?_)
                refine lv_aload_n hx hb udX12_readsSyllables_136 rfl (lv_at hl 3 rfl) ?_
                have hD84 : ES (st (st (st Ma42 151 26 (zI (((y1.2.1 ||| (2 ^ y1.1)) : Nat) : Int))) 151 27 (zI (((y1.2.2 ||| (2 ^ y1.1)) : Nat) : Int))) 151 25 (zI (((y1.1 + 1) : Nat) : Int))) T tn (sk T tn (i + 1)) (syO y1 1 1) o := ES.w hDB41 (Fr1.tr (Fr1.tr Fr1.s Fr1.s) Fr1.s) (EW.sy hDB41.2.2.2 (rqW (reW (rhW hDB41.2.2.2.1 hDB41.2.2.2.2.1.1) hDB41.2.2.2.2.1.1) hDB41.2.2.2.2.1.1) sbit_on sbit_on (by omega))
                have fD84 : FrE (st (st (st Ma42 151 26 (zI (((y1.2.1 ||| (2 ^ y1.1)) : Nat) : Int))) 151 27 (zI (((y1.2.2 ||| (2 ^ y1.1)) : Nat) : Int))) 151 25 (zI (((y1.1 + 1) : Nat) : Int))) M := (FrE.tr (FrE.tr (FrE.tr fDB41 FrE.s) FrE.s) FrE.s)
                have hD85 : ES (st (st (st (st Ma42 151 26 (zI (((y1.2.1 ||| (2 ^ y1.1)) : Nat) : Int))) 151 27 (zI (((y1.2.2 ||| (2 ^ y1.1)) : Nat) : Int))) 151 25 (zI (((y1.1 + 1) : Nat) : Int))) 146 9 (zI ((((sk T tn (i + 1)) + 1) : Nat) : Int))) T tn ((sk T tn (i + 1)) + 1) (syO y1 1 1) o := ES.at hD84 (by omega)
                have fD85 : FrE (st (st (st (st Ma42 151 26 (zI (((y1.2.1 ||| (2 ^ y1.1)) : Nat) : Int))) 151 27 (zI (((y1.2.2 ||| (2 ^ y1.1)) : Nat) : Int))) 151 25 (zI (((y1.1 + 1) : Nat) : Int))) 146 9 (zI ((((sk T tn (i + 1)) + 1) : Nat) : Int))) M := FrE.tr fD84 FrE.a
                refine k_Vv F w (As := []) (rest := []) (a := 146) (kd_lt (a := 146) (show kd 146 = (12, 0, 0) from rfl) (by decide)) (sh_12 rfl _ _) rfl (t_blanks hT hD85.1 hD85.2.1 hD85.2.2.1) ugv_X12_179 uhv_X12_blanks ⟨(by omega), (by omega)⟩ hl.1 rfl (Nat.le_of_ble_eq_true rfl) ⟨Nat.zero_le _, Nat.zero_le _⟩ udX12_readsSyllables_137 (fun Ma87 H locs hp w => ?_)
                rcases hp with ⟨hB86, gB86⟩
                have hkB86 := sk_le (T := T) (N := tn) (i := ((sk T tn (i + 1)) + 1)) (by omega)
                have hDB86 : ES Ma87 T tn (sk T tn ((sk T tn (i + 1)) + 1)) (syO y1 1 1) o := ES.b hD85 gB86 hB86 (by omega)
                have fDB86 : FrE Ma87 M := FrE.tr fD85 (FrE.n9 gB86)
                refine lv_goto (tgt := 4) hx hb udX12_readsSyllables_140 (by decide) ?_
                exact ih (sk T tn ((sk T tn (i + 1)) + 1)) Ma87 (syO y1 1 1) (fu - 1 - 1) hDB86 (((rs_d (by omega) (by omega) rfl (by omega)).trans (rs_y (b := 1) (by omega) (by omega) (by omega) (by have h9 := hO_a (T (sk T tn (i + 1))); omega) (by omega))).symm.trans i1) fDB86 (by omega) (by omega) _ _ ls w (lv_sub hl [3] rfl)
            · refine lv_iconst (v := zI 0) hx hb udX12_readsSyllables_77 rfl ?_
              exact e_z F w hr hlocks (nar_z (by omega)) (Or.inr ⟨i1.symm.trans ((rs_d (by omega) (by omega) rfl (by omega)).trans (rs_g (by omega) (by omega) (by omega))), rfl, hDB41.o, fDB41⟩) udX12_readsSyllables_78
theorem udX12_readsSyllables_0 : decode cX12_readsSyllables 0 = .ok (.aload_n 0, 1) := dq0 kk_42 (by decide +kernel)
theorem udX12_readsSyllables_1 : decode cX12_readsSyllables 1 = .ok (.invokevirtual 179, 3) := dqV kk_182 (by decide +kernel)
theorem udX12_readsSyllables_143 : decode cX12_readsSyllables 143 = .ok (.aload_n 0, 1) := dq0 kk_42 (by decide +kernel)
theorem udX12_readsSyllables_144 : decode cX12_readsSyllables 144 = .ok (.dup, 1) := dq0 kk_89 (by decide +kernel)
theorem udX12_readsSyllables_145 : decode cX12_readsSyllables 145 = .ok (.getfield 172, 3) := dqV kk_180 (by decide +kernel)
theorem udX12_readsSyllables_148 : decode cX12_readsSyllables 148 = .ok (.iconst 1, 1) := dq0 kk_4 (by decide +kernel)
theorem udX12_readsSyllables_149 : decode cX12_readsSyllables 149 = .ok (.iadd, 1) := dq0 kk_96 (by decide +kernel)
theorem udX12_readsSyllables_150 : decode cX12_readsSyllables 150 = .ok (.putfield 172, 3) := dqV kk_181 (by decide +kernel)
theorem udX12_readsSyllables_153 : decode cX12_readsSyllables 153 = .ok (.iconst 1, 1) := dq0 kk_4 (by decide +kernel)
theorem udX12_readsSyllables_154 : decode cX12_readsSyllables 154 = .ok (.ireturn, 1) := dq0 kk_172 (by decide +kernel)
set_option maxRecDepth 4000 in
theorem t_readsSyllables {l : Launch} {D : va_G} {B : Nat} {cy : Nat → ClassId} {M : Mem} {T : Nat → Nat} {tn : Nat} (hT : okT T tn) {b : Nat} {y : Sy} {o : Wo} (hD : ES M T tn b y o) : Ci l D B cy yX12_readsSyllables cX12_readsSyllables 4 (some .boolean) 2 40 [.ref (B + 146)] M (fun r M1 => ESQ T tn (rsF T tn 301 (sk T tn b) 0 y) o M r M1) := by
  refine s_any (by decide) (Nat.le_of_ble_eq_true rfl) ?_
  intro p e s m below meth c ls F hr hlocks w hl
  have F : CallFix p m c cX12_readsSyllables 4 s _ TB RX12 := F
  have hx := F.1
  have hb := F.2.1
  have hl : lv_has ls 4 [(0, .ref (B + 146))] := hl
  have hN := hT.1
  have hbN := hD.2.2.1
  refine lv_aload_n hx hb udX12_readsSyllables_0 rfl (lv_at hl 0 rfl) ?_
  refine k_Vv F w (As := []) (rest := []) (a := 146) (kd_lt (a := 146) (show kd 146 = (12, 0, 0) from rfl) (by decide)) (sh_12 rfl _ _) rfl (t_blanks hT hD.1 hD.2.1 hD.2.2.1) ugv_X12_179 uhv_X12_blanks ⟨(Nat.le_of_ble_eq_true rfl), (Nat.le_of_ble_eq_true rfl)⟩ hl.1 rfl (Nat.le_of_ble_eq_true rfl) ⟨Nat.zero_le _, Nat.zero_le _⟩ udX12_readsSyllables_1 (fun Ma2 H locs hp w => ?_)
  rcases hp with ⟨hB1, gB1⟩
  have hkB1 := sk_le (T := T) (N := tn) (i := b) (by omega)
  have hDB1 : ES Ma2 T tn (sk T tn b) y o := ES.b hD gB1 hB1 (by omega)
  have fDB1 : FrE Ma2 M := FrE.tr FrE.rf (FrE.n9 gB1)
  refine lp_X12_rsyl  F hr hlocks (Nat.le_of_ble_eq_true rfl) (Nat.le_of_ble_eq_true rfl) hT (fun i Nm y1 fu H locs ls x0 x1 x2 x3 w hl => ?_) tn (sk T tn b) Ma2 y 301 hDB1 rfl fDB1 (by omega) (by omega) _ _ ls w (lv_sub hl [0] rfl)
  refine lv_aload_n hx hb udX12_readsSyllables_143 rfl (lv_at hl 0 rfl) ?_
  refine lv_dup hx hb udX12_readsSyllables_144 rfl ?_
  refine f_12_9 F w (a := 146) rfl utb_96 udX12_readsSyllables_145 ?_
  refine r_val (v := (zI (i : Int))) (x1.2.1) ?_
  refine lv_iconst (v := zI 1) hx hb udX12_readsSyllables_148 rfl ?_
  refine z_iadd (z := (((i + 1) : Nat) : Int)) hx hb udX12_readsSyllables_149 (by omega) ?_
  refine u_12_9 F w (a := 146) rfl utb_96 udX12_readsSyllables_150 (fun H locs w => ?_)
  refine lv_iconst (v := zI 1) hx hb udX12_readsSyllables_153 rfl ?_
  have hD3 : ES (st Nm 146 9 (zI (((i + 1) : Nat) : Int))) T tn (i + 1) y1 o := ES.at x1 (by omega)
  have fD3 : FrE (st Nm 146 9 (zI (((i + 1) : Nat) : Int))) M := FrE.tr x2 FrE.a
  exact e_z F w hr hlocks (nar_z (by omega)) (Or.inl ⟨_, _, x0, rfl, hD3, fD3⟩) udX12_readsSyllables_154
