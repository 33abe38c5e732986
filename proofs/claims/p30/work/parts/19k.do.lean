-- the reference's word at work: what its methods do
def isV (M : Mem) (r : Nat) (P : Nat → Int) : Prop := ∀ k, k < 8 → M.1 149 (8 * r + k) = zI (P k)
theorem isV.fr {M M1 : Mem} {r : Nat} {P : Nat → Int} (h : isV M r P) (e : M1.1 149 = M.1 149) : isV M1 r P := fun k hk => by rw [e]; exact h k hk
def RQ (q hv ed : Nat) (f : Wo × Nat) (bd : Nat) (z : Int) (M M1 : Mem) : Prop := ∃ o1 cc, f = (o1, cc) ∧ RW M1 q hv ed o1 (z + ((cc : Nat) : Int)) ∧ FrC M1 M ∧ cc ≤ bd
theorem RW.e {M : Mem} {q hv ed : Nat} {o o2 : Wo} {z z2 : Int} (h : RW M q hv ed o z) (eo : o = o2) (ez : z = z2) : RW M q hv ed o2 z2 := eo ▸ ez ▸ h
theorem RQ.id {q hv ed bd : Nat} {f : Wo × Nat} {M : Mem} {o : Wo} {z : Int} (h : RW M q hv ed o z) (e : f = (o, 0)) : RQ q hv ed f bd z M M := ⟨o, 0, e, h.e rfl (by omega), FrC.rf, Nat.zero_le _⟩
theorem lineW2 {M : Mem} {n q hv ed t x : Nat} {K L : Nat → Nat} {z : Int32} (hW : isR M 148 n q hv ed K L) (hn : n ≤ 12) (ht : t < n) : isR (st (st M 146 3 z) 148 (13 + t) (zI (x : Int))) 148 n q hv ed K (updF L t x) ∧ (st (st M 146 3 z) 148 (13 + t) (zI (x : Int))).1 146 3 = z ∧ FrC (st (st M 146 3 z) 148 (13 + t) (zI (x : Int))) M := by
  obtain ⟨w0, w1, w2, w3, w4, w5⟩ := hW
  refine ⟨⟨?_, ?_, ?_, ?_, fun k hk => ?_, fun k hk => ?_⟩, by simp [st, sA, upd], ⟨fun b h1 h2 => by simp [st, sA, h1, h2], fun k h => by simp [st, sA, upd, h], rfl⟩⟩
  · simp only [st, sA]; simp; simp only [upd]; rw [if_neg (by omega)]; exact w0
  · simp only [st, sA]; simp; simp only [upd]; rw [if_neg (by omega)]; exact w1
  · simp only [st, sA]; simp; simp only [upd]; rw [if_neg (by omega)]; exact w2
  · simp only [st, sA]; simp; simp only [upd]; rw [if_neg (by omega)]; exact w3
  · simp only [st, sA]; simp; simp only [upd]; rw [if_neg (by omega)]; exact w4 k hk
  · simp only [st, sA, updF]; simp; simp only [upd]
    by_cases h : k = t
    · simp [h]
    · rw [if_neg (by omega), if_neg h]; exact w5 k hk
theorem FrC.of1 {M M1 : Mem} (h : Fr1 M1 M 148) : FrC M1 M := ⟨fun b _ h2 => h.1 b h2, fun k _ => congrFun (h.1 146 (by decide)) k, h.2⟩
theorem FrC.c3 {M : Mem} {x : Int32} : FrC (st M 146 3 x) M := ⟨fun b h1 h2 => by simp [st, sA, h1], fun k h => by simp [st, sA, upd, h], rfl⟩
theorem isR.c3 {M : Mem} {n q hv ed : Nat} {K L : Nat → Nat} {x : Int32} (h : isR M 148 n q hv ed K L) : isR (st M 146 3 x) 148 n q hv ed K L := by
  have e : (st M 146 3 x).1 148 = M.1 148 := by simp [st, sA]
  unfold isR
  rw [e]
  exact h
theorem remF_ins {F : Nat → Nat} {t x : Nat} : remF (insF F t x) t = F := by
  funext k
  unfold remF insF
  by_cases h : k < t
  · rw [if_pos h, if_pos h]
  · rw [if_neg h, if_neg (by omega), if_neg (by omega)]; rfl
/-- a tone that comes is open with a syllable: as the word says without it -/
theorem open_ins {n t s9 : Nat} {L : Nat → Nat} (ht : t ≤ n) : openP (n + 1) (insF L t 0) t s9 ↔ sideP n L t t s9 := by
  unfold openP sideP
  constructor
  · rintro ⟨_, h1, h2⟩
    refine ⟨fun u hu hn => ?_, fun u hu hn => ?_⟩
    · have := h1 u hu (by omega)
      unfold insF at this
      rw [if_pos hu] at this
      exact this
    · have := h2 (u + 1) (by omega) (by omega)
      unfold insF at this
      rw [if_neg (by omega), if_neg (by omega), Nat.add_sub_cancel] at this
      exact this
  · rintro ⟨h1, h2⟩
    refine ⟨by rw [insF_at]; exact Nat.zero_testBit s9, fun u hu hn => ?_, fun u hu hn => ?_⟩
    · unfold insF
      rw [if_pos hu]
      exact h1 u hu (by omega)
    · unfold insF
      rw [if_neg (by omega), if_neg (by omega)]
      exact h2 (u - 1) (by omega) (by omega)
theorem ts2_0 {P : Nat → Int} {q hv t : Nat} {o : Wo} (h : P 5 = 2) (h0 : o.2.2 t = 0) : ¬ tsP P q hv o t := fun h9 => by
  obtain ⟨k, e, _, _⟩ := (ts_2 h).mp h9
  rw [h0] at e
  have h8 : higI 0 = -1 := rfl
  omega
theorem ts2_n {P : Nat → Int} {q hv t : Nat} {o : Wo} (h : P 5 = 2) (h0 : o.2.2 t ≠ 0) (hb : ¬ hv.testBit (hig (o.2.2 t)) = true) : ¬ tsP P q hv o t := fun h9 => by
  obtain ⟨k, e, _, h8⟩ := (ts_2 h).mp h9
  rw [higI_nz h0] at e
  exact hb (by rw [show hig (o.2.2 t) = k by omega]; exact h8)
theorem ts2_y {P : Nat → Int} {q hv t : Nat} {o : Wo} (h : P 5 = 2) (hq : okW q o) (ht : t < o.1) (h0 : o.2.2 t ≠ 0) (hb : hv.testBit (hig (o.2.2 t)) = true) : tsP P q hv o t := (ts_2 h).mpr ⟨hig (o.2.2 t), higI_nz h0, hig_q (hq.lt ht) h0 (hq.2.2 t ht).2, hb⟩
theorem wdX12_fits_0 : decode cX12_fits 0 = .ok (.iload_n 1, 1) := dq0 kk_27 (by decide +kernel)
theorem wdX12_fits_1 : decode cX12_fits 1 = .ok (.iconst 3, 1) := dq0 kk_6 (by decide +kernel)
theorem wdX12_fits_2 : decode cX12_fits 2 = .ok (.if_icmp .eq 8, 3) := dqT kk_159 (by decide +kernel)
theorem wdX12_fits_10 : decode cX12_fits 10 = .ok (.iconst 1, 1) := dq0 kk_4 (by decide +kernel)
theorem wdX12_fits_11 : decode cX12_fits 11 = .ok (.goto 4, 3) := dqT kk_167 (by decide +kernel)
theorem wdX12_fits_15 : decode cX12_fits 15 = .ok (.ireturn, 1) := dq0 kk_172 (by decide +kernel)
theorem wdX12_fits_5 : decode cX12_fits 5 = .ok (.iload_n 0, 1) := dq0 kk_26 (by decide +kernel)
theorem wdX12_fits_6 : decode cX12_fits 6 = .ok (.iload_n 1, 1) := dq0 kk_27 (by decide +kernel)
theorem wdX12_fits_7 : decode cX12_fits 7 = .ok (.if_icmp .ne 7, 3) := dqT kk_160 (by decide +kernel)
theorem wdX12_fits_14 : decode cX12_fits 14 = .ok (.iconst 0, 1) := dq0 kk_3 (by decide +kernel)
set_option maxRecDepth 4000 in
theorem s_X12_fits {l : Launch} {D : va_G} {B : Nat} {cy : Nat → ClassId} {M : Mem} {x9 y9 : Int} (hx9 : rg x9) (hy9 : rg y9) : Ci l D B cy yX12_fits cX12_fits 2 (some .boolean) 0 0 [.int (zI x9), .int (zI y9)] M (fun r M1 => ((y9 = 3 ∨ x9 = y9) ∧ r = zI 1 ∨ ¬ (y9 = 3 ∨ x9 = y9) ∧ r = zI 0) ∧ M1 = M) := by
  refine s_any (by decide) (Nat.le_of_ble_eq_true rfl) ?_
  intro p e s m below meth c ls F hr hlocks w hl
  have F : CallFix p m c cX12_fits 2 s _ TB RX12 := F
  have hx := F.1
  have hb := F.2.1
  have hl : lv_has ls 2 [(0, .int (zI x9)), (1, .int (zI y9))] := hl
  refine lv_iload_n hx hb wdX12_fits_0 rfl (lv_at hl 1 rfl) ?_
  refine lv_iconst (v := zI 3) hx hb wdX12_fits_1 rfl ?_
  refine z_icmp_eq (tgt := 10) hx hb (by omega) (by omega) wdX12_fits_2 (by decide) (fun c1 => ?_) (fun c1 => ?_)
  · refine lv_iconst (v := zI 1) hx hb wdX12_fits_10 rfl ?_
    refine lv_goto (tgt := 15) hx hb wdX12_fits_11 (by decide) ?_
    exact e_z F w hr hlocks (nar_z (by omega)) ⟨Or.inl ⟨by omega, rfl⟩, rfl⟩ wdX12_fits_15
  · refine lv_iload_n hx hb wdX12_fits_5 rfl (lv_at hl 0 rfl) ?_
    refine lv_iload_n hx hb wdX12_fits_6 rfl (lv_at hl 1 rfl) ?_
    refine z_icmp_ne (tgt := 14) hx hb (by omega) (by omega) wdX12_fits_7 (by decide) (fun c2 => ?_) (fun c2 => ?_)
    · refine lv_iconst (v := zI 0) hx hb wdX12_fits_14 rfl ?_
      exact e_z F w hr hlocks (nar_z (by omega)) ⟨Or.inr ⟨by omega, rfl⟩, rfl⟩ wdX12_fits_15
    · refine lv_iconst (v := zI 1) hx hb wdX12_fits_10 rfl ?_
      refine lv_goto (tgt := 15) hx hb wdX12_fits_11 (by decide) ?_
      exact e_z F w hr hlocks (nar_z (by omega)) ⟨Or.inl ⟨by omega, rfl⟩, rfl⟩ wdX12_fits_15
theorem wdX12_isSo_0 : decode cX12_isSo 0 = .ok (.aload_n 0, 1) := dq0 kk_42 (by decide +kernel)
theorem wdX12_isSo_1 : decode cX12_isSo 1 = .ok (.getfield 17, 3) := dqV kk_180 (by decide +kernel)
theorem wtb_102 : Cond.fieldLink "ToneLinesModel" 17 "ToneLinesModel" "now" "[I" ∈ TB := tb_45
theorem wdX12_isSo_4 : decode cX12_isSo 4 = .ok (.bipush 13, 2) := dqS kk_16 (by decide +kernel)
theorem wdX12_isSo_6 : decode cX12_isSo 6 = .ok (.iload_n 2, 1) := dq0 kk_28 (by decide +kernel)
theorem wdX12_isSo_7 : decode cX12_isSo 7 = .ok (.iadd, 1) := dq0 kk_96 (by decide +kernel)
theorem wdX12_isSo_8 : decode cX12_isSo 8 = .ok (.iaload, 1) := dq0 kk_46 (by decide +kernel)
theorem wdX12_isSo_9 : decode cX12_isSo 9 = .ok (.istore 4, 2) := dqU kk_54 (by decide +kernel)
theorem wdX12_isSo_11 : decode cX12_isSo 11 = .ok (.iload_n 1, 1) := dq0 kk_27 (by decide +kernel)
theorem wdX12_isSo_12 : decode cX12_isSo 12 = .ok (.tableswitch 172 0 5 #[40, 54, 82, 111, 126, 137], 40) := by decide +kernel
theorem wdX12_isSo_52 : decode cX12_isSo 52 = .ok (.iload 4, 2) := dqU kk_21 (by decide +kernel)
theorem wdX12_isSo_54 : decode cX12_isSo 54 = .ok (.invokestatic 63, 3) := dqV kk_184 (by decide +kernel)
theorem wtk_X12_firstOf : Cond.code yX12_firstOf cX12_firstOf 2 (some .int) ∈ TB := tk_X12_firstOf
theorem wgc_X12_firstOf : GoodIn TB (cw yX12_firstOf cX12_firstOf 2 (some .int)) := goodIn_c2 wtk_X12_firstOf
theorem wtb_103 : Cond.methodLink "ToneLinesModel" 63 yX12_firstOf ∈ TB := tb_41
theorem wtb_104 : Cond.static yX12_firstOf ∈ TB := tb_42
theorem wtb_105 : Cond.initialized "ToneLinesModel" ∈ TB := rtb_119
theorem wgs_X12_63 : GoodIn TB (va_wsS RX12 63 yX12_firstOf (cw yX12_firstOf cX12_firstOf 2 (some .int))) := goodIn_3 wtb_103 wtb_104 wtb_105 wgc_X12_firstOf
theorem whs_X12_firstOf : yX12_firstOf.cls ≠ "java/lang/invoke/MethodHandle" ∧ yX12_firstOf.cls ≠ "java/lang/invoke/VarHandle" ∧ (parseMethodDescriptor yX12_firstOf.desc).map (fun d => d.parameters.length) = some 1 := hs_X12_firstOf
theorem wdX12_isSo_57 : decode cX12_isSo 57 = .ok (.ifCond .ne 7, 3) := dqT kk_154 (by decide +kernel)
theorem wdX12_isSo_64 : decode cX12_isSo 64 = .ok (.iconst 0, 1) := dq0 kk_3 (by decide +kernel)
theorem wdX12_isSo_65 : decode cX12_isSo 65 = .ok (.ireturn, 1) := dq0 kk_172 (by decide +kernel)
theorem wdX12_isSo_60 : decode cX12_isSo 60 = .ok (.iconst 1, 1) := dq0 kk_4 (by decide +kernel)
theorem wdX12_isSo_61 : decode cX12_isSo 61 = .ok (.goto 4, 3) := dqT kk_167 (by decide +kernel)
theorem wdX12_isSo_66 : decode cX12_isSo 66 = .ok (.iload 4, 2) := dqU kk_21 (by decide +kernel)
theorem wdX12_isSo_68 : decode cX12_isSo 68 = .ok (.ifCond .eq 24, 3) := dqT kk_153 (by decide +kernel)
theorem wdX12_isSo_92 : decode cX12_isSo 92 = .ok (.iconst 0, 1) := dq0 kk_3 (by decide +kernel)
theorem wdX12_isSo_93 : decode cX12_isSo 93 = .ok (.ireturn, 1) := dq0 kk_172 (by decide +kernel)
theorem wdX12_isSo_71 : decode cX12_isSo 71 = .ok (.iload 4, 2) := dqU kk_21 (by decide +kernel)
theorem wdX12_isSo_73 : decode cX12_isSo 73 = .ok (.invokestatic 59, 3) := dqV kk_184 (by decide +kernel)
theorem wtk_X12_lastOf : Cond.code yX12_lastOf cX12_lastOf 2 (some .int) ∈ TB := tk_X12_lastOf
theorem wgc_X12_lastOf : GoodIn TB (cw yX12_lastOf cX12_lastOf 2 (some .int)) := goodIn_c2 wtk_X12_lastOf
theorem wtb_106 : Cond.methodLink "ToneLinesModel" 59 yX12_lastOf ∈ TB := tb_43
theorem wtb_107 : Cond.static yX12_lastOf ∈ TB := tb_44
theorem wgs_X12_59 : GoodIn TB (va_wsS RX12 59 yX12_lastOf (cw yX12_lastOf cX12_lastOf 2 (some .int))) := goodIn_3 wtb_106 wtb_107 wtb_105 wgc_X12_lastOf
theorem whs_X12_lastOf : yX12_lastOf.cls ≠ "java/lang/invoke/MethodHandle" ∧ yX12_lastOf.cls ≠ "java/lang/invoke/VarHandle" ∧ (parseMethodDescriptor yX12_lastOf.desc).map (fun d => d.parameters.length) = some 1 := hs_X12_lastOf
theorem wdX12_isSo_76 : decode cX12_isSo 76 = .ok (.aload_n 0, 1) := dq0 kk_42 (by decide +kernel)
theorem wdX12_isSo_77 : decode cX12_isSo 77 = .ok (.getfield 17, 3) := dqV kk_180 (by decide +kernel)
theorem wdX12_isSo_80 : decode cX12_isSo 80 = .ok (.bipush 25, 2) := dqS kk_16 (by decide +kernel)
theorem wdX12_isSo_82 : decode cX12_isSo 82 = .ok (.iaload, 1) := dq0 kk_46 (by decide +kernel)
theorem wdX12_isSo_83 : decode cX12_isSo 83 = .ok (.iconst 1, 1) := dq0 kk_4 (by decide +kernel)
theorem wdX12_isSo_84 : decode cX12_isSo 84 = .ok (.isub, 1) := dq0 kk_100 (by decide +kernel)
theorem wdX12_isSo_85 : decode cX12_isSo 85 = .ok (.if_icmp .ne 7, 3) := dqT kk_160 (by decide +kernel)
theorem wdX12_isSo_88 : decode cX12_isSo 88 = .ok (.iconst 1, 1) := dq0 kk_4 (by decide +kernel)
theorem wdX12_isSo_89 : decode cX12_isSo 89 = .ok (.goto 4, 3) := dqT kk_167 (by decide +kernel)
theorem wdX12_isSo_94 : decode cX12_isSo 94 = .ok (.iload 4, 2) := dqU kk_21 (by decide +kernel)
theorem wdX12_isSo_96 : decode cX12_isSo 96 = .ok (.ifCond .eq 25, 3) := dqT kk_153 (by decide +kernel)
theorem wdX12_isSo_121 : decode cX12_isSo 121 = .ok (.iconst 0, 1) := dq0 kk_3 (by decide +kernel)
theorem wdX12_isSo_122 : decode cX12_isSo 122 = .ok (.ireturn, 1) := dq0 kk_172 (by decide +kernel)
theorem wdX12_isSo_99 : decode cX12_isSo 99 = .ok (.aload_n 0, 1) := dq0 kk_42 (by decide +kernel)
theorem wdX12_isSo_100 : decode cX12_isSo 100 = .ok (.getfield 17, 3) := dqV kk_180 (by decide +kernel)
theorem wdX12_isSo_103 : decode cX12_isSo 103 = .ok (.bipush 26, 2) := dqS kk_16 (by decide +kernel)
theorem wdX12_isSo_105 : decode cX12_isSo 105 = .ok (.iaload, 1) := dq0 kk_46 (by decide +kernel)
theorem wdX12_isSo_106 : decode cX12_isSo 106 = .ok (.iload 4, 2) := dqU kk_21 (by decide +kernel)
theorem wdX12_isSo_108 : decode cX12_isSo 108 = .ok (.invokestatic 59, 3) := dqV kk_184 (by decide +kernel)
theorem wdX12_isSo_111 : decode cX12_isSo 111 = .ok (.invokestatic 51, 3) := dqV kk_184 (by decide +kernel)
theorem wtk_X12_isIn : Cond.code yX12_isIn cX12_isIn 2 (some .boolean) ∈ TB := tk_X12_isIn
theorem wgc_X12_isIn : GoodIn TB (cw yX12_isIn cX12_isIn 2 (some .boolean)) := goodIn_c2 wtk_X12_isIn
theorem wtb_108 : Cond.methodLink "ToneLinesModel" 51 yX12_isIn ∈ TB := tb_36
theorem wtb_109 : Cond.static yX12_isIn ∈ TB := tb_37
theorem wgs_X12_51 : GoodIn TB (va_wsS RX12 51 yX12_isIn (cw yX12_isIn cX12_isIn 2 (some .boolean))) := goodIn_3 wtb_108 wtb_109 wtb_105 wgc_X12_isIn
theorem whs_X12_isIn : yX12_isIn.cls ≠ "java/lang/invoke/MethodHandle" ∧ yX12_isIn.cls ≠ "java/lang/invoke/VarHandle" ∧ (parseMethodDescriptor yX12_isIn.desc).map (fun d => d.parameters.length) = some 2 := hs_X12_isIn
theorem wdX12_isSo_114 : decode cX12_isSo 114 = .ok (.ifCond .eq 7, 3) := dqT kk_153 (by decide +kernel)
theorem wdX12_isSo_117 : decode cX12_isSo 117 = .ok (.iconst 1, 1) := dq0 kk_4 (by decide +kernel)
theorem wdX12_isSo_118 : decode cX12_isSo 118 = .ok (.goto 4, 3) := dqT kk_167 (by decide +kernel)
theorem wdX12_isSo_123 : decode cX12_isSo 123 = .ok (.iload 4, 2) := dqU kk_21 (by decide +kernel)
theorem wdX12_isSo_125 : decode cX12_isSo 125 = .ok (.invokestatic 76, 3) := dqV kk_184 (by decide +kernel)
theorem wtk_X12_bitsOf : Cond.code yX12_bitsOf cX12_bitsOf 3 (some .int) ∈ TB := tbm (tc6 (List.mem_of_getElem? (i := 82) rfl)) rfl
theorem wgc_X12_bitsOf : GoodIn TB (cw yX12_bitsOf cX12_bitsOf 3 (some .int)) := goodIn_c2 wtk_X12_bitsOf
theorem wtb_110 : Cond.methodLink "ToneLinesModel" 76 yX12_bitsOf ∈ TB := tbm (tc6 (List.mem_of_getElem? (i := 80) rfl)) rfl
theorem wtb_111 : Cond.static yX12_bitsOf ∈ TB := tbm (tc6 (List.mem_of_getElem? (i := 81) rfl)) rfl
theorem wgs_X12_76 : GoodIn TB (va_wsS RX12 76 yX12_bitsOf (cw yX12_bitsOf cX12_bitsOf 3 (some .int))) := goodIn_3 wtb_110 wtb_111 wtb_105 wgc_X12_bitsOf
theorem whs_X12_bitsOf : yX12_bitsOf.cls ≠ "java/lang/invoke/MethodHandle" ∧ yX12_bitsOf.cls ≠ "java/lang/invoke/VarHandle" ∧ (parseMethodDescriptor yX12_bitsOf.desc).map (fun d => d.parameters.length) = some 1 := by decide +kernel
theorem wdX12_isSo_128 : decode cX12_isSo 128 = .ok (.iconst 1, 1) := dq0 kk_4 (by decide +kernel)
theorem wdX12_isSo_129 : decode cX12_isSo 129 = .ok (.if_icmp .le 7, 3) := dqT kk_164 (by decide +kernel)
theorem wdX12_isSo_136 : decode cX12_isSo 136 = .ok (.iconst 0, 1) := dq0 kk_3 (by decide +kernel)
theorem wdX12_isSo_137 : decode cX12_isSo 137 = .ok (.ireturn, 1) := dq0 kk_172 (by decide +kernel)
theorem wdX12_isSo_132 : decode cX12_isSo 132 = .ok (.iconst 1, 1) := dq0 kk_4 (by decide +kernel)
theorem wdX12_isSo_133 : decode cX12_isSo 133 = .ok (.goto 4, 3) := dqT kk_167 (by decide +kernel)
theorem wdX12_isSo_138 : decode cX12_isSo 138 = .ok (.iload 4, 2) := dqU kk_21 (by decide +kernel)
theorem wdX12_isSo_140 : decode cX12_isSo 140 = .ok (.ifCond .ne 7, 3) := dqT kk_154 (by decide +kernel)
theorem wdX12_isSo_147 : decode cX12_isSo 147 = .ok (.iconst 0, 1) := dq0 kk_3 (by decide +kernel)
theorem wdX12_isSo_148 : decode cX12_isSo 148 = .ok (.ireturn, 1) := dq0 kk_172 (by decide +kernel)
theorem wdX12_isSo_143 : decode cX12_isSo 143 = .ok (.iconst 1, 1) := dq0 kk_4 (by decide +kernel)
theorem wdX12_isSo_144 : decode cX12_isSo 144 = .ok (.goto 4, 3) := dqT kk_167 (by decide +kernel)
theorem wdX12_isSo_149 : decode cX12_isSo 149 = .ok (.iload_n 2, 1) := dq0 kk_28 (by decide +kernel)
theorem wdX12_isSo_150 : decode cX12_isSo 150 = .ok (.iconst 1, 1) := dq0 kk_4 (by decide +kernel)
theorem wdX12_isSo_151 : decode cX12_isSo 151 = .ok (.iadd, 1) := dq0 kk_96 (by decide +kernel)
theorem wdX12_isSo_152 : decode cX12_isSo 152 = .ok (.aload_n 0, 1) := dq0 kk_42 (by decide +kernel)
theorem wdX12_isSo_153 : decode cX12_isSo 153 = .ok (.getfield 17, 3) := dqV kk_180 (by decide +kernel)
theorem wdX12_isSo_156 : decode cX12_isSo 156 = .ok (.iconst 0, 1) := dq0 kk_3 (by decide +kernel)
theorem wdX12_isSo_157 : decode cX12_isSo 157 = .ok (.iaload, 1) := dq0 kk_46 (by decide +kernel)
theorem wdX12_isSo_158 : decode cX12_isSo 158 = .ok (.if_icmp .ge 24, 3) := dqT kk_162 (by decide +kernel)
theorem wdX12_isSo_182 : decode cX12_isSo 182 = .ok (.iconst 0, 1) := dq0 kk_3 (by decide +kernel)
theorem wdX12_isSo_183 : decode cX12_isSo 183 = .ok (.ireturn, 1) := dq0 kk_172 (by decide +kernel)
theorem wdX12_isSo_161 : decode cX12_isSo 161 = .ok (.aload_n 0, 1) := dq0 kk_42 (by decide +kernel)
theorem wdX12_isSo_162 : decode cX12_isSo 162 = .ok (.getfield 17, 3) := dqV kk_180 (by decide +kernel)
theorem wdX12_isSo_165 : decode cX12_isSo 165 = .ok (.iconst 1, 1) := dq0 kk_4 (by decide +kernel)
theorem wdX12_isSo_166 : decode cX12_isSo 166 = .ok (.iload_n 2, 1) := dq0 kk_28 (by decide +kernel)
theorem wdX12_isSo_167 : decode cX12_isSo 167 = .ok (.iadd, 1) := dq0 kk_96 (by decide +kernel)
theorem wdX12_isSo_168 : decode cX12_isSo 168 = .ok (.iconst 1, 1) := dq0 kk_4 (by decide +kernel)
theorem wdX12_isSo_169 : decode cX12_isSo 169 = .ok (.iadd, 1) := dq0 kk_96 (by decide +kernel)
theorem wdX12_isSo_170 : decode cX12_isSo 170 = .ok (.iaload, 1) := dq0 kk_46 (by decide +kernel)
theorem wdX12_isSo_171 : decode cX12_isSo 171 = .ok (.iload_n 3, 1) := dq0 kk_29 (by decide +kernel)
theorem wdX12_isSo_172 : decode cX12_isSo 172 = .ok (.invokestatic 79, 3) := dqV kk_184 (by decide +kernel)
theorem wtk_X12_fits : Cond.code yX12_fits cX12_fits 2 (some .boolean) ∈ TB := tbm (tc6 (List.mem_of_getElem? (i := 97) rfl)) rfl
theorem wgc_X12_fits : GoodIn TB (cw yX12_fits cX12_fits 2 (some .boolean)) := goodIn_c2 wtk_X12_fits
theorem wtb_112 : Cond.methodLink "ToneLinesModel" 79 yX12_fits ∈ TB := tbm (tc6 (List.mem_of_getElem? (i := 95) rfl)) rfl
theorem wtb_113 : Cond.static yX12_fits ∈ TB := tbm (tc6 (List.mem_of_getElem? (i := 96) rfl)) rfl
theorem wgs_X12_79 : GoodIn TB (va_wsS RX12 79 yX12_fits (cw yX12_fits cX12_fits 2 (some .boolean))) := goodIn_3 wtb_112 wtb_113 wtb_105 wgc_X12_fits
theorem whs_X12_fits : yX12_fits.cls ≠ "java/lang/invoke/MethodHandle" ∧ yX12_fits.cls ≠ "java/lang/invoke/VarHandle" ∧ (parseMethodDescriptor yX12_fits.desc).map (fun d => d.parameters.length) = some 2 := by decide +kernel
theorem wdX12_isSo_175 : decode cX12_isSo 175 = .ok (.ifCond .eq 7, 3) := dqT kk_153 (by decide +kernel)
theorem wdX12_isSo_178 : decode cX12_isSo 178 = .ok (.iconst 1, 1) := dq0 kk_4 (by decide +kernel)
theorem wdX12_isSo_179 : decode cX12_isSo 179 = .ok (.goto 4, 3) := dqT kk_167 (by decide +kernel)
theorem wdX12_isSo_184 : decode cX12_isSo 184 = .ok (.iload_n 2, 1) := dq0 kk_28 (by decide +kernel)
theorem wdX12_isSo_185 : decode cX12_isSo 185 = .ok (.ifCond .le 24, 3) := dqT kk_158 (by decide +kernel)
theorem wdX12_isSo_209 : decode cX12_isSo 209 = .ok (.iconst 0, 1) := dq0 kk_3 (by decide +kernel)
theorem wdX12_isSo_210 : decode cX12_isSo 210 = .ok (.ireturn, 1) := dq0 kk_172 (by decide +kernel)
theorem wdX12_isSo_188 : decode cX12_isSo 188 = .ok (.aload_n 0, 1) := dq0 kk_42 (by decide +kernel)
theorem wdX12_isSo_189 : decode cX12_isSo 189 = .ok (.getfield 17, 3) := dqV kk_180 (by decide +kernel)
theorem wdX12_isSo_192 : decode cX12_isSo 192 = .ok (.iconst 1, 1) := dq0 kk_4 (by decide +kernel)
theorem wdX12_isSo_193 : decode cX12_isSo 193 = .ok (.iload_n 2, 1) := dq0 kk_28 (by decide +kernel)
theorem wdX12_isSo_194 : decode cX12_isSo 194 = .ok (.iadd, 1) := dq0 kk_96 (by decide +kernel)
theorem wdX12_isSo_195 : decode cX12_isSo 195 = .ok (.iconst 1, 1) := dq0 kk_4 (by decide +kernel)
theorem wdX12_isSo_196 : decode cX12_isSo 196 = .ok (.isub, 1) := dq0 kk_100 (by decide +kernel)
theorem wdX12_isSo_197 : decode cX12_isSo 197 = .ok (.iaload, 1) := dq0 kk_46 (by decide +kernel)
theorem wdX12_isSo_198 : decode cX12_isSo 198 = .ok (.iload_n 3, 1) := dq0 kk_29 (by decide +kernel)
theorem wdX12_isSo_199 : decode cX12_isSo 199 = .ok (.invokestatic 79, 3) := dqV kk_184 (by decide +kernel)
theorem wdX12_isSo_202 : decode cX12_isSo 202 = .ok (.ifCond .eq 7, 3) := dqT kk_153 (by decide +kernel)
theorem wdX12_isSo_205 : decode cX12_isSo 205 = .ok (.iconst 1, 1) := dq0 kk_4 (by decide +kernel)
theorem wdX12_isSo_206 : decode cX12_isSo 206 = .ok (.goto 4, 3) := dqT kk_167 (by decide +kernel)
set_option maxRecDepth 4000 in
theorem s_X12_isSo {l : Launch} {D : va_G} {B : Nat} {cy : Nat → ClassId} {M : Mem} {q hv ed : Nat} {o : Wo} {z9 : Int} (hR : RW M q hv ed o z9) {P : Nat → Int} (hP : okP P) (hz5 : 0 ≤ P 5 ∧ P 5 ≤ 6) {t : Nat} (ht : t < o.1) : Ci l D B cy yX12_isSo cX12_isSo 5 (some .boolean) 2 42 [.ref (B + 146), .int (zI (P 5)), .int (zI (t : Int)), .int (zI (P 7))] M (fun r M1 => ((tsP P q hv o t) ∧ r = zI 1 ∨ ¬ (tsP P q hv o t) ∧ r = zI 0) ∧ M1 = M) := by
  refine s_any (by decide) (Nat.le_of_ble_eq_true rfl) ?_
  intro p e s m below meth c ls F hr hlocks w hl
  have F : CallFix p m c cX12_isSo 5 s _ TB RX12 := F
  have hx := F.1
  have hb := F.2.1
  have hl : lv_has ls 5 [(0, .ref (B + 146)), (1, .int (zI (P 5))), (2, .int (zI (t : Int))), (3, .int (zI (P 7)))] := hl
  have hW := hR.1
  have hwf := hR.wf
  have hKL := hwf.2.2.2.2
  have hn12 := hwf.1
  have hq12 := hwf.2.1
  have hhv := hwf.2.2.1
  have hed := hwf.2.2.2.1
  have hc := hR.2.2.2.2
  have hP0 := hP 0 (by decide)
  have hP1 := hP 1 (by decide)
  have hP2 := hP 2 (by decide)
  have hP3 := hP 3 (by decide)
  have hP4 := hP 4 (by decide)
  have hP5 := hP 5 (by decide)
  have hP6 := hP 6 (by decide)
  have hP7 := hP 7 (by decide)
  refine lv_aload_n hx hb wdX12_isSo_0 rfl (lv_at hl 0 rfl) ?_
  refine f_12_2 F w (a := 146) rfl wtb_102 wdX12_isSo_1 ?_
  refine lv_bipush (v := zI 13) hx hb wdX12_isSo_4 (by decide) ?_
  refine lv_iload_n hx hb wdX12_isSo_6 rfl (lv_at hl 2 rfl) ?_
  refine z_iadd (z := (((13 + t) : Nat) : Int)) hx hb wdX12_isSo_7 (by omega) ?_
  refine g_iald F w (a := 148) rfl (j := (13 + t)) (ix_n (by omega)) (by omega) wdX12_isSo_8 ?_
  have hL0 := (hKL t (by omega)).2
  refine r_val (v := (zI (((o.2.2 t) : Nat) : Int))) (hW.2.2.2.2.2 t (by omega)) ?_
  refine lv_istore (lv' := [(4, .int (zI (((o.2.2 t) : Nat) : Int))), (0, .ref (B + 146)), (1, .int (zI (P 5))), (2, .int (zI (t : Int))), (3, .int (zI (P 7)))]) hx hb wdX12_isSo_9 hl (by decide) rfl (fun ls hl => ?_)
  refine lv_iload_n hx hb wdX12_isSo_11 rfl (lv_at hl 2 rfl) ?_
  rcases (show ((P 5) : Int) = 0 ∨ ((P 5) : Int) = 1 ∨ ((P 5) : Int) = 2 ∨ ((P 5) : Int) = 3 ∨ ((P 5) : Int) = 4 ∨ ((P 5) : Int) = 5 ∨ ((P 5) ≠ 0 ∧ (P 5) ≠ 1 ∧ (P 5) ≠ 2 ∧ (P 5) ≠ 3 ∧ (P 5) ≠ 4 ∧ (P 5) ≠ 5) by omega) with c1 | c1 | c1 | c1 | c1 | c1 | c1
  · refine r_val (v := zI 0) (congrArg zI c1) ?_
    refine lv_tableIn (tgt := 52) hx hb wdX12_isSo_12 (by decide) (by decide) (off := 40) rfl (by decide) ?_
    refine lv_iload hx hb wdX12_isSo_52 (lv_at hl 0 rfl) ?_
    refine x_Si F w (As := [.int (zI (((o.2.2 t) : Nat) : Int))]) (rest := []) (s_X12_firstOf (m9 := (o.2.2 t)) (by omega)) wgs_X12_63 whs_X12_firstOf ⟨(Nat.le_of_ble_eq_true rfl), (Nat.le_of_ble_eq_true rfl)⟩ hl.1 rfl (Nat.le_of_ble_eq_true rfl) ⟨Nat.zero_le _, Nat.zero_le _⟩ wdX12_isSo_54 (fun H locs w => ?_)
    have hw1 := lowI_rg (o.2.2 t) (by omega)
    refine z_if_ne (tgt := 64) hx hb (by omega) wdX12_isSo_57 (by decide) (fun c3 => ?_) (fun c3 => ?_)
    · refine lv_iconst (v := zI 0) hx hb wdX12_isSo_64 rfl ?_
      exact e_z F w hr hlocks (nar_z (by omega)) ⟨Or.inr ⟨fun h9 => absurd ((ts_0 (by omega)).mp h9) (by omega), rfl⟩, rfl⟩ wdX12_isSo_65
    · refine lv_iconst (v := zI 1) hx hb wdX12_isSo_60 rfl ?_
      refine lv_goto (tgt := 65) hx hb wdX12_isSo_61 (by decide) ?_
      exact e_z F w hr hlocks (nar_z (by omega)) ⟨Or.inl ⟨(ts_0 (by omega)).mpr (by omega), rfl⟩, rfl⟩ wdX12_isSo_65
  · refine r_val (v := zI 1) (congrArg zI c1) ?_
    refine lv_tableIn (tgt := 66) hx hb wdX12_isSo_12 (by decide) (by decide) (off := 54) rfl (by decide) ?_
    refine lv_iload hx hb wdX12_isSo_66 (lv_at hl 0 rfl) ?_
    refine z_if_eq (tgt := 92) hx hb (by omega) wdX12_isSo_68 (by decide) (fun c4 => ?_) (fun c4 => ?_)
    · refine lv_iconst (v := zI 0) hx hb wdX12_isSo_92 rfl ?_
      exact e_z F w hr hlocks (nar_z (by omega)) ⟨Or.inr ⟨fun h9 => absurd ((ts_1 (by omega)).mp h9) (by omega), rfl⟩, rfl⟩ wdX12_isSo_93
    · refine lv_iload hx hb wdX12_isSo_71 (lv_at hl 0 rfl) ?_
      refine x_Si F w (As := [.int (zI (((o.2.2 t) : Nat) : Int))]) (rest := []) (s_X12_lastOf (m9 := (o.2.2 t)) (by omega)) wgs_X12_59 whs_X12_lastOf ⟨(Nat.le_of_ble_eq_true rfl), (Nat.le_of_ble_eq_true rfl)⟩ hl.1 rfl (Nat.le_of_ble_eq_true rfl) ⟨Nat.zero_le _, Nat.zero_le _⟩ wdX12_isSo_73 (fun H locs w => ?_)
      have hw4 := higI_rg (o.2.2 t) (by omega)
      refine lv_aload_n hx hb wdX12_isSo_76 rfl (lv_at hl 1 rfl) ?_
      refine f_12_2 F w (a := 146) rfl wtb_102 wdX12_isSo_77 ?_
      refine lv_bipush (v := zI 25) hx hb wdX12_isSo_80 (by decide) ?_
      refine g_iald F w (a := 148) rfl (j := 25) ⟨by decide, by decide⟩ (by omega) wdX12_isSo_82 ?_
      refine r_val (v := (zI (q : Int))) (hW.2.1) ?_
      refine lv_iconst (v := zI 1) hx hb wdX12_isSo_83 rfl ?_
      refine z_isub (z := ((q : Int) - 1)) hx hb wdX12_isSo_84 (by omega) ?_
      refine z_icmp_ne (tgt := 92) hx hb (by omega) (by omega) wdX12_isSo_85 (by decide) (fun c6 => ?_) (fun c6 => ?_)
      · refine lv_iconst (v := zI 0) hx hb wdX12_isSo_92 rfl ?_
        exact e_z F w hr hlocks (nar_z (by omega)) ⟨Or.inr ⟨fun h9 => absurd ((ts_1 (by omega)).mp h9) (by omega), rfl⟩, rfl⟩ wdX12_isSo_93
      · refine lv_iconst (v := zI 1) hx hb wdX12_isSo_88 rfl ?_
        refine lv_goto (tgt := 93) hx hb wdX12_isSo_89 (by decide) ?_
        exact e_z F w hr hlocks (nar_z (by omega)) ⟨Or.inl ⟨(ts_1 (by omega)).mpr (by omega), rfl⟩, rfl⟩ wdX12_isSo_93
  · refine r_val (v := zI 2) (congrArg zI c1) ?_
    refine lv_tableIn (tgt := 94) hx hb wdX12_isSo_12 (by decide) (by decide) (off := 82) rfl (by decide) ?_
    refine lv_iload hx hb wdX12_isSo_94 (lv_at hl 0 rfl) ?_
    refine z_if_eq (tgt := 121) hx hb (by omega) wdX12_isSo_96 (by decide) (fun c7 => ?_) (fun c7 => ?_)
    · refine lv_iconst (v := zI 0) hx hb wdX12_isSo_121 rfl ?_
      exact e_z F w hr hlocks (nar_z (by omega)) ⟨Or.inr ⟨ts2_0 (by omega) (by omega), rfl⟩, rfl⟩ wdX12_isSo_122
    · refine lv_aload_n hx hb wdX12_isSo_99 rfl (lv_at hl 1 rfl) ?_
      refine f_12_2 F w (a := 146) rfl wtb_102 wdX12_isSo_100 ?_
      refine lv_bipush (v := zI 26) hx hb wdX12_isSo_103 (by decide) ?_
      refine g_iald F w (a := 148) rfl (j := 26) ⟨by decide, by decide⟩ (by omega) wdX12_isSo_105 ?_
      refine r_val (v := (zI (hv : Int))) (hW.2.2.1) ?_
      refine lv_iload hx hb wdX12_isSo_106 (lv_at hl 0 rfl) ?_
      refine x_Si F w (As := [.int (zI (((o.2.2 t) : Nat) : Int))]) (rest := [.int (zI (hv : Int))]) (s_X12_lastOf (m9 := (o.2.2 t)) (by omega)) wgs_X12_59 whs_X12_lastOf ⟨(Nat.le_of_ble_eq_true rfl), (Nat.le_of_ble_eq_true rfl)⟩ hl.1 rfl (Nat.le_of_ble_eq_true rfl) ⟨Nat.zero_le _, Nat.zero_le _⟩ wdX12_isSo_108 (fun H locs w => ?_)
      have hw7 := higI_rg (o.2.2 t) (by omega)
      have h0t : o.2.2 t ≠ 0 := by omega
      refine r_val (v := zI ((hig (o.2.2 t) : Nat) : Int)) (congrArg zI (higI_nz h0t)) ?_
      have he8 := (hig_t (o.2.2 t) (by omega) h0t).2
      refine k_Si F w (As := [.int (zI (hv : Int)), .int (zI (((hig (o.2.2 t)) : Nat) : Int))]) (rest := []) (s_X12_isIn (m9 := hv) (k := (hig (o.2.2 t))) (by omega) (by omega)) wgs_X12_51 whs_X12_isIn ⟨(Nat.le_of_ble_eq_true rfl), (Nat.le_of_ble_eq_true rfl)⟩ hl.1 rfl (Nat.le_of_ble_eq_true rfl) ⟨Nat.zero_le _, Nat.zero_le _⟩ wdX12_isSo_111 (fun r Ma10 H locs hp w => ?_)
      rcases hp with ⟨⟨hb9, rfl⟩ | ⟨hb9, rfl⟩, hMe⟩
      · rw [hMe] at w
        refine z_if_eq (tgt := 121) hx hb (by omega) wdX12_isSo_114 (by decide) (fun c11 => False.elim (by omega)) (fun c11 => ?_)
        refine lv_iconst (v := zI 1) hx hb wdX12_isSo_117 rfl ?_
        refine lv_goto (tgt := 122) hx hb wdX12_isSo_118 (by decide) ?_
        exact e_z F w hr hlocks (nar_z (by omega)) ⟨Or.inl ⟨ts2_y (by omega) hR.2.1 ht h0t hb9, rfl⟩, rfl⟩ wdX12_isSo_122
      · rw [hMe] at w
        refine z_if_eq (tgt := 121) hx hb (by omega) wdX12_isSo_114 (by decide) (fun c12 => ?_) (fun c12 => False.elim (by omega))
        refine lv_iconst (v := zI 0) hx hb wdX12_isSo_121 rfl ?_
        exact e_z F w hr hlocks (nar_z (by omega)) ⟨Or.inr ⟨ts2_n (by omega) h0t hb9, rfl⟩, rfl⟩ wdX12_isSo_122
  · refine r_val (v := zI 3) (congrArg zI c1) ?_
    refine lv_tableIn (tgt := 123) hx hb wdX12_isSo_12 (by decide) (by decide) (off := 111) rfl (by decide) ?_
    refine lv_iload hx hb wdX12_isSo_123 (lv_at hl 0 rfl) ?_
    refine x_Si F w (As := [.int (zI (((o.2.2 t) : Nat) : Int))]) (rest := []) (s_X12_bitsOf (m9 := (o.2.2 t)) (by omega)) wgs_X12_76 whs_X12_bitsOf ⟨(Nat.le_of_ble_eq_true rfl), (Nat.le_of_ble_eq_true rfl)⟩ hl.1 rfl (Nat.le_of_ble_eq_true rfl) ⟨Nat.zero_le _, Nat.zero_le _⟩ wdX12_isSo_125 (fun H locs w => ?_)
    have hp12 := (pop_le (o.2.2 t) (by omega)).1
    refine lv_iconst (v := zI 1) hx hb wdX12_isSo_128 rfl ?_
    refine z_icmp_le (tgt := 136) hx hb (by omega) (by omega) wdX12_isSo_129 (by decide) (fun c14 => ?_) (fun c14 => ?_)
    · refine lv_iconst (v := zI 0) hx hb wdX12_isSo_136 rfl ?_
      exact e_z F w hr hlocks (nar_z (by omega)) ⟨Or.inr ⟨fun h9 => absurd ((ts_3 (by omega)).mp h9) (by omega), rfl⟩, rfl⟩ wdX12_isSo_137
    · refine lv_iconst (v := zI 1) hx hb wdX12_isSo_132 rfl ?_
      refine lv_goto (tgt := 137) hx hb wdX12_isSo_133 (by decide) ?_
      exact e_z F w hr hlocks (nar_z (by omega)) ⟨Or.inl ⟨(ts_3 (by omega)).mpr (by omega), rfl⟩, rfl⟩ wdX12_isSo_137
  · refine r_val (v := zI 4) (congrArg zI c1) ?_
    refine lv_tableIn (tgt := 138) hx hb wdX12_isSo_12 (by decide) (by decide) (off := 126) rfl (by decide) ?_
    refine lv_iload hx hb wdX12_isSo_138 (lv_at hl 0 rfl) ?_
    refine z_if_ne (tgt := 147) hx hb (by omega) wdX12_isSo_140 (by decide) (fun c15 => ?_) (fun c15 => ?_)
    · refine lv_iconst (v := zI 0) hx hb wdX12_isSo_147 rfl ?_
      exact e_z F w hr hlocks (nar_z (by omega)) ⟨Or.inr ⟨fun h9 => absurd ((ts_4 (by omega)).mp h9) (by omega), rfl⟩, rfl⟩ wdX12_isSo_148
    · refine lv_iconst (v := zI 1) hx hb wdX12_isSo_143 rfl ?_
      refine lv_goto (tgt := 148) hx hb wdX12_isSo_144 (by decide) ?_
      exact e_z F w hr hlocks (nar_z (by omega)) ⟨Or.inl ⟨(ts_4 (by omega)).mpr (by omega), rfl⟩, rfl⟩ wdX12_isSo_148
  · refine r_val (v := zI 5) (congrArg zI c1) ?_
    refine lv_tableIn (tgt := 149) hx hb wdX12_isSo_12 (by decide) (by decide) (off := 137) rfl (by decide) ?_
    refine lv_iload_n hx hb wdX12_isSo_149 rfl (lv_at hl 3 rfl) ?_
    refine lv_iconst (v := zI 1) hx hb wdX12_isSo_150 rfl ?_
    refine z_iadd (z := (((t + 1) : Nat) : Int)) hx hb wdX12_isSo_151 (by omega) ?_
    refine lv_aload_n hx hb wdX12_isSo_152 rfl (lv_at hl 1 rfl) ?_
    refine f_12_2 F w (a := 146) rfl wtb_102 wdX12_isSo_153 ?_
    refine lv_iconst (v := zI 0) hx hb wdX12_isSo_156 rfl ?_
    refine g_iald F w (a := 148) rfl (j := 0) ⟨by decide, by decide⟩ (by omega) wdX12_isSo_157 ?_
    refine r_val (v := (zI ((o.1 : Nat) : Int))) (hW.1) ?_
    refine z_icmp_ge (tgt := 182) hx hb (by omega) (by omega) wdX12_isSo_158 (by decide) (fun c16 => ?_) (fun c16 => ?_)
    · refine lv_iconst (v := zI 0) hx hb wdX12_isSo_182 rfl ?_
      exact e_z F w hr hlocks (nar_z (by omega)) ⟨Or.inr ⟨fun h9 => absurd ((ts_5 (by omega)).mp h9) (by omega), rfl⟩, rfl⟩ wdX12_isSo_183
    · refine lv_aload_n hx hb wdX12_isSo_161 rfl (lv_at hl 1 rfl) ?_
      refine f_12_2 F w (a := 146) rfl wtb_102 wdX12_isSo_162 ?_
      refine lv_iconst (v := zI 1) hx hb wdX12_isSo_165 rfl ?_
      refine lv_iload_n hx hb wdX12_isSo_166 rfl (lv_at hl 3 rfl) ?_
      refine z_iadd (z := (((1 + t) : Nat) : Int)) hx hb wdX12_isSo_167 (by omega) ?_
      refine lv_iconst (v := zI 1) hx hb wdX12_isSo_168 rfl ?_
      refine z_iadd (z := ((((1 + t) + 1) : Nat) : Int)) hx hb wdX12_isSo_169 (by omega) ?_
      refine g_iald F w (a := 148) rfl (j := ((1 + t) + 1)) (ix_n (by omega)) (by omega) wdX12_isSo_170 ?_
      have hK16 := (hKL (t + 1) (by omega)).1
      refine r_val (v := (zI (((o.2.1 (t + 1)) : Nat) : Int))) (hW.2.2.2.2.1 (t + 1) (by omega)) ?_
      refine lv_iload_n hx hb wdX12_isSo_171 rfl (lv_at hl 4 rfl) ?_
      refine k_Si F w (As := [.int (zI (((o.2.1 (t + 1)) : Nat) : Int)), .int (zI (P 7))]) (rest := []) (s_X12_fits (x9 := (((o.2.1 (t + 1)) : Nat) : Int)) (y9 := (P 7)) (by omega) (by omega)) wgs_X12_79 whs_X12_fits ⟨(Nat.le_of_ble_eq_true rfl), (Nat.le_of_ble_eq_true rfl)⟩ hl.1 rfl (Nat.le_of_ble_eq_true rfl) ⟨Nat.zero_le _, Nat.zero_le _⟩ wdX12_isSo_172 (fun r Ma18 H locs hp w => ?_)
      rcases hp with ⟨⟨hb17, rfl⟩ | ⟨hb17, rfl⟩, hMe⟩
      · rw [hMe] at w
        refine z_if_eq (tgt := 182) hx hb (by omega) wdX12_isSo_175 (by decide) (fun c19 => False.elim (by omega)) (fun c19 => ?_)
        refine lv_iconst (v := zI 1) hx hb wdX12_isSo_178 rfl ?_
        refine lv_goto (tgt := 183) hx hb wdX12_isSo_179 (by decide) ?_
        exact e_z F w hr hlocks (nar_z (by omega)) ⟨Or.inl ⟨(ts_5 (by omega)).mpr (by omega), rfl⟩, rfl⟩ wdX12_isSo_183
      · rw [hMe] at w
        refine z_if_eq (tgt := 182) hx hb (by omega) wdX12_isSo_175 (by decide) (fun c20 => ?_) (fun c20 => False.elim (by omega))
        refine lv_iconst (v := zI 0) hx hb wdX12_isSo_182 rfl ?_
        exact e_z F w hr hlocks (nar_z (by omega)) ⟨Or.inr ⟨fun h9 => absurd ((ts_5 (by omega)).mp h9) (by omega), rfl⟩, rfl⟩ wdX12_isSo_183
  · refine lv_tableOut (tgt := 184) hx hb wdX12_isSo_12 (by rw [zI_toInt (by omega)]; omega) (by decide) ?_
    refine lv_iload_n hx hb wdX12_isSo_184 rfl (lv_at hl 3 rfl) ?_
    refine z_if_le (tgt := 209) hx hb (by omega) wdX12_isSo_185 (by decide) (fun c21 => ?_) (fun c21 => ?_)
    · refine lv_iconst (v := zI 0) hx hb wdX12_isSo_209 rfl ?_
      exact e_z F w hr hlocks (nar_z (by omega)) ⟨Or.inr ⟨fun h9 => absurd ((ts_6 (by omega)).mp h9) (by omega), rfl⟩, rfl⟩ wdX12_isSo_210
    · refine lv_aload_n hx hb wdX12_isSo_188 rfl (lv_at hl 1 rfl) ?_
      refine f_12_2 F w (a := 146) rfl wtb_102 wdX12_isSo_189 ?_
      refine lv_iconst (v := zI 1) hx hb wdX12_isSo_192 rfl ?_
      refine lv_iload_n hx hb wdX12_isSo_193 rfl (lv_at hl 3 rfl) ?_
      refine z_iadd (z := (((1 + t) : Nat) : Int)) hx hb wdX12_isSo_194 (by omega) ?_
      refine lv_iconst (v := zI 1) hx hb wdX12_isSo_195 rfl ?_
      refine z_isub (z := ((((1 + t) : Nat) : Int) - 1)) hx hb wdX12_isSo_196 (by omega) ?_
      refine r_val (v := zI ((1 + (t - 1) : Nat) : Int)) (congrArg zI (by omega)) ?_
      refine g_iald F w (a := 148) rfl (j := (1 + (t - 1))) (ix_n (by omega)) (by omega) wdX12_isSo_197 ?_
      have hK21 := (hKL (t - 1) (by omega)).1
      refine r_val (v := (zI (((o.2.1 (t - 1)) : Nat) : Int))) (hW.2.2.2.2.1 (t - 1) (by omega)) ?_
      refine lv_iload_n hx hb wdX12_isSo_198 rfl (lv_at hl 4 rfl) ?_
      refine k_Si F w (As := [.int (zI (((o.2.1 (t - 1)) : Nat) : Int)), .int (zI (P 7))]) (rest := []) (s_X12_fits (x9 := (((o.2.1 (t - 1)) : Nat) : Int)) (y9 := (P 7)) (by omega) (by omega)) wgs_X12_79 whs_X12_fits ⟨(Nat.le_of_ble_eq_true rfl), (Nat.le_of_ble_eq_true rfl)⟩ hl.1 rfl (Nat.le_of_ble_eq_true rfl) ⟨Nat.zero_le _, Nat.zero_le _⟩ wdX12_isSo_199 (fun r Ma23 H locs hp w => ?_)
      rcases hp with ⟨⟨hb22, rfl⟩ | ⟨hb22, rfl⟩, hMe⟩
      · rw [hMe] at w
        refine z_if_eq (tgt := 209) hx hb (by omega) wdX12_isSo_202 (by decide) (fun c24 => False.elim (by omega)) (fun c24 => ?_)
        refine lv_iconst (v := zI 1) hx hb wdX12_isSo_205 rfl ?_
        refine lv_goto (tgt := 210) hx hb wdX12_isSo_206 (by decide) ?_
        exact e_z F w hr hlocks (nar_z (by omega)) ⟨Or.inl ⟨(ts_6 (by omega)).mpr (by omega), rfl⟩, rfl⟩ wdX12_isSo_210
      · rw [hMe] at w
        refine z_if_eq (tgt := 209) hx hb (by omega) wdX12_isSo_202 (by decide) (fun c25 => ?_) (fun c25 => False.elim (by omega))
        refine lv_iconst (v := zI 0) hx hb wdX12_isSo_209 rfl ?_
        exact e_z F w hr hlocks (nar_z (by omega)) ⟨Or.inr ⟨fun h9 => absurd ((ts_6 (by omega)).mp h9) (by omega), rfl⟩, rfl⟩ wdX12_isSo_210
theorem wdX12_passes_0 : decode cX12_passes 0 = .ok (.bipush 8, 2) := dqS kk_16 (by decide +kernel)
theorem wdX12_passes_2 : decode cX12_passes 2 = .ok (.iload_n 1, 1) := dq0 kk_27 (by decide +kernel)
theorem wdX12_passes_3 : decode cX12_passes 3 = .ok (.imul, 1) := dq0 kk_104 (by decide +kernel)
theorem wdX12_passes_4 : decode cX12_passes 4 = .ok (.istore_n 3, 1) := dq0 kk_62 (by decide +kernel)
theorem wdX12_passes_5 : decode cX12_passes 5 = .ok (.aload_n 0, 1) := dq0 kk_42 (by decide +kernel)
theorem wdX12_passes_6 : decode cX12_passes 6 = .ok (.getfield 20, 3) := dqV kk_180 (by decide +kernel)
theorem wtb_114 : Cond.fieldLink "ToneLinesModel" 20 "ToneLinesModel" "rule" "[I" ∈ TB := rtb_164
theorem wdX12_passes_9 : decode cX12_passes 9 = .ok (.iload_n 3, 1) := dq0 kk_29 (by decide +kernel)
theorem wdX12_passes_10 : decode cX12_passes 10 = .ok (.iconst 5, 1) := dq0 kk_8 (by decide +kernel)
theorem wdX12_passes_11 : decode cX12_passes 11 = .ok (.iadd, 1) := dq0 kk_96 (by decide +kernel)
theorem wdX12_passes_12 : decode cX12_passes 12 = .ok (.iaload, 1) := dq0 kk_46 (by decide +kernel)
theorem wdX12_passes_13 : decode cX12_passes 13 = .ok (.bipush (-2), 2) := dqS kk_16 (by decide +kernel)
theorem wdX12_passes_15 : decode cX12_passes 15 = .ok (.if_icmp .ne 5, 3) := dqT kk_160 (by decide +kernel)
theorem wdX12_passes_20 : decode cX12_passes 20 = .ok (.aload_n 0, 1) := dq0 kk_42 (by decide +kernel)
theorem wdX12_passes_21 : decode cX12_passes 21 = .ok (.aload_n 0, 1) := dq0 kk_42 (by decide +kernel)
theorem wdX12_passes_22 : decode cX12_passes 22 = .ok (.getfield 20, 3) := dqV kk_180 (by decide +kernel)
theorem wdX12_passes_25 : decode cX12_passes 25 = .ok (.iload_n 3, 1) := dq0 kk_29 (by decide +kernel)
theorem wdX12_passes_26 : decode cX12_passes 26 = .ok (.iconst 5, 1) := dq0 kk_8 (by decide +kernel)
theorem wdX12_passes_27 : decode cX12_passes 27 = .ok (.iadd, 1) := dq0 kk_96 (by decide +kernel)
theorem wdX12_passes_28 : decode cX12_passes 28 = .ok (.iaload, 1) := dq0 kk_46 (by decide +kernel)
theorem wdX12_passes_29 : decode cX12_passes 29 = .ok (.iload_n 2, 1) := dq0 kk_28 (by decide +kernel)
theorem wdX12_passes_30 : decode cX12_passes 30 = .ok (.aload_n 0, 1) := dq0 kk_42 (by decide +kernel)
theorem wdX12_passes_31 : decode cX12_passes 31 = .ok (.getfield 20, 3) := dqV kk_180 (by decide +kernel)
theorem wdX12_passes_34 : decode cX12_passes 34 = .ok (.iload_n 3, 1) := dq0 kk_29 (by decide +kernel)
theorem wdX12_passes_35 : decode cX12_passes 35 = .ok (.bipush 7, 2) := dqS kk_16 (by decide +kernel)
theorem wdX12_passes_37 : decode cX12_passes 37 = .ok (.iadd, 1) := dq0 kk_96 (by decide +kernel)
theorem wdX12_passes_38 : decode cX12_passes 38 = .ok (.iaload, 1) := dq0 kk_46 (by decide +kernel)
theorem wdX12_passes_39 : decode cX12_passes 39 = .ok (.invokevirtual 73, 3) := dqV kk_182 (by decide +kernel)
theorem wtk_X12_isSo : Cond.code yX12_isSo cX12_isSo 5 (some .boolean) ∈ TB := tbm (tc6 (List.mem_of_getElem? (i := 105) rfl)) rfl
theorem wgc_X12_isSo : GoodIn TB (cw yX12_isSo cX12_isSo 5 (some .boolean)) := goodIn_c2 wtk_X12_isSo
theorem wtb_115 : Cond.methodLink "ToneLinesModel" 73 yX12_isSo ∈ TB := tbm (tc6 (List.mem_of_getElem? (i := 102) rfl)) rfl
theorem wtb_116 : Cond.instanceMethod yX12_isSo ∈ TB := tbm (tc6 (List.mem_of_getElem? (i := 104) rfl)) rfl
theorem wtb_117 : Cond.selects "ToneLinesModel" yX12_isSo yX12_isSo ∈ TB := tbp (List.mem_of_getElem? (i := 63) rfl) rfl
theorem wgv_X12_73 : GoodIn TB (wsV RX12 73 RX12 yX12_isSo (cw yX12_isSo cX12_isSo 5 (some .boolean))) := goodIn_4 wtb_115 wtb_116 wtb_117 wtb_105 wgc_X12_isSo
theorem whv_X12_isSo : yX12_isSo.cls = RX12 ∧ yX12_isSo.cls ≠ "java/lang/invoke/MethodHandle" ∧ yX12_isSo.cls ≠ "java/lang/invoke/VarHandle" ∧ (parseMethodDescriptor yX12_isSo.desc).map (fun d => d.parameters.length) = some 3 := by decide +kernel
theorem wdX12_passes_42 : decode cX12_passes 42 = .ok (.aload_n 0, 1) := dq0 kk_42 (by decide +kernel)
theorem wdX12_passes_43 : decode cX12_passes 43 = .ok (.getfield 20, 3) := dqV kk_180 (by decide +kernel)
theorem wdX12_passes_46 : decode cX12_passes 46 = .ok (.iload_n 3, 1) := dq0 kk_29 (by decide +kernel)
theorem wdX12_passes_47 : decode cX12_passes 47 = .ok (.bipush 6, 2) := dqS kk_16 (by decide +kernel)
theorem wdX12_passes_49 : decode cX12_passes 49 = .ok (.iadd, 1) := dq0 kk_96 (by decide +kernel)
theorem wdX12_passes_50 : decode cX12_passes 50 = .ok (.iaload, 1) := dq0 kk_46 (by decide +kernel)
theorem wdX12_passes_51 : decode cX12_passes 51 = .ok (.iconst 1, 1) := dq0 kk_4 (by decide +kernel)
theorem wdX12_passes_52 : decode cX12_passes 52 = .ok (.if_icmp .ne 7, 3) := dqT kk_160 (by decide +kernel)
theorem wdX12_passes_59 : decode cX12_passes 59 = .ok (.iconst 0, 1) := dq0 kk_3 (by decide +kernel)
theorem wdX12_passes_60 : decode cX12_passes 60 = .ok (.if_icmp .eq 7, 3) := dqT kk_159 (by decide +kernel)
theorem wdX12_passes_63 : decode cX12_passes 63 = .ok (.iconst 1, 1) := dq0 kk_4 (by decide +kernel)
theorem wdX12_passes_64 : decode cX12_passes 64 = .ok (.goto 4, 3) := dqT kk_167 (by decide +kernel)
theorem wdX12_passes_68 : decode cX12_passes 68 = .ok (.ireturn, 1) := dq0 kk_172 (by decide +kernel)
theorem wdX12_passes_55 : decode cX12_passes 55 = .ok (.iconst 1, 1) := dq0 kk_4 (by decide +kernel)
theorem wdX12_passes_56 : decode cX12_passes 56 = .ok (.goto 4, 3) := dqT kk_167 (by decide +kernel)
theorem wdX12_passes_67 : decode cX12_passes 67 = .ok (.iconst 0, 1) := dq0 kk_3 (by decide +kernel)
theorem wdX12_passes_18 : decode cX12_passes 18 = .ok (.iconst 1, 1) := dq0 kk_4 (by decide +kernel)
theorem wdX12_passes_19 : decode cX12_passes 19 = .ok (.ireturn, 1) := dq0 kk_172 (by decide +kernel)
set_option maxRecDepth 4000 in
theorem s_X12_passes {l : Launch} {D : va_G} {B : Nat} {cy : Nat → ClassId} {M : Mem} {q hv ed : Nat} {o : Wo} {z9 : Int} (hR : RW M q hv ed o z9) {r : Nat} {P : Nat → Int} (hr8 : r < 8) (hV : isV M r P) (hP : okP P) (hz5 : P 5 = -2 ∨ (0 ≤ P 5 ∧ P 5 ≤ 6)) {t : Nat} (ht : t < o.1) : Ci l D B cy yX12_passes cX12_passes 4 (some .boolean) 3 66 [.ref (B + 146), .int (zI (r : Int)), .int (zI (t : Int))] M (fun r M1 => ((adP P q hv o t) ∧ r = zI 1 ∨ ¬ (adP P q hv o t) ∧ r = zI 0) ∧ M1 = M) := by
  refine s_any (by decide) (Nat.le_of_ble_eq_true rfl) ?_
  intro p e s m below meth c ls F hr hlocks w hl
  have F : CallFix p m c cX12_passes 4 s _ TB RX12 := F
  have hx := F.1
  have hb := F.2.1
  have hl : lv_has ls 4 [(0, .ref (B + 146)), (1, .int (zI (r : Int))), (2, .int (zI (t : Int)))] := hl
  have hW := hR.1
  have hwf := hR.wf
  have hKL := hwf.2.2.2.2
  have hn12 := hwf.1
  have hq12 := hwf.2.1
  have hhv := hwf.2.2.1
  have hed := hwf.2.2.2.1
  have hc := hR.2.2.2.2
  have hP0 := hP 0 (by decide)
  have hP1 := hP 1 (by decide)
  have hP2 := hP 2 (by decide)
  have hP3 := hP 3 (by decide)
  have hP4 := hP 4 (by decide)
  have hP5 := hP 5 (by decide)
  have hP6 := hP 6 (by decide)
  have hP7 := hP 7 (by decide)
  refine lv_bipush (v := zI 8) hx hb wdX12_passes_0 (by decide) ?_
  refine lv_iload_n hx hb wdX12_passes_2 rfl (lv_at hl 1 rfl) ?_
  refine z_imul (z := (((8 * r) : Nat) : Int)) hx hb wdX12_passes_3 (by omega) ?_
  refine lv_istore_n (lv' := [(3, .int (zI (((8 * r) : Nat) : Int))), (0, .ref (B + 146)), (1, .int (zI (r : Int))), (2, .int (zI (t : Int)))]) hx hb wdX12_passes_4 rfl hl (by decide) rfl (fun ls hl => ?_)
  refine lv_aload_n hx hb wdX12_passes_5 rfl (lv_at hl 1 rfl) ?_
  refine f_12_4 F w (a := 146) rfl wtb_114 wdX12_passes_6 ?_
  refine lv_iload_n hx hb wdX12_passes_9 rfl (lv_at hl 0 rfl) ?_
  refine lv_iconst (v := zI 5) hx hb wdX12_passes_10 rfl ?_
  refine z_iadd (z := ((((8 * r) + 5) : Nat) : Int)) hx hb wdX12_passes_11 (by omega) ?_
  refine g_iald F w (a := 149) rfl (j := ((8 * r) + 5)) (ix_n (by omega)) (by omega) wdX12_passes_12 ?_
  refine r_val (v := (zI (P 5))) (hV 5 (by decide)) ?_
  refine lv_bipush (v := zI (-2)) hx hb wdX12_passes_13 (by decide) ?_
  refine z_icmp_ne (tgt := 20) hx hb (by omega) (by omega) wdX12_passes_15 (by decide) (fun c1 => ?_) (fun c1 => ?_)
  · refine lv_aload_n hx hb wdX12_passes_20 rfl (lv_at hl 1 rfl) ?_
    refine lv_aload_n hx hb wdX12_passes_21 rfl (lv_at hl 1 rfl) ?_
    refine f_12_4 F w (a := 146) rfl wtb_114 wdX12_passes_22 ?_
    refine lv_iload_n hx hb wdX12_passes_25 rfl (lv_at hl 0 rfl) ?_
    refine lv_iconst (v := zI 5) hx hb wdX12_passes_26 rfl ?_
    refine z_iadd (z := ((((8 * r) + 5) : Nat) : Int)) hx hb wdX12_passes_27 (by omega) ?_
    refine g_iald F w (a := 149) rfl (j := ((8 * r) + 5)) (ix_n (by omega)) (by omega) wdX12_passes_28 ?_
    refine r_val (v := (zI (P 5))) (hV 5 (by decide)) ?_
    refine lv_iload_n hx hb wdX12_passes_29 rfl (lv_at hl 3 rfl) ?_
    refine lv_aload_n hx hb wdX12_passes_30 rfl (lv_at hl 1 rfl) ?_
    refine f_12_4 F w (a := 146) rfl wtb_114 wdX12_passes_31 ?_
    refine lv_iload_n hx hb wdX12_passes_34 rfl (lv_at hl 0 rfl) ?_
    refine lv_bipush (v := zI 7) hx hb wdX12_passes_35 (by decide) ?_
    refine z_iadd (z := ((((8 * r) + 7) : Nat) : Int)) hx hb wdX12_passes_37 (by omega) ?_
    refine g_iald F w (a := 149) rfl (j := ((8 * r) + 7)) (ix_n (by omega)) (by omega) wdX12_passes_38 ?_
    refine r_val (v := (zI (P 7))) (hV 7 (by decide)) ?_
    refine k_Vi F w (As := [.int (zI (P 5)), .int (zI (t : Int)), .int (zI (P 7))]) (rest := []) (a := 146) (kd_lt (a := 146) (show kd 146 = (12, 0, 0) from rfl) (by decide)) (sh_12 rfl _ _) rfl (s_X12_isSo hR hP (by omega) (t := t) ht) wgv_X12_73 whv_X12_isSo ⟨(Nat.le_of_ble_eq_true rfl), (Nat.le_of_ble_eq_true rfl)⟩ hl.1 rfl (Nat.le_of_ble_eq_true rfl) ⟨Nat.zero_le _, Nat.zero_le _⟩ wdX12_passes_39 (fun r Ma3 H locs hp w => ?_)
    rcases hp with ⟨⟨hb2, rfl⟩ | ⟨hb2, rfl⟩, hMe⟩
    · rw [hMe] at w
      refine lv_aload_n hx hb wdX12_passes_42 rfl (lv_at hl 1 rfl) ?_
      refine f_12_4 F w (a := 146) rfl wtb_114 wdX12_passes_43 ?_
      refine lv_iload_n hx hb wdX12_passes_46 rfl (lv_at hl 0 rfl) ?_
      refine lv_bipush (v := zI 6) hx hb wdX12_passes_47 (by decide) ?_
      refine z_iadd (z := ((((8 * r) + 6) : Nat) : Int)) hx hb wdX12_passes_49 (by omega) ?_
      refine g_iald F w (a := 149) rfl (j := ((8 * r) + 6)) (ix_n (by omega)) (by omega) wdX12_passes_50 ?_
      refine r_val (v := (zI (P 6))) (hV 6 (by decide)) ?_
      refine lv_iconst (v := zI 1) hx hb wdX12_passes_51 rfl ?_
      refine z_icmp_ne (tgt := 59) hx hb (by omega) (by omega) wdX12_passes_52 (by decide) (fun c4 => ?_) (fun c4 => ?_)
      · refine lv_iconst (v := zI 0) hx hb wdX12_passes_59 rfl ?_
        refine z_icmp_eq (tgt := 67) hx hb (by omega) (by omega) wdX12_passes_60 (by decide) (fun c5 => False.elim (by omega)) (fun c5 => ?_)
        refine lv_iconst (v := zI 1) hx hb wdX12_passes_63 rfl ?_
        refine lv_goto (tgt := 68) hx hb wdX12_passes_64 (by decide) ?_
        exact e_z F w hr hlocks (nar_z (by omega)) ⟨Or.inl ⟨ad_y hb2 (by omega), rfl⟩, rfl⟩ wdX12_passes_68
      · refine lv_iconst (v := zI 1) hx hb wdX12_passes_55 rfl ?_
        refine lv_goto (tgt := 60) hx hb wdX12_passes_56 (by decide) ?_
        refine z_icmp_eq (tgt := 67) hx hb (by omega) (by omega) wdX12_passes_60 (by decide) (fun c6 => ?_) (fun c6 => False.elim (by omega))
        refine lv_iconst (v := zI 0) hx hb wdX12_passes_67 rfl ?_
        exact e_z F w hr hlocks (nar_z (by omega)) ⟨Or.inr ⟨ad_n (by omega) hb2 (by omega), rfl⟩, rfl⟩ wdX12_passes_68
    · rw [hMe] at w
      refine lv_aload_n hx hb wdX12_passes_42 rfl (lv_at hl 1 rfl) ?_
      refine f_12_4 F w (a := 146) rfl wtb_114 wdX12_passes_43 ?_
      refine lv_iload_n hx hb wdX12_passes_46 rfl (lv_at hl 0 rfl) ?_
      refine lv_bipush (v := zI 6) hx hb wdX12_passes_47 (by decide) ?_
      refine z_iadd (z := ((((8 * r) + 6) : Nat) : Int)) hx hb wdX12_passes_49 (by omega) ?_
      refine g_iald F w (a := 149) rfl (j := ((8 * r) + 6)) (ix_n (by omega)) (by omega) wdX12_passes_50 ?_
      refine r_val (v := (zI (P 6))) (hV 6 (by decide)) ?_
      refine lv_iconst (v := zI 1) hx hb wdX12_passes_51 rfl ?_
      refine z_icmp_ne (tgt := 59) hx hb (by omega) (by omega) wdX12_passes_52 (by decide) (fun c7 => ?_) (fun c7 => ?_)
      · refine lv_iconst (v := zI 0) hx hb wdX12_passes_59 rfl ?_
        refine z_icmp_eq (tgt := 67) hx hb (by omega) (by omega) wdX12_passes_60 (by decide) (fun c8 => ?_) (fun c8 => False.elim (by omega))
        refine lv_iconst (v := zI 0) hx hb wdX12_passes_67 rfl ?_
        exact e_z F w hr hlocks (nar_z (by omega)) ⟨Or.inr ⟨ad_n2 (by omega) hb2 (by omega), rfl⟩, rfl⟩ wdX12_passes_68
      · refine lv_iconst (v := zI 1) hx hb wdX12_passes_55 rfl ?_
        refine lv_goto (tgt := 60) hx hb wdX12_passes_56 (by decide) ?_
        refine z_icmp_eq (tgt := 67) hx hb (by omega) (by omega) wdX12_passes_60 (by decide) (fun c9 => False.elim (by omega)) (fun c9 => ?_)
        refine lv_iconst (v := zI 1) hx hb wdX12_passes_63 rfl ?_
        refine lv_goto (tgt := 68) hx hb wdX12_passes_64 (by decide) ?_
        exact e_z F w hr hlocks (nar_z (by omega)) ⟨Or.inl ⟨ad_y2 hb2 (by omega), rfl⟩, rfl⟩ wdX12_passes_68
  · refine lv_iconst (v := zI 1) hx hb wdX12_passes_18 rfl ?_
    exact e_z F w hr hlocks (nar_z (by omega)) ⟨Or.inl ⟨Or.inl (by omega), rfl⟩, rfl⟩ wdX12_passes_19
