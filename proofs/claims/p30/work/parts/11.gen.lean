/-- the place that is looked at k-th: from the left, from the right -/
def ixd (x n k : Nat) : Nat := if x = 0 then k else n - 1 - k
theorem ixd_0 {x n k : Nat} (h : x = 0) : ixd x n k = k := by simp [ixd, h]
theorem ixd_1 {x n k : Nat} (h : x ≠ 0) : ixd x n k = n - 1 - k := by simp [ixd, h]
noncomputable def pb (p : Prop) : Bool := @decide p (Classical.propDecidable p)
theorem pb_t {p : Prop} (h : p) : pb p = true := by unfold pb; exact @decide_eq_true p (Classical.propDecidable p) h
theorem pb_f {p : Prop} (h : ¬ p) : pb p = false := by unfold pb; exact @decide_eq_false p (Classical.propDecidable p) h
theorem find_s {p : Nat → Bool} {n k : Nat} (hk : k < n) (hp : p k = true) (h : ∀ i, i < k → p i = false) : (List.range n).find? p = some k := by
  rw [List.find?_range_eq_some]
  exact ⟨hp, List.mem_range.mpr hk, fun j hj => by simp [h j hj]⟩
theorem find_n {p : Nat → Bool} {n : Nat} (h : ∀ i, i < n → p i = false) : (List.range n).find? p = none := by
  rw [List.find?_eq_none]
  intro i hi
  simp [h i (List.mem_range.mp hi)]
/-- a bare syllable gets a tone that floats: which -/
def lcand (n : Nat) (L : Nat → Nat) (x j k : Nat) : Prop := L (ixd x n k) = 0 ∧ openP n L (ixd x n k) j
noncomputable def lfind (n : Nat) (L : Nat → Nat) (x j : Nat) : Option Nat := if pb (bareP n L j) = true then (List.range n).find? (fun k => pb (lcand n L x j k)) else none
noncomputable def linkL (n : Nat) (L : Nat → Nat) (x j : Nat) : Nat → Nat := match lfind n L x j with
  | some k => updF L (ixd x n k) (L (ixd x n k) ||| 2 ^ j)
  | none => L
noncomputable def linkC (n : Nat) (L : Nat → Nat) (x j : Nat) : Int := match lfind n L x j with
  | some _ => 1
  | none => 0
theorem link_s {n x j k t : Nat} {L : Nat → Nat} (hb : bareP n L j) (hk : k < n) (ht : ixd x n k = t) (h0 : L t = 0) (ho : openP n L t j) (h : ∀ i, i < k → ¬ lcand n L x j i) : linkL n L x j = updF L t (L t ||| 2 ^ j) ∧ linkC n L x j = 1 := by
  have e : lfind n L x j = some k := by
    unfold lfind
    rw [if_pos (pb_t hb)]
    exact find_s hk (pb_t (by unfold lcand; rw [ht]; exact ⟨h0, ho⟩)) (fun i hi => pb_f (h i hi))
  unfold linkL linkC
  rw [e]
  exact ⟨by show updF L (ixd x n k) _ = _; rw [ht], rfl⟩
theorem link_n1 {n x j : Nat} {L : Nat → Nat} (hb : ¬ bareP n L j) : linkL n L x j = L ∧ linkC n L x j = 0 := by
  have e : lfind n L x j = none := by
    unfold lfind
    rw [pb_f hb]
    rfl
  unfold linkL linkC
  rw [e]
  exact ⟨rfl, rfl⟩
theorem link_n2 {n x j : Nat} {L : Nat → Nat} (h : ∀ i, i < n → ¬ lcand n L x j i) : linkL n L x j = L ∧ linkC n L x j = 0 := by
  have e : lfind n L x j = none := by
    unfold lfind
    rw [find_n (fun i hi => pb_f (h i hi))]
    split <;> rfl
  unfold linkL linkC
  rw [e]
  exact ⟨rfl, rfl⟩
theorem FrC.rf {M : Mem} : FrC M M := ⟨fun _ _ _ => rfl, fun _ _ => rfl, rfl⟩
theorem link_id {M : Mem} {n q hv ed x j : Nat} {K L : Nat → Nat} {z9 : Int} (hW : isR M 148 n q hv ed K L) (hc : M.1 146 3 = zI z9) (h : linkL n L x j = L ∧ linkC n L x j = 0) : isR M 148 n q hv ed K (linkL n L x j) ∧ M.1 146 3 = zI (z9 + linkC n L x j) ∧ FrC M M := by
  rw [h.1, h.2, Int.add_zero]
  exact ⟨hW, hc, FrC.rf⟩
theorem link_do {M M1 : Mem} {n q hv ed x j t : Nat} {K L : Nat → Nat} {z9 : Int} (hW : isR M1 148 n q hv ed K (updF L t (L t ||| 2 ^ j))) (hc : M1.1 146 3 = zI (z9 + 1)) (hF : FrC M1 M) (h : linkL n L x j = updF L t (L t ||| 2 ^ j) ∧ linkC n L x j = 1) : isR M1 148 n q hv ed K (linkL n L x j) ∧ M1.1 146 3 = zI (z9 + linkC n L x j) ∧ FrC M1 M := by
  rw [h.1, h.2]
  exact ⟨hW, hc, hF⟩
theorem dX12_links_11 : decode cX12_links 11 = .ok (.iload_n 3, 1) := dq0 kk_29 (by decide +kernel)
theorem dX12_links_12 : decode cX12_links 12 = .ok (.aload_n 0, 1) := dq0 kk_42 (by decide +kernel)
theorem dX12_links_13 : decode cX12_links 13 = .ok (.getfield 17, 3) := dqV kk_180 (by decide +kernel)
theorem dX12_links_16 : decode cX12_links 16 = .ok (.iconst 0, 1) := dq0 kk_3 (by decide +kernel)
theorem dX12_links_17 : decode cX12_links 17 = .ok (.iaload, 1) := dq0 kk_46 (by decide +kernel)
theorem dX12_links_18 : decode cX12_links 18 = .ok (.if_icmp .ge 66, 3) := dqT kk_162 (by decide +kernel)
theorem dX12_links_21 : decode cX12_links 21 = .ok (.iload_n 2, 1) := dq0 kk_28 (by decide +kernel)
theorem dX12_links_22 : decode cX12_links 22 = .ok (.ifCond .eq 16, 3) := dqT kk_153 (by decide +kernel)
theorem dX12_links_38 : decode cX12_links 38 = .ok (.iload_n 3, 1) := dq0 kk_29 (by decide +kernel)
theorem dX12_links_39 : decode cX12_links 39 = .ok (.istore 4, 2) := dqU kk_54 (by decide +kernel)
theorem dX12_links_41 : decode cX12_links 41 = .ok (.aload_n 0, 1) := dq0 kk_42 (by decide +kernel)
theorem dX12_links_42 : decode cX12_links 42 = .ok (.getfield 17, 3) := dqV kk_180 (by decide +kernel)
theorem dX12_links_45 : decode cX12_links 45 = .ok (.bipush 13, 2) := dqS kk_16 (by decide +kernel)
theorem dX12_links_47 : decode cX12_links 47 = .ok (.iload 4, 2) := dqU kk_21 (by decide +kernel)
theorem dX12_links_49 : decode cX12_links 49 = .ok (.iadd, 1) := dq0 kk_96 (by decide +kernel)
theorem dX12_links_50 : decode cX12_links 50 = .ok (.iaload, 1) := dq0 kk_46 (by decide +kernel)
theorem dX12_links_51 : decode cX12_links 51 = .ok (.ifCond .ne 27, 3) := dqT kk_154 (by decide +kernel)
theorem dX12_links_78 : decode cX12_links 78 = .ok (.iinc 3 1, 3) := dqI kk_132 (by decide +kernel)
theorem dX12_links_81 : decode cX12_links 81 = .ok (.goto (-70), 3) := dqT kk_167 (by decide +kernel)
theorem dX12_links_54 : decode cX12_links 54 = .ok (.aload_n 0, 1) := dq0 kk_42 (by decide +kernel)
theorem dX12_links_55 : decode cX12_links 55 = .ok (.getfield 17, 3) := dqV kk_180 (by decide +kernel)
theorem dX12_links_58 : decode cX12_links 58 = .ok (.iload 4, 2) := dqU kk_21 (by decide +kernel)
theorem dX12_links_60 : decode cX12_links 60 = .ok (.iload_n 1, 1) := dq0 kk_27 (by decide +kernel)
theorem dX12_links_61 : decode cX12_links 61 = .ok (.invokestatic 86, 3) := dqV kk_184 (by decide +kernel)
theorem tk_X12_isOpen : Cond.code yX12_isOpen cX12_isOpen 5 (some .boolean) ∈ TB := tbm (tc5 (List.mem_of_getElem? (i := 185) rfl)) rfl
theorem gc_X12_isOpen : GoodIn TB (cw yX12_isOpen cX12_isOpen 5 (some .boolean)) := goodIn_c2 tk_X12_isOpen
theorem tb_54 : Cond.methodLink "ToneLinesModel" 86 yX12_isOpen ∈ TB := tbm (tc5 (List.mem_of_getElem? (i := 183) rfl)) rfl
theorem tb_55 : Cond.static yX12_isOpen ∈ TB := tbm (tc5 (List.mem_of_getElem? (i := 184) rfl)) rfl
theorem gs_X12_86 : GoodIn TB (va_wsS RX12 86 yX12_isOpen (cw yX12_isOpen cX12_isOpen 5 (some .boolean))) := goodIn_3 tb_54 tb_55 tb_38 gc_X12_isOpen
theorem hs_X12_isOpen : yX12_isOpen.cls ≠ "java/lang/invoke/MethodHandle" ∧ yX12_isOpen.cls ≠ "java/lang/invoke/VarHandle" ∧ (parseMethodDescriptor yX12_isOpen.desc).map (fun d => d.parameters.length) = some 3 := by decide +kernel
theorem dX12_links_64 : decode cX12_links 64 = .ok (.ifCond .ne 6, 3) := dqT kk_154 (by decide +kernel)
theorem dX12_links_70 : decode cX12_links 70 = .ok (.aload_n 0, 1) := dq0 kk_42 (by decide +kernel)
theorem dX12_links_71 : decode cX12_links 71 = .ok (.iload 4, 2) := dqU kk_21 (by decide +kernel)
theorem dX12_links_73 : decode cX12_links 73 = .ok (.iload_n 1, 1) := dq0 kk_27 (by decide +kernel)
theorem dX12_links_74 : decode cX12_links 74 = .ok (.invokevirtual 90, 3) := dqV kk_182 (by decide +kernel)
theorem tk_X12_comes : Cond.code yX12_comes cX12_comes 3 none ∈ TB := tbm (tc6 (List.mem_of_getElem? (i := 75) rfl)) rfl
theorem gc_X12_comes : GoodIn TB (cw yX12_comes cX12_comes 3 none) := goodIn_c2 tk_X12_comes
theorem tb_56 : Cond.methodLink "ToneLinesModel" 90 yX12_comes ∈ TB := tbm (tc6 (List.mem_of_getElem? (i := 72) rfl)) rfl
theorem tb_57 : Cond.instanceMethod yX12_comes ∈ TB := tbm (tc6 (List.mem_of_getElem? (i := 74) rfl)) rfl
theorem tb_58 : Cond.selects "ToneLinesModel" yX12_comes yX12_comes ∈ TB := tbp (List.mem_of_getElem? (i := 57) rfl) rfl
theorem gv_X12_90 : GoodIn TB (wsV RX12 90 RX12 yX12_comes (cw yX12_comes cX12_comes 3 none)) := goodIn_4 tb_56 tb_57 tb_58 tb_38 gc_X12_comes
theorem hv_X12_comes : yX12_comes.cls = RX12 ∧ yX12_comes.cls ≠ "java/lang/invoke/MethodHandle" ∧ yX12_comes.cls ≠ "java/lang/invoke/VarHandle" ∧ (parseMethodDescriptor yX12_comes.desc).map (fun d => d.parameters.length) = some 2 := by decide +kernel
theorem dX12_links_77 : decode cX12_links 77 = .ok (.return_, 1) := dq0 kk_177 (by decide +kernel)
theorem dX12_links_67 : decode cX12_links 67 = .ok (.goto 11, 3) := dqT kk_167 (by decide +kernel)
theorem dX12_links_25 : decode cX12_links 25 = .ok (.aload_n 0, 1) := dq0 kk_42 (by decide +kernel)
theorem dX12_links_26 : decode cX12_links 26 = .ok (.getfield 17, 3) := dqV kk_180 (by decide +kernel)
theorem dX12_links_29 : decode cX12_links 29 = .ok (.iconst 0, 1) := dq0 kk_3 (by decide +kernel)
theorem dX12_links_30 : decode cX12_links 30 = .ok (.iaload, 1) := dq0 kk_46 (by decide +kernel)
theorem dX12_links_31 : decode cX12_links 31 = .ok (.iconst 1, 1) := dq0 kk_4 (by decide +kernel)
theorem dX12_links_32 : decode cX12_links 32 = .ok (.isub, 1) := dq0 kk_100 (by decide +kernel)
theorem dX12_links_33 : decode cX12_links 33 = .ok (.iload_n 3, 1) := dq0 kk_29 (by decide +kernel)
theorem dX12_links_34 : decode cX12_links 34 = .ok (.isub, 1) := dq0 kk_100 (by decide +kernel)
theorem dX12_links_35 : decode cX12_links 35 = .ok (.goto 4, 3) := dqT kk_167 (by decide +kernel)
set_option maxRecDepth 4000 in
theorem lp_X12_links {p : Program} {l : Launch} {e : Env} {s : State} {m : MethodId} {args : Array Value} {below : List Frame} {meth : Method} {c : Code} {D : va_G} {B : Nat} {cy : Nat → ClassId}  {M : Mem} {R : Room} {n q hv ed : Nat} {K L : Nat → Nat} {z9 : Int}  {j x : Nat} (F : CallFix p m c cX12_links 5 s args TB RX12) (hr : meth.sig.returnType = none) (hlocks : meth.locks = false) (hR1 : 3 ≤ R.frames) (hR2 : 66 ≤ R.locals) (hW : isR M 148 n q hv ed K L) (hwf : wf n q hv ed K L) (hc : M.1 146 3 = zI z9) (hj : j < 12) (hx9 : x = 0 ∨ x = 1) (hbare : bareP n L j) (kk : ∀ (k : Nat) (H : Heap) (locs : List Loc) (ls : Array Slot), (k = n) → (∀ i, i < n → ¬ lcand n L x j i) → Wd D B cy s s.heap M H locs → lv_has ls 5 [(3, .int (zI (k : Int))), (0, .ref (B + 146)), (1, .int (zI (j : Int))), (2, .int (zI (x : Int)))] → W p l e R s m args below meth c H locs 0 0 (MQ below (va_Qv (fun M1 => isR M1 148 n q hv ed K (linkL n L x j) ∧ M1.1 146 3 = zI (z9 + linkC n L x j) ∧ FrC M1 M) (fun M2 t2 => Wp D B cy M2 t2) (fun q2 => B ≤ q2)) args s 0 0 (fun q2 => B ≤ q2)) (F0 m 84 ls [])) : ∀ (f : Nat) (k : Nat), (k ≤ n) → (∀ i, i < k → ¬ lcand n L x j i) → (n ≤ k + f) → ∀ (H : Heap) (locs : List Loc) (ls : Array Slot), Wd D B cy s s.heap M H locs → lv_has ls 5 [(3, .int (zI (k : Int))), (0, .ref (B + 146)), (1, .int (zI (j : Int))), (2, .int (zI (x : Int)))] → W p l e R s m args below meth c H locs 0 0 (MQ below (va_Qv (fun M1 => isR M1 148 n q hv ed K (linkL n L x j) ∧ M1.1 146 3 = zI (z9 + linkC n L x j) ∧ FrC M1 M) (fun M2 t2 => Wp D B cy M2 t2) (fun q2 => B ≤ q2)) args s 0 0 (fun q2 => B ≤ q2)) (F0 m 11 ls []) := by
  have hx := F.1
  have hb := F.2.1
  have hwf0 := hwf
  obtain ⟨hn, hq, hhv, hed, hKL⟩ := hwf0
  intro f
  induction f with
  | zero =>
    intro k i0 i1 hf H locs ls w hl
    refine lv_iload_n hx hb dX12_links_11 rfl (lv_at hl 0 rfl) ?_
    refine lv_aload_n hx hb dX12_links_12 rfl (lv_at hl 1 rfl) ?_
    refine f_12_2 F w (a := 146) rfl tb_45 dX12_links_13 ?_
    refine lv_iconst (v := zI 0) hx hb dX12_links_16 rfl ?_
    refine g_iald F w (a := 148) rfl (j := 0) ⟨by decide, by decide⟩ (by omega) dX12_links_17 ?_
    refine r_val (v := (zI (n : Int))) (hW.1) ?_
    refine z_icmp_ge (tgt := 84) hx hb (by omega) (by omega) dX12_links_18 (by decide) (fun c1 => ?_) (fun c1 => False.elim (by omega))
    exact kk k _ _ ls (by omega) (fun i hi => i1 i (by omega)) w (lv_sub hl [0, 1, 2, 3] rfl)
  | succ f ih =>
    intro k i0 i1 hf H locs ls w hl
    refine lv_iload_n hx hb dX12_links_11 rfl (lv_at hl 0 rfl) ?_
    refine lv_aload_n hx hb dX12_links_12 rfl (lv_at hl 1 rfl) ?_
    refine f_12_2 F w (a := 146) rfl tb_45 dX12_links_13 ?_
    refine lv_iconst (v := zI 0) hx hb dX12_links_16 rfl ?_
    refine g_iald F w (a := 148) rfl (j := 0) ⟨by decide, by decide⟩ (by omega) dX12_links_17 ?_
    refine r_val (v := (zI (n : Int))) (hW.1) ?_
    refine z_icmp_ge (tgt := 84) hx hb (by omega) (by omega) dX12_links_18 (by decide) (fun c1 => ?_) (fun c1 => ?_)
    · exact kk k _ _ ls (by omega) (fun i hi => i1 i (by omega)) w (lv_sub hl [0, 1, 2, 3] rfl)
    · refine lv_iload_n hx hb dX12_links_21 rfl (lv_at hl 3 rfl) ?_
      refine z_if_eq (tgt := 38) hx hb (by omega) dX12_links_22 (by decide) (fun c2 => ?_) (fun c2 => ?_)
      · refine lv_iload_n hx hb dX12_links_38 rfl (lv_at hl 0 rfl) ?_
        refine lv_istore (lv' := [(4, .int (zI (k : Int))), (3, .int (zI (k : Int))), (0, .ref (B + 146)), (1, .int (zI (j : Int))), (2, .int (zI (x : Int)))]) hx hb dX12_links_39 hl (by decide) rfl (fun ls hl => ?_)
        refine lv_aload_n hx hb dX12_links_41 rfl (lv_at hl 2 rfl) ?_
        refine f_12_2 F w (a := 146) rfl tb_45 dX12_links_42 ?_
        refine lv_bipush (v := zI 13) hx hb dX12_links_45 (by decide) ?_
        refine lv_iload hx hb dX12_links_47 (lv_at hl 0 rfl) ?_
        refine z_iadd (z := (((13 + k) : Nat) : Int)) hx hb dX12_links_49 (by omega) ?_
        refine g_iald F w (a := 148) rfl (j := (13 + k)) (ix_n (by omega)) (by omega) dX12_links_50 ?_
        have hL2 := (hKL k (by omega)).2
        refine r_val (v := (zI (((L k) : Nat) : Int))) (hW.2.2.2.2.2 k (by omega)) ?_
        refine z_if_ne (tgt := 78) hx hb (by omega) dX12_links_51 (by decide) (fun c3 => ?_) (fun c3 => ?_)
        · refine z_iinc (v := (((k + 1) : Nat) : Int)) (lv' := [(3, .int (zI (((k + 1) : Nat) : Int))), (4, .int (zI (k : Int))), (0, .ref (B + 146)), (1, .int (zI (j : Int))), (2, .int (zI (x : Int)))]) hx hb dX12_links_78 hl (k := 1) rfl (by omega) (by decide) rfl (fun ls hl => ?_)
          refine lv_goto (tgt := 11) hx hb dX12_links_81 (by decide) ?_
          exact ih (k + 1) (by omega) (fun i hi => by by_cases h9 : i = k; (rw [h9]; unfold lcand; rw [ixd_0 (by omega)]; rintro ⟨h8, h7⟩; first | omega | exact absurd h7 (by assumption)); exact i1 i (by omega)) (by omega) _ _ ls w (lv_sub hl [0, 2, 3, 4] rfl)
        · refine lv_aload_n hx hb dX12_links_54 rfl (lv_at hl 2 rfl) ?_
          refine f_12_2 F w (a := 146) rfl tb_45 dX12_links_55 ?_
          refine lv_iload hx hb dX12_links_58 (lv_at hl 0 rfl) ?_
          refine lv_iload_n hx hb dX12_links_60 rfl (lv_at hl 3 rfl) ?_
          refine k_Si F w (As := [.ref (B + 148), .int (zI (k : Int)), .int (zI (j : Int))]) (rest := []) (s_X12_isOpen (a := 148) rfl hW hwf (t := k) (j := j) (by omega) (by omega)) gs_X12_86 hs_X12_isOpen ⟨(by omega), (by omega)⟩ hl.1 rfl (Nat.le_of_ble_eq_true rfl) ⟨Nat.zero_le _, Nat.zero_le _⟩ dX12_links_61 (fun r M1 H locs hp w => ?_)
          rcases hp with ⟨⟨hb4, rfl⟩ | ⟨hb4, rfl⟩, hMe⟩
          · rw [hMe] at w
            refine z_if_ne (tgt := 70) hx hb (by omega) dX12_links_64 (by decide) (fun c5 => ?_) (fun c5 => False.elim (by omega))
            refine lv_aload_n hx hb dX12_links_70 rfl (lv_at hl 2 rfl) ?_
            refine lv_iload hx hb dX12_links_71 (lv_at hl 0 rfl) ?_
            refine lv_iload_n hx hb dX12_links_73 rfl (lv_at hl 3 rfl) ?_
            refine k_Vv F w (As := [.int (zI (k : Int)), .int (zI (j : Int))]) (rest := []) (a := 146) (kd_lt (a := 146) (show kd 146 = (12, 0, 0) from rfl) (by decide)) (sh_12 rfl _ _) rfl (s_X12_comes hW hwf hc (t := k) (j := j) (by omega) (by omega)) gv_X12_90 hv_X12_comes ⟨(by omega), (by omega)⟩ hl.1 rfl (Nat.le_of_ble_eq_true rfl) ⟨Nat.zero_le _, Nat.zero_le _⟩ dX12_links_74 (fun M1 H locs hp w => ?_)
            rcases hp with ⟨hW2, hc2, hF2⟩
            exact e_v F w hr hlocks (link_do hW2 hc2 hF2 (link_s hbare (by omega) (ixd_0 (by omega)) (by omega) (by assumption) i1)) dX12_links_77
          · rw [hMe] at w
            refine z_if_ne (tgt := 70) hx hb (by omega) dX12_links_64 (by decide) (fun c6 => False.elim (by omega)) (fun c6 => ?_)
            refine lv_goto (tgt := 78) hx hb dX12_links_67 (by decide) ?_
            refine z_iinc (v := (((k + 1) : Nat) : Int)) (lv' := [(3, .int (zI (((k + 1) : Nat) : Int))), (4, .int (zI (k : Int))), (0, .ref (B + 146)), (1, .int (zI (j : Int))), (2, .int (zI (x : Int)))]) hx hb dX12_links_78 hl (k := 1) rfl (by omega) (by decide) rfl (fun ls hl => ?_)
            refine lv_goto (tgt := 11) hx hb dX12_links_81 (by decide) ?_
            exact ih (k + 1) (by omega) (fun i hi => by by_cases h9 : i = k; (rw [h9]; unfold lcand; rw [ixd_0 (by omega)]; rintro ⟨h8, h7⟩; first | omega | exact absurd h7 (by assumption)); exact i1 i (by omega)) (by omega) _ _ ls w (lv_sub hl [0, 2, 3, 4] rfl)
      · refine lv_aload_n hx hb dX12_links_25 rfl (lv_at hl 1 rfl) ?_
        refine f_12_2 F w (a := 146) rfl tb_45 dX12_links_26 ?_
        refine lv_iconst (v := zI 0) hx hb dX12_links_29 rfl ?_
        refine g_iald F w (a := 148) rfl (j := 0) ⟨by decide, by decide⟩ (by omega) dX12_links_30 ?_
        refine r_val (v := (zI (n : Int))) (hW.1) ?_
        refine lv_iconst (v := zI 1) hx hb dX12_links_31 rfl ?_
        refine z_isub (z := ((n : Int) - 1)) hx hb dX12_links_32 (by omega) ?_
        refine lv_iload_n hx hb dX12_links_33 rfl (lv_at hl 0 rfl) ?_
        refine z_isub (z := (((n : Int) - 1) - (k : Int))) hx hb dX12_links_34 (by omega) ?_
        refine r_val (v := (zI (((n - 1 - k) : Nat) : Int))) (congrArg zI (by omega)) ?_
        refine lv_goto (tgt := 39) hx hb dX12_links_35 (by decide) ?_
        refine lv_istore (lv' := [(4, .int (zI (((n - 1 - k) : Nat) : Int))), (3, .int (zI (k : Int))), (0, .ref (B + 146)), (1, .int (zI (j : Int))), (2, .int (zI (x : Int)))]) hx hb dX12_links_39 hl (by decide) rfl (fun ls hl => ?_)
        refine lv_aload_n hx hb dX12_links_41 rfl (lv_at hl 2 rfl) ?_
        refine f_12_2 F w (a := 146) rfl tb_45 dX12_links_42 ?_
        refine lv_bipush (v := zI 13) hx hb dX12_links_45 (by decide) ?_
        refine lv_iload hx hb dX12_links_47 (lv_at hl 0 rfl) ?_
        refine z_iadd (z := (((13 + (n - 1 - k)) : Nat) : Int)) hx hb dX12_links_49 (by omega) ?_
        refine g_iald F w (a := 148) rfl (j := (13 + (n - 1 - k))) (ix_n (by omega)) (by omega) dX12_links_50 ?_
        have hL6 := (hKL (n - 1 - k) (by omega)).2
        refine r_val (v := (zI (((L (n - 1 - k)) : Nat) : Int))) (hW.2.2.2.2.2 (n - 1 - k) (by omega)) ?_
        refine z_if_ne (tgt := 78) hx hb (by omega) dX12_links_51 (by decide) (fun c7 => ?_) (fun c7 => ?_)
        · refine z_iinc (v := (((k + 1) : Nat) : Int)) (lv' := [(3, .int (zI (((k + 1) : Nat) : Int))), (4, .int (zI (((n - 1 - k) : Nat) : Int))), (0, .ref (B + 146)), (1, .int (zI (j : Int))), (2, .int (zI (x : Int)))]) hx hb dX12_links_78 hl (k := 1) rfl (by omega) (by decide) rfl (fun ls hl => ?_)
          refine lv_goto (tgt := 11) hx hb dX12_links_81 (by decide) ?_
          exact ih (k + 1) (by omega) (fun i hi => by by_cases h9 : i = k; (rw [h9]; unfold lcand; rw [ixd_1 (by omega)]; rintro ⟨h8, h7⟩; first | omega | exact absurd h7 (by assumption)); exact i1 i (by omega)) (by omega) _ _ ls w (lv_sub hl [0, 2, 3, 4] rfl)
        · refine lv_aload_n hx hb dX12_links_54 rfl (lv_at hl 2 rfl) ?_
          refine f_12_2 F w (a := 146) rfl tb_45 dX12_links_55 ?_
          refine lv_iload hx hb dX12_links_58 (lv_at hl 0 rfl) ?_
          refine lv_iload_n hx hb dX12_links_60 rfl (lv_at hl 3 rfl) ?_
          refine k_Si F w (As := [.ref (B + 148), .int (zI (((n - 1 - k) : Nat) : Int)), .int (zI (j : Int))]) (rest := []) (s_X12_isOpen (a := 148) rfl hW hwf (t := (n - 1 - k)) (j := j) (by omega) (by omega)) gs_X12_86 hs_X12_isOpen ⟨(by omega), (by omega)⟩ hl.1 rfl (Nat.le_of_ble_eq_true rfl) ⟨Nat.zero_le _, Nat.zero_le _⟩ dX12_links_61 (fun r M1 H locs hp w => ?_)
          rcases hp with ⟨⟨hb8, rfl⟩ | ⟨hb8, rfl⟩, hMe⟩
          · rw [hMe] at w
            refine z_if_ne (tgt := 70) hx hb (by omega) dX12_links_64 (by decide) (fun c9 => ?_) (fun c9 => False.elim (by omega))
            refine lv_aload_n hx hb dX12_links_70 rfl (lv_at hl 2 rfl) ?_
            refine lv_iload hx hb dX12_links_71 (lv_at hl 0 rfl) ?_
            refine lv_iload_n hx hb dX12_links_73 rfl (lv_at hl 3 rfl) ?_
            refine k_Vv F w (As := [.int (zI (((n - 1 - k) : Nat) : Int)), .int (zI (j : Int))]) (rest := []) (a := 146) (kd_lt (a := 146) (show kd 146 = (12, 0, 0) from rfl) (by decide)) (sh_12 rfl _ _) rfl (s_X12_comes hW hwf hc (t := (n - 1 - k)) (j := j) (by omega) (by omega)) gv_X12_90 hv_X12_comes ⟨(by omega), (by omega)⟩ hl.1 rfl (Nat.le_of_ble_eq_true rfl) ⟨Nat.zero_le _, Nat.zero_le _⟩ dX12_links_74 (fun M1 H locs hp w => ?_)
            rcases hp with ⟨hW2, hc2, hF2⟩
            exact e_v F w hr hlocks (link_do hW2 hc2 hF2 (link_s hbare (by omega) (ixd_1 (by omega)) (by omega) (by assumption) i1)) dX12_links_77
          · rw [hMe] at w
            refine z_if_ne (tgt := 70) hx hb (by omega) dX12_links_64 (by decide) (fun c10 => False.elim (by omega)) (fun c10 => ?_)
            refine lv_goto (tgt := 78) hx hb dX12_links_67 (by decide) ?_
            refine z_iinc (v := (((k + 1) : Nat) : Int)) (lv' := [(3, .int (zI (((k + 1) : Nat) : Int))), (4, .int (zI (((n - 1 - k) : Nat) : Int))), (0, .ref (B + 146)), (1, .int (zI (j : Int))), (2, .int (zI (x : Int)))]) hx hb dX12_links_78 hl (k := 1) rfl (by omega) (by decide) rfl (fun ls hl => ?_)
            refine lv_goto (tgt := 11) hx hb dX12_links_81 (by decide) ?_
            exact ih (k + 1) (by omega) (fun i hi => by by_cases h9 : i = k; (rw [h9]; unfold lcand; rw [ixd_1 (by omega)]; rintro ⟨h8, h7⟩; first | omega | exact absurd h7 (by assumption)); exact i1 i (by omega)) (by omega) _ _ ls w (lv_sub hl [0, 2, 3, 4] rfl)
theorem dX12_links_0 : decode cX12_links 0 = .ok (.aload_n 0, 1) := dq0 kk_42 (by decide +kernel)
theorem dX12_links_1 : decode cX12_links 1 = .ok (.iload_n 1, 1) := dq0 kk_27 (by decide +kernel)
theorem dX12_links_2 : decode cX12_links 2 = .ok (.invokevirtual 82, 3) := dqV kk_182 (by decide +kernel)
theorem tk_X12_isBare : Cond.code yX12_isBare cX12_isBare 2 (some .boolean) ∈ TB := tbm (tc6 (List.mem_of_getElem? (i := 68) rfl)) rfl
theorem gc_X12_isBare : GoodIn TB (cw yX12_isBare cX12_isBare 2 (some .boolean)) := goodIn_c2 tk_X12_isBare
theorem tb_59 : Cond.methodLink "ToneLinesModel" 82 yX12_isBare ∈ TB := tbm (tc6 (List.mem_of_getElem? (i := 65) rfl)) rfl
theorem tb_60 : Cond.instanceMethod yX12_isBare ∈ TB := tbm (tc6 (List.mem_of_getElem? (i := 67) rfl)) rfl
theorem tb_61 : Cond.selects "ToneLinesModel" yX12_isBare yX12_isBare ∈ TB := tbp (List.mem_of_getElem? (i := 56) rfl) rfl
theorem gv_X12_82 : GoodIn TB (wsV RX12 82 RX12 yX12_isBare (cw yX12_isBare cX12_isBare 2 (some .boolean))) := goodIn_4 tb_59 tb_60 tb_61 tb_38 gc_X12_isBare
theorem hv_X12_isBare : yX12_isBare.cls = RX12 ∧ yX12_isBare.cls ≠ "java/lang/invoke/MethodHandle" ∧ yX12_isBare.cls ≠ "java/lang/invoke/VarHandle" ∧ (parseMethodDescriptor yX12_isBare.desc).map (fun d => d.parameters.length) = some 1 := by decide +kernel
theorem dX12_links_5 : decode cX12_links 5 = .ok (.ifCond .ne 4, 3) := dqT kk_154 (by decide +kernel)
theorem dX12_links_9 : decode cX12_links 9 = .ok (.iconst 0, 1) := dq0 kk_3 (by decide +kernel)
theorem dX12_links_10 : decode cX12_links 10 = .ok (.istore_n 3, 1) := dq0 kk_62 (by decide +kernel)
theorem dX12_links_84 : decode cX12_links 84 = .ok (.return_, 1) := dq0 kk_177 (by decide +kernel)
theorem dX12_links_8 : decode cX12_links 8 = .ok (.return_, 1) := dq0 kk_177 (by decide +kernel)
set_option maxRecDepth 4000 in
theorem s_X12_links {l : Launch} {D : va_G} {B : Nat} {cy : Nat → ClassId} {M : Mem} {n q hv ed : Nat} {K L : Nat → Nat} {z9 : Int} (hW : isR M 148 n q hv ed K L) (hwf : wf n q hv ed K L) (hc : M.1 146 3 = zI z9) {j x : Nat} (hj : j < 12) (hx9 : x = 0 ∨ x = 1) : Cv l D B cy yX12_links cX12_links 5 3 66 [.ref (B + 146), .int (zI (j : Int)), .int (zI (x : Int))] M (fun M1 => isR M1 148 n q hv ed K (linkL n L x j) ∧ M1.1 146 3 = zI (z9 + linkC n L x j) ∧ FrC M1 M) := by
  refine s_any (by decide) (Nat.le_of_ble_eq_true rfl) ?_
  intro p e s m below meth c ls F hr hlocks w hl
  have F : CallFix p m c cX12_links 5 s _ TB RX12 := F
  have hx := F.1
  have hb := F.2.1
  have hl : lv_has ls 5 [(0, .ref (B + 146)), (1, .int (zI (j : Int))), (2, .int (zI (x : Int)))] := hl
  have hwf0 := hwf
  obtain ⟨hn, hq, hhv, hed, hKL⟩ := hwf0
  refine lv_aload_n hx hb dX12_links_0 rfl (lv_at hl 0 rfl) ?_
  refine lv_iload_n hx hb dX12_links_1 rfl (lv_at hl 1 rfl) ?_
  refine k_Vi F w (As := [.int (zI (j : Int))]) (rest := []) (a := 146) (kd_lt (a := 146) (show kd 146 = (12, 0, 0) from rfl) (by decide)) (sh_12 rfl _ _) rfl (s_X12_isBare hW hwf hc (j := j) (by omega)) gv_X12_82 hv_X12_isBare ⟨(Nat.le_of_ble_eq_true rfl), (Nat.le_of_ble_eq_true rfl)⟩ hl.1 rfl (Nat.le_of_ble_eq_true rfl) ⟨Nat.zero_le _, Nat.zero_le _⟩ dX12_links_2 (fun r M1 H locs hp w => ?_)
  rcases hp with ⟨⟨hb1, rfl⟩ | ⟨hb1, rfl⟩, hMe⟩
  · rw [hMe] at w
    refine z_if_ne (tgt := 9) hx hb (by omega) dX12_links_5 (by decide) (fun c2 => ?_) (fun c2 => False.elim (by omega))
    refine lv_iconst (v := zI 0) hx hb dX12_links_9 rfl ?_
    refine lv_istore_n (lv' := [(3, .int (zI 0)), (0, .ref (B + 146)), (1, .int (zI (j : Int))), (2, .int (zI (x : Int)))]) hx hb dX12_links_10 rfl hl (by decide) rfl (fun ls hl => ?_)
    refine lp_X12_links  F hr hlocks (Nat.le_of_ble_eq_true rfl) (Nat.le_of_ble_eq_true rfl) hW hwf hc hj hx9 (by assumption) (fun k H locs ls x0 x1 w hl => ?_) n 0 (by omega) (fun i hi => absurd hi (Nat.not_lt_zero i)) (by omega) _ _ ls w (lv_sub hl [0, 1, 2, 3] rfl)
    exact e_v F w hr hlocks (link_id hW hc (link_n2 x1)) dX12_links_84
  · rw [hMe] at w
    refine z_if_ne (tgt := 9) hx hb (by omega) dX12_links_5 (by decide) (fun c3 => False.elim (by omega)) (fun c3 => ?_)
    exact e_v F w hr hlocks (link_id hW hc (link_n1 (by assumption))) dX12_links_8
