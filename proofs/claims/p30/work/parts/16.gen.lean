def nj (L : Nat → Nat) (t x : Nat) : Nat := (if x = 0 then higI (L t) + 1 else lowI (L t) - 1).toNat
/-- at most k lines more beside -/
noncomputable def spr (n q ed t x : Nat) : Nat → (Nat → Nat) → (Nat → Nat) × Nat
  | 0, L => (L, 0)
  | k + 1, L => if pb (stpP n q ed L t x (nj L t x)) = true then ((spr n q ed t x k (updF L t (L t ||| 2 ^ nj L t x))).1, (spr n q ed t x k (updF L t (L t ||| 2 ^ nj L t x))).2 + 1) else (L, 0)
theorem nj_is {n q ed t x j : Nat} {L : Nat → Nat} (h : stpP n q ed L t x j) : nj L t x = j := by
  unfold nj
  rw [← h.1]
  omega
theorem spr_y {n q ed t x k j : Nat} {L : Nat → Nat} (h : stpP n q ed L t x j) : spr n q ed t x (k + 1) L = ((spr n q ed t x k (updF L t (L t ||| 2 ^ j))).1, (spr n q ed t x k (updF L t (L t ||| 2 ^ j))).2 + 1) := by
  rw [spr, nj_is h, if_pos (pb_t h)]
theorem spr_n {n q ed t x k : Nat} {L : Nat → Nat} (h : ∀ j, ¬ stpP n q ed L t x j) : spr n q ed t x k L = (L, 0) := by
  cases k with
  | zero => rfl
  | succ k => rw [spr, pb_f (h _)]; rfl
def sprI (n q ed t x T : Nat) (L L1 : Nat → Nat) (i mo : Nat) (z9 cz : Int) : Prop := ∃ c : Nat, cz = z9 + (c : Int) ∧ ((mo = 1 ∧ spr n q ed t x T L = ((spr n q ed t x (T - i) L1).1, c + (spr n q ed t x (T - i) L1).2)) ∨ (mo = 0 ∧ spr n q ed t x T L = (L1, c)))
theorem sprI_0 {n q ed t x T : Nat} {L : Nat → Nat} {z9 : Int} : sprI n q ed t x T L L 0 1 z9 z9 := ⟨0, by omega, Or.inl ⟨rfl, by simp⟩⟩
theorem sprI_y {n q ed t x T i j mo : Nat} {L L1 : Nat → Nat} {z9 cz : Int} (h : sprI n q ed t x T L L1 i mo z9 cz) (hm : mo ≠ 0) (hi : i < T) (hs : stpP n q ed L1 t x j) : sprI n q ed t x T L (updF L1 t (L1 t ||| 2 ^ j)) (i + 1) 1 z9 (cz + 1) := by
  obtain ⟨c, h1, h2 | h2⟩ := h
  · refine ⟨c + 1, by omega, Or.inl ⟨rfl, ?_⟩⟩
    rw [h2.2, show T - i = (T - (i + 1)) + 1 by omega, spr_y hs]
    refine Prod.ext rfl ?_
    show c + (_ + 1) = c + 1 + _
    omega
  · exact absurd h2.1 hm
theorem sprI_n {n q ed t x T i mo : Nat} {L L1 : Nat → Nat} {z9 cz : Int} (h : sprI n q ed t x T L L1 i mo z9 cz) (hm : mo ≠ 0) (hs : ∀ j, ¬ stpP n q ed L1 t x j) : sprI n q ed t x T L L1 (i + 1) 0 z9 cz := by
  obtain ⟨c, h1, h2 | h2⟩ := h
  · refine ⟨c, h1, Or.inr ⟨rfl, ?_⟩⟩
    rw [h2.2, spr_n hs]
    rfl
  · exact absurd h2.1 hm
theorem sprI_e {n q ed t x T i mo : Nat} {L L1 : Nat → Nat} {z9 cz : Int} (h : sprI n q ed t x T L L1 i mo z9 cz) (he : T ≤ i ∨ mo = 0) : (spr n q ed t x T L).1 = L1 ∧ cz = z9 + ((spr n q ed t x T L).2 : Int) := by
  obtain ⟨c, h1, h2 | h2⟩ := h
  · rcases he with he | he
    · rw [h2.2, show T - i = 0 by omega]
      exact ⟨rfl, by show cz = z9 + ((c + 0 : Nat) : Int); omega⟩
    · omega
  · rw [h2.2]
    exact ⟨rfl, h1⟩
theorem FrC.tr {M M1 M2 : Mem} (h1 : FrC M1 M) (h2 : FrC M2 M1) : FrC M2 M := ⟨fun b x y => (h2.1 b x y).trans (h1.1 b x y), fun k x => (h2.2.1 k x).trans (h1.2.1 k x), h2.2.2.trans h1.2.2⟩
theorem wf_or {n q hv ed t j : Nat} {K L : Nat → Nat} (h : wf n q hv ed K L) (ht : t < n) (hj : j < 12) : wf n q hv ed K (updF L t (L t ||| 2 ^ j)) := wf_upd h (or_lt12 (h.2.2.2.2 t ht).2 (Nat.lt_of_le_of_lt (Nat.pow_le_pow_right (n := 2) (j := 11) (by omega) (by omega)) (by omega)))
theorem dX12_spreads_6 : decode cX12_spreads 6 = .ok (.iload 5, 2) := dqU kk_21 (by decide +kernel)
theorem dX12_spreads_8 : decode cX12_spreads 8 = .ok (.iload_n 3, 1) := dq0 kk_29 (by decide +kernel)
theorem dX12_spreads_9 : decode cX12_spreads 9 = .ok (.if_icmp .ge 22, 3) := dqT kk_162 (by decide +kernel)
theorem dX12_spreads_12 : decode cX12_spreads 12 = .ok (.iload 4, 2) := dqU kk_21 (by decide +kernel)
theorem dX12_spreads_14 : decode cX12_spreads 14 = .ok (.ifCond .eq 17, 3) := dqT kk_153 (by decide +kernel)
theorem dX12_spreads_17 : decode cX12_spreads 17 = .ok (.aload_n 0, 1) := dq0 kk_42 (by decide +kernel)
theorem dX12_spreads_18 : decode cX12_spreads 18 = .ok (.iload_n 1, 1) := dq0 kk_27 (by decide +kernel)
theorem dX12_spreads_19 : decode cX12_spreads 19 = .ok (.iload_n 2, 1) := dq0 kk_28 (by decide +kernel)
theorem dX12_spreads_20 : decode cX12_spreads 20 = .ok (.invokevirtual 98, 3) := dqV kk_182 (by decide +kernel)
theorem tk_X12_steps : Cond.code yX12_steps cX12_steps 5 (some .boolean) ∈ TB := tbm (tc6 (List.mem_of_getElem? (i := 113) rfl)) rfl
theorem gc_X12_steps : GoodIn TB (cw yX12_steps cX12_steps 5 (some .boolean)) := goodIn_c2 tk_X12_steps
theorem tb_89 : Cond.methodLink "ToneLinesModel" 98 yX12_steps ∈ TB := tbm (tc6 (List.mem_of_getElem? (i := 110) rfl)) rfl
theorem tb_90 : Cond.instanceMethod yX12_steps ∈ TB := tbm (tc6 (List.mem_of_getElem? (i := 112) rfl)) rfl
theorem tb_91 : Cond.selects "ToneLinesModel" yX12_steps yX12_steps ∈ TB := tbp (List.mem_of_getElem? (i := 65) rfl) rfl
theorem gv_X12_98 : GoodIn TB (wsV RX12 98 RX12 yX12_steps (cw yX12_steps cX12_steps 5 (some .boolean))) := goodIn_4 tb_89 tb_90 tb_91 tb_38 gc_X12_steps
theorem hv_X12_steps : yX12_steps.cls = RX12 ∧ yX12_steps.cls ≠ "java/lang/invoke/MethodHandle" ∧ yX12_steps.cls ≠ "java/lang/invoke/VarHandle" ∧ (parseMethodDescriptor yX12_steps.desc).map (fun d => d.parameters.length) = some 2 := by decide +kernel
theorem dX12_spreads_23 : decode cX12_spreads 23 = .ok (.istore 4, 2) := dqU kk_54 (by decide +kernel)
theorem dX12_spreads_25 : decode cX12_spreads 25 = .ok (.iinc 5 1, 3) := dqI kk_132 (by decide +kernel)
theorem dX12_spreads_28 : decode cX12_spreads 28 = .ok (.goto (-22), 3) := dqT kk_167 (by decide +kernel)
set_option maxRecDepth 4000 in
theorem lp_X12_spreads_0 {p : Program} {l : Launch} {e : Env} {s : State} {m : MethodId} {args : Array Value} {below : List Frame} {meth : Method} {c : Code} {D : va_G} {B : Nat} {cy : Nat → ClassId} {H0 : Heap} {Q : State → Prop} {M : Mem} {R : Room} {n q hv ed : Nat} {K L : Nat → Nat} {z9 : Int}  {t x T : Nat} (F : CallFix p m c cX12_spreads 6 s args TB RX12) (hR1 : 4 ≤ R.frames) (hR2 : 90 ≤ R.locals) (hW : isR M 148 n q hv ed K L) (hwf : wf n q hv ed K L) (hc : M.1 146 3 = zI z9) (ht : t < n) (hxv : x = 0) (hT : T ≤ 9) (kk : ∀ (i : Nat) (N : Mem) (L1 : Nat → Nat) (cz : Int) (mo : Nat) (H : Heap) (locs : List Loc) (ls : Array Slot), (isR N 148 n q hv ed K L1) → (wf n q hv ed K L1) → (N.1 146 3 = zI cz) → (FrC N M) → ((spr n q ed t x T L).1 = L1 ∧ cz = z9 + ((spr n q ed t x T L).2 : Int)) → Wd D B cy s H0 N H locs → lv_has ls 6 [(5, .int (zI (i : Int))), (4, .int (zI (mo : Int))), (0, .ref (B + 146)), (1, .int (zI (t : Int))), (2, .int (zI (x : Int))), (3, .int (zI (T : Int)))] → W p l e R s m args below meth c H locs 0 0 Q (F0 m 31 ls [])) : ∀ (f : Nat) (i : Nat) (N : Mem) (L1 : Nat → Nat) (cz : Int) (mo : Nat), (i ≤ T) → (isR N 148 n q hv ed K L1) → (wf n q hv ed K L1) → (N.1 146 3 = zI cz) → (FrC N M) → (sprI n q ed t x T L L1 i mo z9 cz) → (mo ≤ 1) → (T ≤ i + f) → ∀ (H : Heap) (locs : List Loc) (ls : Array Slot), Wd D B cy s H0 N H locs → lv_has ls 6 [(5, .int (zI (i : Int))), (4, .int (zI (mo : Int))), (0, .ref (B + 146)), (1, .int (zI (t : Int))), (2, .int (zI (x : Int))), (3, .int (zI (T : Int)))] → W p l e R s m args below meth c H locs 0 0 Q (F0 m 6 ls []) := by
  have hx := F.1
  have hb := F.2.1
  have hwf0 := hwf
  obtain ⟨hn, hq, hhv, hed, hKL⟩ := hwf0
  intro f
  induction f with
  | zero =>
    intro i N L1 cz mo i0 i1 i2 i3 i4 i5 i6 hf H locs ls w hl
    refine lv_iload hx hb dX12_spreads_6 (lv_at hl 0 rfl) ?_
    refine lv_iload_n hx hb dX12_spreads_8 rfl (lv_at hl 5 rfl) ?_
    refine z_icmp_ge (tgt := 31) hx hb (by omega) (by omega) dX12_spreads_9 (by decide) (fun c1 => ?_) (fun c1 => False.elim (by omega))
    exact kk i N L1 cz mo _ _ ls i1 i2 i3 i4 (sprI_e i5 (by omega)) w (lv_sub hl [0, 1, 2, 3, 4, 5] rfl)
  | succ f ih =>
    intro i N L1 cz mo i0 i1 i2 i3 i4 i5 i6 hf H locs ls w hl
    refine lv_iload hx hb dX12_spreads_6 (lv_at hl 0 rfl) ?_
    refine lv_iload_n hx hb dX12_spreads_8 rfl (lv_at hl 5 rfl) ?_
    refine z_icmp_ge (tgt := 31) hx hb (by omega) (by omega) dX12_spreads_9 (by decide) (fun c1 => ?_) (fun c1 => ?_)
    · exact kk i N L1 cz mo _ _ ls i1 i2 i3 i4 (sprI_e i5 (by omega)) w (lv_sub hl [0, 1, 2, 3, 4, 5] rfl)
    · refine lv_iload hx hb dX12_spreads_12 (lv_at hl 1 rfl) ?_
      refine z_if_eq (tgt := 31) hx hb (by omega) dX12_spreads_14 (by decide) (fun c2 => ?_) (fun c2 => ?_)
      · exact kk i N L1 cz mo _ _ ls i1 i2 i3 i4 (sprI_e i5 (by omega)) w (lv_sub hl [0, 1, 2, 3, 4, 5] rfl)
      · refine lv_aload_n hx hb dX12_spreads_17 rfl (lv_at hl 2 rfl) ?_
        refine lv_iload_n hx hb dX12_spreads_18 rfl (lv_at hl 3 rfl) ?_
        refine lv_iload_n hx hb dX12_spreads_19 rfl (lv_at hl 4 rfl) ?_
        refine k_Vi F w (As := [.int (zI (t : Int)), .int (zI (x : Int))]) (rest := []) (a := 146) (kd_lt (a := 146) (show kd 146 = (12, 0, 0) from rfl) (by decide)) (sh_12 rfl _ _) rfl (s_X12_steps_0 i1 i2 i3 (t := t) (x := x) ht hxv) gv_X12_98 hv_X12_steps ⟨(by omega), (by omega)⟩ hl.1 rfl (Nat.le_of_ble_eq_true rfl) ⟨Nat.zero_le _, Nat.zero_le _⟩ dX12_spreads_20 (fun r M1 H locs hp w => ?_)
        rcases hp with ⟨j9, hs9, rfl, hW9, hc9, hF9⟩ | ⟨hs9, rfl, hMe⟩
        · refine lv_istore (lv' := [(4, .int (zI 1)), (5, .int (zI (i : Int))), (0, .ref (B + 146)), (1, .int (zI (t : Int))), (2, .int (zI (x : Int))), (3, .int (zI (T : Int)))]) hx hb dX12_spreads_23 hl (by decide) rfl (fun ls hl => ?_)
          refine z_iinc (v := (((i + 1) : Nat) : Int)) (lv' := [(5, .int (zI (((i + 1) : Nat) : Int))), (4, .int (zI 1)), (0, .ref (B + 146)), (1, .int (zI (t : Int))), (2, .int (zI (x : Int))), (3, .int (zI (T : Int)))]) hx hb dX12_spreads_25 hl (k := 1) rfl (by omega) (by decide) rfl (fun ls hl => ?_)
          refine lv_goto (tgt := 6) hx hb dX12_spreads_28 (by decide) ?_
          exact ih (i + 1) M1 (updF L1 t (L1 t ||| 2 ^ j9)) (cz + 1) 1 (by omega) hW9 (wf_or i2 ht (by have := hs9.2.1; omega)) hc9 (FrC.tr i4 hF9) (sprI_y i5 (by omega) (by omega) hs9) (by omega) (by omega) _ _ ls w (lv_sub hl [0, 1, 2, 3, 4, 5] rfl)
        · rw [hMe] at w
          refine lv_istore (lv' := [(4, .int (zI 0)), (5, .int (zI (i : Int))), (0, .ref (B + 146)), (1, .int (zI (t : Int))), (2, .int (zI (x : Int))), (3, .int (zI (T : Int)))]) hx hb dX12_spreads_23 hl (by decide) rfl (fun ls hl => ?_)
          refine z_iinc (v := (((i + 1) : Nat) : Int)) (lv' := [(5, .int (zI (((i + 1) : Nat) : Int))), (4, .int (zI 0)), (0, .ref (B + 146)), (1, .int (zI (t : Int))), (2, .int (zI (x : Int))), (3, .int (zI (T : Int)))]) hx hb dX12_spreads_25 hl (k := 1) rfl (by omega) (by decide) rfl (fun ls hl => ?_)
          refine lv_goto (tgt := 6) hx hb dX12_spreads_28 (by decide) ?_
          exact ih (i + 1) N L1 cz 0 (by omega) i1 i2 i3 i4 (sprI_n i5 (by omega) hs9) (by omega) (by omega) _ _ ls w (lv_sub hl [0, 1, 2, 3, 4, 5] rfl)
theorem dX12_spreads_0 : decode cX12_spreads 0 = .ok (.iconst 1, 1) := dq0 kk_4 (by decide +kernel)
theorem dX12_spreads_1 : decode cX12_spreads 1 = .ok (.istore 4, 2) := dqU kk_54 (by decide +kernel)
theorem dX12_spreads_3 : decode cX12_spreads 3 = .ok (.iconst 0, 1) := dq0 kk_3 (by decide +kernel)
theorem dX12_spreads_4 : decode cX12_spreads 4 = .ok (.istore 5, 2) := dqU kk_54 (by decide +kernel)
theorem dX12_spreads_31 : decode cX12_spreads 31 = .ok (.return_, 1) := dq0 kk_177 (by decide +kernel)
set_option maxRecDepth 4000 in
theorem s_X12_spreads_0 {l : Launch} {D : va_G} {B : Nat} {cy : Nat → ClassId} {M : Mem} {n q hv ed : Nat} {K L : Nat → Nat} {z9 : Int} (hW : isR M 148 n q hv ed K L) (hwf : wf n q hv ed K L) (hc : M.1 146 3 = zI z9) {t x T : Nat} (ht : t < n) (hxv : x = 0) (hT : T ≤ 9) : Cv l D B cy yX12_spreads cX12_spreads 6 4 90 [.ref (B + 146), .int (zI (t : Int)), .int (zI (x : Int)), .int (zI (T : Int))] M (fun M1 => isR M1 148 n q hv ed K (spr n q ed t x T L).1 ∧ wf n q hv ed K (spr n q ed t x T L).1 ∧ M1.1 146 3 = zI (z9 + ((spr n q ed t x T L).2 : Int)) ∧ FrC M1 M) := by
  refine s_any (by decide) (Nat.le_of_ble_eq_true rfl) ?_
  intro p e s m below meth c ls F hr hlocks w hl
  have F : CallFix p m c cX12_spreads 6 s _ TB RX12 := F
  have hx := F.1
  have hb := F.2.1
  have hl : lv_has ls 6 [(0, .ref (B + 146)), (1, .int (zI (t : Int))), (2, .int (zI (x : Int))), (3, .int (zI (T : Int)))] := hl
  have hwf0 := hwf
  obtain ⟨hn, hq, hhv, hed, hKL⟩ := hwf0
  refine lv_iconst (v := zI 1) hx hb dX12_spreads_0 rfl ?_
  refine lv_istore (lv' := [(4, .int (zI 1)), (0, .ref (B + 146)), (1, .int (zI (t : Int))), (2, .int (zI (x : Int))), (3, .int (zI (T : Int)))]) hx hb dX12_spreads_1 hl (by decide) rfl (fun ls hl => ?_)
  refine lv_iconst (v := zI 0) hx hb dX12_spreads_3 rfl ?_
  refine lv_istore (lv' := [(5, .int (zI 0)), (4, .int (zI 1)), (0, .ref (B + 146)), (1, .int (zI (t : Int))), (2, .int (zI (x : Int))), (3, .int (zI (T : Int)))]) hx hb dX12_spreads_4 hl (by decide) rfl (fun ls hl => ?_)
  refine lp_X12_spreads_0  F (Nat.le_of_ble_eq_true rfl) (Nat.le_of_ble_eq_true rfl) hW hwf hc ht hxv hT (fun i N L1 cz mo H locs ls x0 x1 x2 x3 x4 w hl => ?_) T 0 M L z9 1 (by omega) hW hwf hc FrC.rf sprI_0 (by omega) (by omega) _ _ ls w (lv_sub hl [0, 1, 2, 3, 4, 5] rfl)
  exact e_v F w hr hlocks ⟨by rw [x4.1]; exact x0, by rw [x4.1]; exact x1, by rw [← x4.2]; exact x2, x3⟩ dX12_spreads_31
set_option maxRecDepth 4000 in
theorem lp_X12_spreads_1 {p : Program} {l : Launch} {e : Env} {s : State} {m : MethodId} {args : Array Value} {below : List Frame} {meth : Method} {c : Code} {D : va_G} {B : Nat} {cy : Nat → ClassId} {H0 : Heap} {Q : State → Prop} {M : Mem} {R : Room} {n q hv ed : Nat} {K L : Nat → Nat} {z9 : Int}  {t x T : Nat} (F : CallFix p m c cX12_spreads 6 s args TB RX12) (hR1 : 4 ≤ R.frames) (hR2 : 90 ≤ R.locals) (hW : isR M 148 n q hv ed K L) (hwf : wf n q hv ed K L) (hc : M.1 146 3 = zI z9) (ht : t < n) (hxv : x = 1) (hT : T ≤ 9) (kk : ∀ (i : Nat) (N : Mem) (L1 : Nat → Nat) (cz : Int) (mo : Nat) (H : Heap) (locs : List Loc) (ls : Array Slot), (isR N 148 n q hv ed K L1) → (wf n q hv ed K L1) → (N.1 146 3 = zI cz) → (FrC N M) → ((spr n q ed t x T L).1 = L1 ∧ cz = z9 + ((spr n q ed t x T L).2 : Int)) → Wd D B cy s H0 N H locs → lv_has ls 6 [(5, .int (zI (i : Int))), (4, .int (zI (mo : Int))), (0, .ref (B + 146)), (1, .int (zI (t : Int))), (2, .int (zI (x : Int))), (3, .int (zI (T : Int)))] → W p l e R s m args below meth c H locs 0 0 Q (F0 m 31 ls [])) : ∀ (f : Nat) (i : Nat) (N : Mem) (L1 : Nat → Nat) (cz : Int) (mo : Nat), (i ≤ T) → (isR N 148 n q hv ed K L1) → (wf n q hv ed K L1) → (N.1 146 3 = zI cz) → (FrC N M) → (sprI n q ed t x T L L1 i mo z9 cz) → (mo ≤ 1) → (T ≤ i + f) → ∀ (H : Heap) (locs : List Loc) (ls : Array Slot), Wd D B cy s H0 N H locs → lv_has ls 6 [(5, .int (zI (i : Int))), (4, .int (zI (mo : Int))), (0, .ref (B + 146)), (1, .int (zI (t : Int))), (2, .int (zI (x : Int))), (3, .int (zI (T : Int)))] → W p l e R s m args below meth c H locs 0 0 Q (F0 m 6 ls []) := by
  have hx := F.1
  have hb := F.2.1
  have hwf0 := hwf
  obtain ⟨hn, hq, hhv, hed, hKL⟩ := hwf0
  intro f
  induction f with
  | zero =>
    intro i N L1 cz mo i0 i1 i2 i3 i4 i5 i6 hf H locs ls w hl
    refine lv_iload hx hb dX12_spreads_6 (lv_at hl 0 rfl) ?_
    refine lv_iload_n hx hb dX12_spreads_8 rfl (lv_at hl 5 rfl) ?_
    refine z_icmp_ge (tgt := 31) hx hb (by omega) (by omega) dX12_spreads_9 (by decide) (fun c1 => ?_) (fun c1 => False.elim (by omega))
    exact kk i N L1 cz mo _ _ ls i1 i2 i3 i4 (sprI_e i5 (by omega)) w (lv_sub hl [0, 1, 2, 3, 4, 5] rfl)
  | succ f ih =>
    intro i N L1 cz mo i0 i1 i2 i3 i4 i5 i6 hf H locs ls w hl
    refine lv_iload hx hb dX12_spreads_6 (lv_at hl 0 rfl) ?_
    refine lv_iload_n hx hb dX12_spreads_8 rfl (lv_at hl 5 rfl) ?_
    refine z_icmp_ge (tgt := 31) hx hb (by omega) (by omega) dX12_spreads_9 (by decide) (fun c1 => ?_) (fun c1 => ?_)
    · exact kk i N L1 cz mo _ _ ls i1 i2 i3 i4 (sprI_e i5 (by omega)) w (lv_sub hl [0, 1, 2, 3, 4, 5] rfl)
    · refine lv_iload hx hb dX12_spreads_12 (lv_at hl 1 rfl) ?_
      refine z_if_eq (tgt := 31) hx hb (by omega) dX12_spreads_14 (by decide) (fun c2 => ?_) (fun c2 => ?_)
      · exact kk i N L1 cz mo _ _ ls i1 i2 i3 i4 (sprI_e i5 (by omega)) w (lv_sub hl [0, 1, 2, 3, 4, 5] rfl)
      · refine lv_aload_n hx hb dX12_spreads_17 rfl (lv_at hl 2 rfl) ?_
        refine lv_iload_n hx hb dX12_spreads_18 rfl (lv_at hl 3 rfl) ?_
        refine lv_iload_n hx hb dX12_spreads_19 rfl (lv_at hl 4 rfl) ?_
        refine k_Vi F w (As := [.int (zI (t : Int)), .int (zI (x : Int))]) (rest := []) (a := 146) (kd_lt (a := 146) (show kd 146 = (12, 0, 0) from rfl) (by decide)) (sh_12 rfl _ _) rfl (s_X12_steps_1 i1 i2 i3 (t := t) (x := x) ht hxv) gv_X12_98 hv_X12_steps ⟨(by omega), (by omega)⟩ hl.1 rfl (Nat.le_of_ble_eq_true rfl) ⟨Nat.zero_le _, Nat.zero_le _⟩ dX12_spreads_20 (fun r M1 H locs hp w => ?_)
        rcases hp with ⟨j9, hs9, rfl, hW9, hc9, hF9⟩ | ⟨hs9, rfl, hMe⟩
        · refine lv_istore (lv' := [(4, .int (zI 1)), (5, .int (zI (i : Int))), (0, .ref (B + 146)), (1, .int (zI (t : Int))), (2, .int (zI (x : Int))), (3, .int (zI (T : Int)))]) hx hb dX12_spreads_23 hl (by decide) rfl (fun ls hl => ?_)
          refine z_iinc (v := (((i + 1) : Nat) : Int)) (lv' := [(5, .int (zI (((i + 1) : Nat) : Int))), (4, .int (zI 1)), (0, .ref (B + 146)), (1, .int (zI (t : Int))), (2, .int (zI (x : Int))), (3, .int (zI (T : Int)))]) hx hb dX12_spreads_25 hl (k := 1) rfl (by omega) (by decide) rfl (fun ls hl => ?_)
          refine lv_goto (tgt := 6) hx hb dX12_spreads_28 (by decide) ?_
          exact ih (i + 1) M1 (updF L1 t (L1 t ||| 2 ^ j9)) (cz + 1) 1 (by omega) hW9 (wf_or i2 ht (by have := hs9.2.1; omega)) hc9 (FrC.tr i4 hF9) (sprI_y i5 (by omega) (by omega) hs9) (by omega) (by omega) _ _ ls w (lv_sub hl [0, 1, 2, 3, 4, 5] rfl)
        · rw [hMe] at w
          refine lv_istore (lv' := [(4, .int (zI 0)), (5, .int (zI (i : Int))), (0, .ref (B + 146)), (1, .int (zI (t : Int))), (2, .int (zI (x : Int))), (3, .int (zI (T : Int)))]) hx hb dX12_spreads_23 hl (by decide) rfl (fun ls hl => ?_)
          refine z_iinc (v := (((i + 1) : Nat) : Int)) (lv' := [(5, .int (zI (((i + 1) : Nat) : Int))), (4, .int (zI 0)), (0, .ref (B + 146)), (1, .int (zI (t : Int))), (2, .int (zI (x : Int))), (3, .int (zI (T : Int)))]) hx hb dX12_spreads_25 hl (k := 1) rfl (by omega) (by decide) rfl (fun ls hl => ?_)
          refine lv_goto (tgt := 6) hx hb dX12_spreads_28 (by decide) ?_
          exact ih (i + 1) N L1 cz 0 (by omega) i1 i2 i3 i4 (sprI_n i5 (by omega) hs9) (by omega) (by omega) _ _ ls w (lv_sub hl [0, 1, 2, 3, 4, 5] rfl)
set_option maxRecDepth 4000 in
theorem s_X12_spreads_1 {l : Launch} {D : va_G} {B : Nat} {cy : Nat → ClassId} {M : Mem} {n q hv ed : Nat} {K L : Nat → Nat} {z9 : Int} (hW : isR M 148 n q hv ed K L) (hwf : wf n q hv ed K L) (hc : M.1 146 3 = zI z9) {t x T : Nat} (ht : t < n) (hxv : x = 1) (hT : T ≤ 9) : Cv l D B cy yX12_spreads cX12_spreads 6 4 90 [.ref (B + 146), .int (zI (t : Int)), .int (zI (x : Int)), .int (zI (T : Int))] M (fun M1 => isR M1 148 n q hv ed K (spr n q ed t x T L).1 ∧ wf n q hv ed K (spr n q ed t x T L).1 ∧ M1.1 146 3 = zI (z9 + ((spr n q ed t x T L).2 : Int)) ∧ FrC M1 M) := by
  refine s_any (by decide) (Nat.le_of_ble_eq_true rfl) ?_
  intro p e s m below meth c ls F hr hlocks w hl
  have F : CallFix p m c cX12_spreads 6 s _ TB RX12 := F
  have hx := F.1
  have hb := F.2.1
  have hl : lv_has ls 6 [(0, .ref (B + 146)), (1, .int (zI (t : Int))), (2, .int (zI (x : Int))), (3, .int (zI (T : Int)))] := hl
  have hwf0 := hwf
  obtain ⟨hn, hq, hhv, hed, hKL⟩ := hwf0
  refine lv_iconst (v := zI 1) hx hb dX12_spreads_0 rfl ?_
  refine lv_istore (lv' := [(4, .int (zI 1)), (0, .ref (B + 146)), (1, .int (zI (t : Int))), (2, .int (zI (x : Int))), (3, .int (zI (T : Int)))]) hx hb dX12_spreads_1 hl (by decide) rfl (fun ls hl => ?_)
  refine lv_iconst (v := zI 0) hx hb dX12_spreads_3 rfl ?_
  refine lv_istore (lv' := [(5, .int (zI 0)), (4, .int (zI 1)), (0, .ref (B + 146)), (1, .int (zI (t : Int))), (2, .int (zI (x : Int))), (3, .int (zI (T : Int)))]) hx hb dX12_spreads_4 hl (by decide) rfl (fun ls hl => ?_)
  refine lp_X12_spreads_1  F (Nat.le_of_ble_eq_true rfl) (Nat.le_of_ble_eq_true rfl) hW hwf hc ht hxv hT (fun i N L1 cz mo H locs ls x0 x1 x2 x3 x4 w hl => ?_) T 0 M L z9 1 (by omega) hW hwf hc FrC.rf sprI_0 (by omega) (by omega) _ _ ls w (lv_sub hl [0, 1, 2, 3, 4, 5] rfl)
  exact e_v F w hr hlocks ⟨by rw [x4.1]; exact x0, by rw [x4.1]; exact x1, by rw [← x4.2]; exact x2, x3⟩ dX12_spreads_31
