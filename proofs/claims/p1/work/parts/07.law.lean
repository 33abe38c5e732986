theorem tb_591 : Cond.classLink "ToneLinesLaw" 7 "ToneLines" ∈ TB := tbm (tc1 (List.mem_of_getElem? (i := 23) rfl)) rfl
theorem tb_592 : Cond.instantiable "ToneLines" 10 ∈ TB := tbm (tc1 (List.mem_of_getElem? (i := 24) rfl)) rfl
theorem dL_law_0 : decode cL_law 0 = .ok (.new 7, 3) := by decide +kernel
theorem dL_law_3 : decode cL_law 3 = .ok (.dup, 1) := by decide +kernel
theorem tk_X11_init : Cond.code yX11_init cX11_init 1 none ∈ TB := tbm (tc1 (List.mem_of_getElem? (i := 27) rfl)) rfl
theorem gc_X11_init : GoodIn TB (cw yX11_init cX11_init 1 none) := goodIn_c2 tk_X11_init
theorem tb_593 : Cond.methodLink "ToneLinesLaw" 9 yX11_init ∈ TB := tbm (tc1 (List.mem_of_getElem? (i := 25) rfl)) rfl
theorem tb_594 : Cond.instanceMethod yX11_init ∈ TB := tbm (tc1 (List.mem_of_getElem? (i := 26) rfl)) rfl
theorem hs_X11_init : yX11_init.cls ≠ "java/lang/invoke/MethodHandle" ∧ yX11_init.cls ≠ "java/lang/invoke/VarHandle" ∧ (parseMethodDescriptor yX11_init.desc).map (fun d => d.parameters.length) = some 0 := by decide +kernel
theorem dL_law_4 : decode cL_law 4 = .ok (.invokespecial 9, 3) := by decide +kernel
theorem dL_law_7 : decode cL_law 7 = .ok (.astore_n 1, 1) := by decide +kernel
theorem tb_595 : Cond.classLink "ToneLinesLaw" 10 "ToneLinesModel" ∈ TB := tbm (tc5 (List.mem_of_getElem? (i := 51) rfl)) rfl
theorem tb_596 : Cond.instantiable "ToneLinesModel" 27 ∈ TB := tbm (tc5 (List.mem_of_getElem? (i := 52) rfl)) rfl
theorem dL_law_8 : decode cL_law 8 = .ok (.new 10, 3) := by decide +kernel
theorem dL_law_11 : decode cL_law 11 = .ok (.dup, 1) := by decide +kernel
theorem tk_X12_init : Cond.code yX12_init cX12_init 1 none ∈ TB := tbm (tc5 (List.mem_of_getElem? (i := 55) rfl)) rfl
theorem gc_X12_init : GoodIn TB (cw yX12_init cX12_init 1 none) := goodIn_c2 tk_X12_init
theorem tb_597 : Cond.methodLink "ToneLinesLaw" 12 yX12_init ∈ TB := tbm (tc5 (List.mem_of_getElem? (i := 53) rfl)) rfl
theorem tb_598 : Cond.instanceMethod yX12_init ∈ TB := tbm (tc5 (List.mem_of_getElem? (i := 54) rfl)) rfl
theorem hs_X12_init : yX12_init.cls ≠ "java/lang/invoke/MethodHandle" ∧ yX12_init.cls ≠ "java/lang/invoke/VarHandle" ∧ (parseMethodDescriptor yX12_init.desc).map (fun d => d.parameters.length) = some 0 := by decide +kernel
theorem dL_law_12 : decode cL_law 12 = .ok (.invokespecial 12, 3) := by decide +kernel
theorem dL_law_15 : decode cL_law 15 = .ok (.astore_n 2, 1) := by decide +kernel
theorem dL_law_16 : decode cL_law 16 = .ok (.iconst 0, 1) := by decide +kernel
theorem dL_law_17 : decode cL_law 17 = .ok (.istore_n 3, 1) := by decide +kernel
theorem dL_law_18 : decode cL_law 18 = .ok (.iload_n 3, 1) := by decide +kernel
theorem dL_law_19 : decode cL_law 19 = .ok (.aload_n 0, 1) := by decide +kernel
theorem dL_law_20 : decode cL_law 20 = .ok (.arraylength, 1) := by decide +kernel
theorem dL_law_21 : decode cL_law 21 = .ok (.bipush 6, 2) := by decide +kernel
theorem dL_law_23 : decode cL_law 23 = .ok (.isub, 1) := by decide +kernel
theorem dL_law_24 : decode cL_law 24 = .ok (.if_icmp .gt 1047, 3) := by decide +kernel
theorem dL_law_1071 : decode cL_law 1071 = .ok (.iconst 1, 1) := by decide +kernel
theorem dL_law_1072 : decode cL_law 1072 = .ok (.ireturn, 1) := by decide +kernel
theorem dL_law_1065 : decode cL_law 1065 = .ok (.iinc 3 6, 3) := by decide +kernel
theorem dL_law_1068 : decode cL_law 1068 = .ok (.goto (-1050), 3) := by decide +kernel
theorem dL_law_27 : decode cL_law 27 = .ok (.aload_n 0, 1) := by decide +kernel
theorem dL_law_28 : decode cL_law 28 = .ok (.iload_n 3, 1) := by decide +kernel
theorem dL_law_29 : decode cL_law 29 = .ok (.iaload, 1) := by decide +kernel
theorem dL_law_30 : decode cL_law 30 = .ok (.bipush 31, 2) := by decide +kernel
theorem dL_law_32 : decode cL_law 32 = .ok (.iand, 1) := by decide +kernel
theorem dL_law_33 : decode cL_law 33 = .ok (.tableswitch 1032 0 28 #[131, 194, 217, 230, 243, 276, 309, 342, 365, 398, 463, 476, 551, 574, 597, 610, 643, 686, 729, 762, 805, 838, 871, 904, 927, 940, 963, 986, 1009], 131) := by decide +kernel
-- ===== end of PART A; then your names; then what follows =====
/-! THE CLAIM OUT OF ONE WALK OF THE LAW'S BODY. Your part is whole_start (and what it stands on); all else here is the same for every law, but numbers. -/
def R_law : String := "ToneLinesLaw"
def lw_P (b : Addr) (xs : List Int32) (args : Array Value) (s : State) : Prop := args = #[.ref b] ∧ s.IntsAt b xs ∧ xs.length ≤ 6 ∧ (Jvm.Cond.and given_1 narrow_1).before args s = true
def lw_Q (_ : Array Value) (s : State) (o : Outcome) (t : State) : Prop := o = .returned (some (.int 1)) ∧ Framed s o t [] 600000 7302250
def lw_Z (below : List Frame) (a : Array Value) (s : State) : State → Prop := fun t => ∃ o, t.status = .running ∧ Ended t below o ∧ lw_Q a s o t
/-- the law's own end, with 1 on the stack, nothing written that was there before, its room as the claim has it -/
theorem lw_ret {p : Program} {l : Launch} {e : Env} {s : State} {m : MethodId} {below : List Frame} {meth : Method} {c : Code} {b : Nat} (hx : p.tables.exec = Jvm.exec) (hb : c.code = code) (hr : meth.sig.returnType = ret) (hlocks : meth.locks = false) {pc : Nat} {H : Heap} {ls : Array Slot} (hdg : decode code pc = .ok (.ireturn, 1)) : W p l e room_1 s m #[Value.ref b] below meth c H [] 600000 7302250 (lw_Z below #[Value.ref b] s) (F0 m pc ls [.int 1]) := by
  intro T hT X
  obtain ⟨fs, hret, hrun, hended, hW, hframe⟩ := X.leave (v := some (.int 1)) (hlocks := hlocks) (fun h => by rw [hr] at h; cases h)
  have hmeth' : T.vm.method? m = some meth := X.method'
  refine ⟨T.setFrames fs, ?_, .returned (some (.int 1)), hrun, hended, rfl, ⟨_, rfl⟩, hW, hframe⟩
  jvm_step X.here [X.here.top, hx, hb, hdg, hmeth', hr, ret, narrow_b1]
  (try refine ⟨rfl, ?_⟩); (try refine ⟨rfl, ?_⟩)
  first | (intro acts; rw [hret _ acts rfl rfl rfl]) | rw [hret _ _ rfl rfl rfl]
  exact Steps.refl _
/-- what holds at the law's entry: the machine, the code, the tables' words (any of lw_tbl by 'hts w (by decide +kernel)'), the script of L ints xs at the cell b, what the Statement gives of the start (any of its parts by flat_of_before) -/
def lw_At (p : Program) (s : State) (m : MethodId) (meth : Method) (c : Code) (b L : Nat) (xs : Nat → Int32) : Prop :=
  p.tables.exec = Jvm.exec ∧ c.code = code ∧ meth.sig.returnType = ret ∧ c.maxLocals = 4 ∧ s.vm.findClass R_law = some m.cls ∧ (∀ w ∈ lw_tbl, w.before #[Value.ref b] s = true) ∧ va_X b L xs s s.heap ∧ b < s.heap.size ∧ meth.locks = false ∧ (Jvm.Cond.and given_1 narrow_1).before #[Value.ref b] s = true
theorem and31 (x : Int32) : ∃ j : Nat, j < 32 ∧ x &&& 31 = nI j := by
  have e : x &&& 31 = nI (x &&& 31).toBitVec.toNat := by
    apply Int32.toBitVec_inj.1
    show (x &&& 31).toBitVec = BitVec.ofNat 32 (x &&& 31).toBitVec.toNat
    simp
  refine ⟨(x &&& 31).toBitVec.toNat, ?_, e⟩
  show (x.toBitVec &&& (31 : Int32).toBitVec).toNat < 32
  rw [BitVec.toNat_and]
  exact Nat.lt_of_le_of_lt Nat.and_le_right (by decide)
theorem law_exit {p : Program} {l : Launch} {e : Env} {s : State} {m : MethodId} {below : List Frame} {meth : Method} {c : Code} {D : va_G} {B b L : Nat} {cy : Nat → ClassId} {H : Heap} {locs : List Loc} {ls : Array Slot} {xs : Nat → Int32} {M : Mem} (F : CallFix p m c code 4 s #[Value.ref b] TB RL) (hr : meth.sig.returnType = ret) (hlocks : meth.locks = false) (hX : va_X b L xs s s.heap) (hbl : b < s.heap.size) (hbA : ¬ B ≤ b) (hB : B = s.heap.size) (w : Wd D B cy s s.heap M H locs) {x3 : Int32} (hl : lv_has ls 4 [(3, .int x3), (2, .ref (B + 146)), (1, .ref (B + 0)), (0, .ref b)]) (hx3 : Int32.ofNat L - 6 < x3) : W p l e room_1 s m #[Value.ref b] below meth c H locs 159 13107 (lw_Z below #[Value.ref b] s) (F0 m 18 ls []) := by
  have hx := F.1
  have hb := F.2.1
  refine lv_iload_n hx hb dL_law_18 rfl (lv_at hl 0 rfl) ?_
  refine lv_aload_n hx hb dL_law_19 rfl (lv_at hl 3 rfl) ?_
  refine va_slen hx hb hX hbl hbA w.2.2.1 dL_law_20 ?_
  refine lv_bipush (v := 6) hx hb dL_law_21 (by decide) ?_
  refine lv_isub hx hb dL_law_23 ?_
  refine lv_icmp_gt (tgt := 1071) hx hb dL_law_24 (by decide) (fun _ => ?_) (fun c1 => absurd hx3 c1)
  refine lv_iconst (v := 1) hx hb dL_law_1071 (by decide) ?_
  refine va_forget (fun q hq => by rw [← hB]; exact w.2.2.1.2.2 q hq) ?_
  refine W.widen (k := 600000) (n := 7302250) (Nat.le_of_ble_eq_true rfl) (Nat.le_of_ble_eq_true rfl) ?_
  exact lw_ret hx hb hr hlocks dL_law_1072
theorem law_on {p : Program} {l : Launch} {e : Env} {s : State} {m : MethodId} {below : List Frame} {meth : Method} {c : Code} {D : va_G} {B b L : Nat} {cy : Nat → ClassId} {H : Heap} {locs : List Loc} {ls : Array Slot} {xs : Nat → Int32} {M : Mem} (F : CallFix p m c code 4 s #[Value.ref b] TB RL) (hr : meth.sig.returnType = ret) (hlocks : meth.locks = false) (hX : va_X b L xs s s.heap) (hbl : b < s.heap.size) (hbA : ¬ B ≤ b) (hB : B = s.heap.size) (w : Wd D B cy s s.heap M H locs) (h6 : L = 6) (hl : lv_has ls 4 [(3, .int 0), (2, .ref (B + 146)), (1, .ref (B + 0)), (0, .ref b)]) : W p l e room_1 s m #[Value.ref b] below meth c H locs 159 13107 (lw_Z below #[Value.ref b] s) (F0 m 1065 ls []) := by
  have hx := F.1
  have hb := F.2.1
  refine lv_iinc (v := 6) (lv' := [(3, .int 6), (2, .ref (B + 146)), (1, .ref (B + 0)), (0, .ref b)]) hx hb dL_law_1065 hl (k := 0) rfl (by decide) (by decide) rfl (fun ls hl => ?_)
  refine lv_goto (tgt := 18) hx hb dL_law_1068 (by decide) ?_
  exact law_exit F hr hlocks hX hbl hbA hB w hl (by subst h6; decide)
set_option maxRecDepth 8000 in
theorem law_loop {p : Program} {l : Launch} {e : Env} {s : State} {m : MethodId} {below : List Frame} {meth : Method} {c : Code} {D : va_G} {B b L : Nat} {cy : Nat → ClassId} {H : Heap} {locs : List Loc} {ls : Array Slot} {xs : Nat → Int32} {M : Mem} (F : CallFix p m c code 4 s #[Value.ref b] TB RL) (hr : meth.sig.returnType = ret) (hlocks : meth.locks = false) (hX : va_X b L xs s s.heap) (hbl : b < s.heap.size) (hbA : ¬ B ≤ b) (hB : B = s.heap.size) (w : Wd D B cy s s.heap M H locs) (hM : M = M0) (hL : L ≤ 6) (hl : lv_has ls 4 [(3, .int 0), (2, .ref (B + 146)), (1, .ref (B + 0)), (0, .ref b)]) : W p l e room_1 s m #[Value.ref b] below meth c H locs 159 13107 (lw_Z below #[Value.ref b] s) (F0 m 18 ls []) := by
  have hx := F.1
  have hb := F.2.1
  by_cases h6 : L = 6
  · subst h6
    subst hM
    refine lv_iload_n hx hb dL_law_18 rfl (lv_at hl 0 rfl) ?_
    refine lv_aload_n hx hb dL_law_19 rfl (lv_at hl 3 rfl) ?_
    refine va_slen hx hb hX hbl hbA w.2.2.1 dL_law_20 ?_
    refine lv_bipush (v := 6) hx hb dL_law_21 (by decide) ?_
    refine lv_isub hx hb dL_law_23 ?_
    refine lv_icmp_gt (tgt := 1071) hx hb dL_law_24 (by decide) (fun c1 => absurd c1 (by decide)) (fun _ => ?_)
    refine lv_aload_n hx hb dL_law_27 rfl (lv_at hl 3 rfl) ?_
    refine lv_iload_n hx hb dL_law_28 rfl (lv_at hl 0 rfl) ?_
    refine va_sld hx hb hX hbl hbA w.2.2.1 (vpi (by decide) (by decide)) dL_law_29 ?_
    refine lv_bipush (v := 31) hx hb dL_law_30 (by decide) ?_
    refine lv_iand hx hb dL_law_32 ?_
    obtain ⟨j, hj, ej⟩ := and31 (xs ((0 : Int32).toNatClampNeg))
    refine r_val (v := nI j) ej ?_
    match j, hj with
    | 0, _ => exact lv_tableIn (tgt := 164) hx hb dL_law_33 (x := nI 0) (by decide) (by decide) (off := 131) rfl (by decide) (lc_0 F hX hbl hbA w hl (fun M1 H1 locs1 w1 => law_on F hr hlocks hX hbl hbA hB w1 rfl hl))
    | 1, _ => exact lv_tableIn (tgt := 227) hx hb dL_law_33 (x := nI 1) (by decide) (by decide) (off := 194) rfl (by decide) (lc_1 F hX hbl hbA w hl (fun M1 H1 locs1 w1 => law_on F hr hlocks hX hbl hbA hB w1 rfl hl))
    | 2, _ => exact lv_tableIn (tgt := 250) hx hb dL_law_33 (x := nI 2) (by decide) (by decide) (off := 217) rfl (by decide) (lc_2 F hX hbl hbA w hl (fun M1 H1 locs1 w1 => law_on F hr hlocks hX hbl hbA hB w1 rfl hl))
    | 3, _ => exact lv_tableIn (tgt := 263) hx hb dL_law_33 (x := nI 3) (by decide) (by decide) (off := 230) rfl (by decide) (lc_3 F hX hbl hbA w hl (fun M1 H1 locs1 w1 => law_on F hr hlocks hX hbl hbA hB w1 rfl hl))
    | 4, _ => exact lv_tableIn (tgt := 276) hx hb dL_law_33 (x := nI 4) (by decide) (by decide) (off := 243) rfl (by decide) (lc_4 F hX hbl hbA w hl (fun M1 H1 locs1 w1 => law_on F hr hlocks hX hbl hbA hB w1 rfl hl))
    | 5, _ => exact lv_tableIn (tgt := 309) hx hb dL_law_33 (x := nI 5) (by decide) (by decide) (off := 276) rfl (by decide) (lc_5 F hX hbl hbA w hl (fun M1 H1 locs1 w1 => law_on F hr hlocks hX hbl hbA hB w1 rfl hl))
    | 6, _ => exact lv_tableIn (tgt := 342) hx hb dL_law_33 (x := nI 6) (by decide) (by decide) (off := 309) rfl (by decide) (lc_6 F hX hbl hbA w hl (fun M1 H1 locs1 w1 => law_on F hr hlocks hX hbl hbA hB w1 rfl hl))
    | 7, _ => exact lv_tableIn (tgt := 375) hx hb dL_law_33 (x := nI 7) (by decide) (by decide) (off := 342) rfl (by decide) (lc_7 F hX hbl hbA w hl (fun M1 H1 locs1 w1 => law_on F hr hlocks hX hbl hbA hB w1 rfl hl))
    | 8, _ => exact lv_tableIn (tgt := 398) hx hb dL_law_33 (x := nI 8) (by decide) (by decide) (off := 365) rfl (by decide) (lc_8 F hX hbl hbA w hl (fun M1 H1 locs1 w1 => law_on F hr hlocks hX hbl hbA hB w1 rfl hl))
    | 9, _ => exact lv_tableIn (tgt := 431) hx hb dL_law_33 (x := nI 9) (by decide) (by decide) (off := 398) rfl (by decide) (lc_9 F hX hbl hbA w hl (fun M1 H1 locs1 w1 => law_on F hr hlocks hX hbl hbA hB w1 rfl hl))
    | 10, _ => exact lv_tableIn (tgt := 496) hx hb dL_law_33 (x := nI 10) (by decide) (by decide) (off := 463) rfl (by decide) (lc_10 F hX hbl hbA w hl (fun M1 H1 locs1 w1 => law_on F hr hlocks hX hbl hbA hB w1 rfl hl))
    | 11, _ => exact lv_tableIn (tgt := 509) hx hb dL_law_33 (x := nI 11) (by decide) (by decide) (off := 476) rfl (by decide) (lc_11 F hX hbl hbA w hl (fun M1 H1 locs1 w1 => law_on F hr hlocks hX hbl hbA hB w1 rfl hl))
    | 12, _ => exact lv_tableIn (tgt := 584) hx hb dL_law_33 (x := nI 12) (by decide) (by decide) (off := 551) rfl (by decide) (lc_12 F hX hbl hbA w hl (fun M1 H1 locs1 w1 => law_on F hr hlocks hX hbl hbA hB w1 rfl hl))
    | 13, _ => exact lv_tableIn (tgt := 607) hx hb dL_law_33 (x := nI 13) (by decide) (by decide) (off := 574) rfl (by decide) (lc_13 F hX hbl hbA w hl (fun M1 H1 locs1 w1 => law_on F hr hlocks hX hbl hbA hB w1 rfl hl))
    | 14, _ => exact lv_tableIn (tgt := 630) hx hb dL_law_33 (x := nI 14) (by decide) (by decide) (off := 597) rfl (by decide) (lc_14 F hX hbl hbA w hl (fun M1 H1 locs1 w1 => law_on F hr hlocks hX hbl hbA hB w1 rfl hl))
    | 15, _ => exact lv_tableIn (tgt := 643) hx hb dL_law_33 (x := nI 15) (by decide) (by decide) (off := 610) rfl (by decide) (lc_15 F hX hbl hbA w hl (fun M1 H1 locs1 w1 => law_on F hr hlocks hX hbl hbA hB w1 rfl hl))
    | 16, _ => exact lv_tableIn (tgt := 676) hx hb dL_law_33 (x := nI 16) (by decide) (by decide) (off := 643) rfl (by decide) (lc_16 F hX hbl hbA w hl (fun M1 H1 locs1 w1 => law_on F hr hlocks hX hbl hbA hB w1 rfl hl))
    | 17, _ => exact lv_tableIn (tgt := 719) hx hb dL_law_33 (x := nI 17) (by decide) (by decide) (off := 686) rfl (by decide) (lc_17 F hX hbl hbA w hl (fun M1 H1 locs1 w1 => law_on F hr hlocks hX hbl hbA hB w1 rfl hl))
    | 18, _ => exact lv_tableIn (tgt := 762) hx hb dL_law_33 (x := nI 18) (by decide) (by decide) (off := 729) rfl (by decide) (lc_18 F hX hbl hbA w hl (fun M1 H1 locs1 w1 => law_on F hr hlocks hX hbl hbA hB w1 rfl hl))
    | 19, _ => exact lv_tableIn (tgt := 795) hx hb dL_law_33 (x := nI 19) (by decide) (by decide) (off := 762) rfl (by decide) (lc_19 F hX hbl hbA w hl (fun M1 H1 locs1 w1 => law_on F hr hlocks hX hbl hbA hB w1 rfl hl))
    | 20, _ => exact lv_tableIn (tgt := 838) hx hb dL_law_33 (x := nI 20) (by decide) (by decide) (off := 805) rfl (by decide) (lc_20 F hX hbl hbA w hl (fun M1 H1 locs1 w1 => law_on F hr hlocks hX hbl hbA hB w1 rfl hl))
    | 21, _ => exact lv_tableIn (tgt := 871) hx hb dL_law_33 (x := nI 21) (by decide) (by decide) (off := 838) rfl (by decide) (lc_21 F hX hbl hbA w hl (fun M1 H1 locs1 w1 => law_on F hr hlocks hX hbl hbA hB w1 rfl hl))
    | 22, _ => exact lv_tableIn (tgt := 904) hx hb dL_law_33 (x := nI 22) (by decide) (by decide) (off := 871) rfl (by decide) (lc_22 F hX hbl hbA w hl (fun M1 H1 locs1 w1 => law_on F hr hlocks hX hbl hbA hB w1 rfl hl))
    | 23, _ => exact lv_tableIn (tgt := 937) hx hb dL_law_33 (x := nI 23) (by decide) (by decide) (off := 904) rfl (by decide) (lc_23 F hX hbl hbA w hl (fun M1 H1 locs1 w1 => law_on F hr hlocks hX hbl hbA hB w1 rfl hl))
    | 24, _ => exact lv_tableIn (tgt := 960) hx hb dL_law_33 (x := nI 24) (by decide) (by decide) (off := 927) rfl (by decide) (lc_24 F hX hbl hbA w hl (fun M1 H1 locs1 w1 => law_on F hr hlocks hX hbl hbA hB w1 rfl hl))
    | 25, _ => exact lv_tableIn (tgt := 973) hx hb dL_law_33 (x := nI 25) (by decide) (by decide) (off := 940) rfl (by decide) (lc_25 F hX hbl hbA w hl (fun M1 H1 locs1 w1 => law_on F hr hlocks hX hbl hbA hB w1 rfl hl))
    | 26, _ => exact lv_tableIn (tgt := 996) hx hb dL_law_33 (x := nI 26) (by decide) (by decide) (off := 963) rfl (by decide) (lc_26 F hX hbl hbA w hl (fun M1 H1 locs1 w1 => law_on F hr hlocks hX hbl hbA hB w1 rfl hl))
    | 27, _ => exact lv_tableIn (tgt := 1019) hx hb dL_law_33 (x := nI 27) (by decide) (by decide) (off := 986) rfl (by decide) (lc_27 F hX hbl hbA w hl (fun M1 H1 locs1 w1 => law_on F hr hlocks hX hbl hbA hB w1 rfl hl))
    | 28, _ => exact lv_tableIn (tgt := 1042) hx hb dL_law_33 (x := nI 28) (by decide) (by decide) (off := 1009) rfl (by decide) (lc_28 F hX hbl hbA w hl (fun M1 H1 locs1 w1 => law_on F hr hlocks hX hbl hbA hB w1 rfl hl))
    | 29, _ => exact lv_tableOut (tgt := 1065) hx hb dL_law_33 (x := nI 29) (by decide) (by decide) (law_on F hr hlocks hX hbl hbA hB w rfl hl)
    | 30, _ => exact lv_tableOut (tgt := 1065) hx hb dL_law_33 (x := nI 30) (by decide) (by decide) (law_on F hr hlocks hX hbl hbA hB w rfl hl)
    | 31, _ => exact lv_tableOut (tgt := 1065) hx hb dL_law_33 (x := nI 31) (by decide) (by decide) (law_on F hr hlocks hX hbl hbA hB w rfl hl)
    | j + 32, hj => omega
  · refine law_exit F hr hlocks hX hbl hbA hB w hl ?_
    have h5 : L < 6 := by omega
    match L, h5 with
    | 0, _ => decide
    | 1, _ => decide
    | 2, _ => decide
    | 3, _ => decide
    | 4, _ => decide
    | 5, _ => decide
    | i + 6, h => omega
set_option maxHeartbeats 4000000 in
set_option maxRecDepth 40000 in
theorem whole_start {p : Program} {e : Env} {s : State} {m : MethodId} {below : List Frame} {meth : Method} {c : Code} (l : Launch) (hflags : l.flags = flags0) {b L : Nat} {xs : Nat → Int32} (hL : L ≤ 6) (C0 : lw_At p s m meth c b L xs) : W p l e room_1 s m #[Value.ref b] below meth c s.heap [] 0 0 (lw_Z below #[Value.ref b] s) (entryFrame m ([Value.ref b] : List Value).toArray 4) := by
  obtain ⟨hx, hb, hr, hml, hown, hts, hX, hbl, hlocks, hgv⟩ := id C0
  have htb : ∀ w ∈ TB, w.before #[Value.ref b] s = true := fun w hw => hts w (List.mem_filter.mp hw).1
  have F : CallFix p m c code 4 s #[Value.ref b] TB RL := ⟨hx, hb, hml, hown, htb⟩
  obtain ⟨c0, i0, hK0⟩ := u_known (C := RX0) (T := TX0) (N := 8) (n := 8) htb inT0 (htb _ tb_42)
  obtain ⟨c1, i1, hK1⟩ := u_known (C := RX1) (T := TX1) (N := 1) (n := 1) htb inT1 (htb _ tb_46)
  obtain ⟨c2, i2, hK2⟩ := u_known (C := RX2) (T := TX2) (N := 3) (n := 3) htb inT2 (htb _ tb_77)
  obtain ⟨c3, i3, hK3⟩ := u_known (C := RX3) (T := TX3) (N := 7) (n := 7) htb inT3 (htb _ tb_88)
  obtain ⟨c4, i4, hK4⟩ := u_known (C := RX4) (T := TX4) (N := 1) (n := 1) htb inT4 (htb _ tb_32)
  obtain ⟨c5, i5, hK5⟩ := u_known (C := RX5) (T := TX5) (N := 6) (n := 6) htb inT5 (htb _ tb_22)
  obtain ⟨c6, i6, hK6⟩ := u_known (C := RX6) (T := TX6) (N := 4) (n := 4) htb inT6 (htb _ tb_104)
  obtain ⟨c7, i7, hK7⟩ := u_known (C := RX7) (T := TX7) (N := 2) (n := 2) htb inT7 (htb _ tb_115)
  obtain ⟨c8, i8, hK8⟩ := u_known (C := RX8) (T := TX8) (N := 2) (n := 2) htb inT8 (htb _ tb_4)
  obtain ⟨c9, i9, hK9⟩ := u_known (C := RX9) (T := TX9) (N := 6) (n := 6) htb inT9 (htb _ tb_60)
  obtain ⟨c10, i10, hK10⟩ := u_known (C := RX10) (T := TX10) (N := 2) (n := 2) htb inT10 (htb _ tb_13)
  obtain ⟨c11, i11, hK11⟩ := u_known (C := RX11) (T := TX11) (N := 10) (n := 10) htb inT11 (htb _ tb_592)
  obtain ⟨c12, i12, hK12⟩ := u_known (C := RX12) (T := TX12) (N := 27) (n := 27) htb inT12 (htb _ tb_596)
  obtain ⟨dC, dI, hKc⟩ : ∃ (dC : Nat → ClassId) (dI : Nat → Nat → Nat), ∀ (k : Nat) (q : vw_C), vwCl[k]? = some q → u_Kn s q.1 q.2.1 q.2.2 (dC k) (dI k) := by
    refine ⟨fun k => if k = 0 then c0 else if k = 1 then c1 else if k = 2 then c2 else if k = 3 then c3 else if k = 4 then c4 else if k = 5 then c5 else if k = 6 then c6 else if k = 7 then c7 else if k = 8 then c8 else if k = 9 then c9 else if k = 10 then c10 else if k = 11 then c11 else c12, fun k => if k = 0 then i0 else if k = 1 then i1 else if k = 2 then i2 else if k = 3 then i3 else if k = 4 then i4 else if k = 5 then i5 else if k = 6 then i6 else if k = 7 then i7 else if k = 8 then i8 else if k = 9 then i9 else if k = 10 then i10 else if k = 11 then i11 else i12, ?_⟩
    intro k q hq
    match k, hq with
    | 0, hq => cases hq; exact hK0
    | 1, hq => cases hq; exact hK1
    | 2, hq => cases hq; exact hK2
    | 3, hq => cases hq; exact hK3
    | 4, hq => cases hq; exact hK4
    | 5, hq => cases hq; exact hK5
    | 6, hq => cases hq; exact hK6
    | 7, hq => cases hq; exact hK7
    | 8, hq => cases hq; exact hK8
    | 9, hq => cases hq; exact hK9
    | 10, hq => cases hq; exact hK10
    | 11, hq => cases hq; exact hK11
    | 12, hq => cases hq; exact hK12
    | k + 13, hq => simp [vwCl] at hq
  obtain ⟨yB, kB, mB, aB1, aB2, aB3⟩ := Cond.arrayClass_spec (htb _ tb_7)
  obtain ⟨yC, kC, mC, aC1, aC2, aC3⟩ := Cond.arrayClass_spec (htb _ tb_118)
  obtain ⟨yI, kI, mI, aI1, aI2, aI3⟩ := Cond.arrayClass_spec (htb _ tb_35)
  obtain ⟨yJ, kJ, mJ, aJ1, aJ2, aJ3⟩ := Cond.arrayClass_spec (htb _ tb_97)
  have oR : va_AO "ToneLines$Rule" s := va_AO.of (hts _ (List.mem_append_right _ (tc1 (List.mem_of_getElem? (i := 68) rfl))))
  obtain ⟨mR, yR, kR, aR1, aR2, aR3, aR4, aR5⟩ := Cond.arrayOver_spec oR
  have oW : va_AO "ToneLines$Word" s := va_AO.of (hts _ (List.mem_append_right _ (tc1 (List.mem_of_getElem? (i := 122) rfl))))
  obtain ⟨mW, yW, kW, aW1, aW2, aW3, aW4, aW5⟩ := Cond.arrayOver_spec oW
  obtain ⟨cy, hcy⟩ : ∃ cy : Nat → ClassId, cy = fun k => if k = 0 then yB else if k = 1 then yC else if k = 2 then yI else if k = 3 then yJ else if k = 4 then yR else yW := ⟨_, rfl⟩
  have hK : va_K (dC, dI) vwCl (tys cy) s := by
    refine ⟨hKc, fun k q hq => ?_⟩
    subst hcy
    match k, hq with
    | 0, hq => cases hq; exact ⟨fun N z => ⟨(fun k h => by cases h), kB, aB2, mB, aB3⟩, aB1⟩
    | 1, hq => cases hq; exact ⟨fun N z => ⟨(fun k h => by cases h), kC, aC2, mC, aC3⟩, aC1⟩
    | 2, hq => cases hq; exact ⟨fun N z => ⟨(fun k h => by cases h), kI, aI2, mI, aI3⟩, aI1⟩
    | 3, hq => cases hq; exact ⟨fun N z => ⟨(fun k h => by cases h), kJ, aJ2, mJ, aJ3⟩, aJ1⟩
    | 4, hq => cases hq; exact ⟨fun N z => ⟨(fun k h => by cases h), kR, aR3, mR, aR4⟩, kR, mR, aR3, aR4, aR1, aR5⟩
    | 5, hq => cases hq; exact ⟨fun N z => ⟨(fun k h => by cases h), kW, aW3, mW, aW4⟩, kW, mW, aW3, aW4, aW1, aW5⟩
    | k + 6, hq => simp [tys] at hq
  have hN : Nst s := by
    intro q hq
    refine va_Nw.of rfl (hts _ (List.mem_append_right _ ?_))
    simp only [NST, List.mem_cons, List.not_mem_nil, or_false] at hq
    rcases hq with rfl | rfl | rfl | rfl | rfl | rfl | rfl | rfl | rfl | rfl | rfl | rfl | rfl | rfl | rfl | rfl | rfl | rfl | rfl | rfl
    · exact tc1 (List.mem_of_getElem? (i := 33) rfl)
    · exact tc1 (List.mem_of_getElem? (i := 70) rfl)
    · exact tc1 (List.mem_of_getElem? (i := 111) rfl)
    · exact tc1 (List.mem_of_getElem? (i := 123) rfl)
    · exact tc1 (List.mem_of_getElem? (i := 125) rfl)
    · exact tc1 (List.mem_of_getElem? (i := 209) rfl)
    · exact tc1 (List.mem_of_getElem? (i := 228) rfl)
    · exact tc2 (List.mem_of_getElem? (i := 17) rfl)
    · exact tc2 (List.mem_of_getElem? (i := 22) rfl)
    · exact tc2 (List.mem_of_getElem? (i := 41) rfl)
    · exact tc2 (List.mem_of_getElem? (i := 56) rfl)
    · exact tc2 (List.mem_of_getElem? (i := 235) rfl)
    · exact tc3 (List.mem_of_getElem? (i := 47) rfl)
    · exact tc3 (List.mem_of_getElem? (i := 107) rfl)
    · exact tc4 (List.mem_of_getElem? (i := 12) rfl)
    · exact tc4 (List.mem_of_getElem? (i := 15) rfl)
    · exact tc4 (List.mem_of_getElem? (i := 50) rfl)
    · exact tc4 (List.mem_of_getElem? (i := 51) rfl)
    · exact tc4 (List.mem_of_getElem? (i := 153) rfl)
    · exact tc4 (List.mem_of_getElem? (i := 201) rfl)
  obtain ⟨B, hB⟩ : ∃ B, B = s.heap.size := ⟨_, rfl⟩
  have w : Wn (dC, dI) B cy s s.heap 0 E0f s.heap [] := ⟨hK, fun k q h => by simp [wn] at h, va_S.rf, by omega, hN, ⟨oR, oW⟩, by omega⟩
  have hl := lv_entry ([.ref b]) (n := 4) (Nat.le_of_ble_eq_true rfl)
  rw [lg_entry_eq]
  generalize (lg_sl ([.ref b]) ++ List.replicate (4 - (lg_sl ([.ref b])).length) Slot.unset).toArray = ls at hl ⊢
  have hl : lv_has ls 4 [(0, .ref b)] := hl
  refine n_new F w (C := RX11) (T := TX11) (N := 10) (ci := 11) (fs := [.null, .null, .null, .null, .null, .null, .null, .null, .null, .null]) tyX11 tyX11_ok inT11 tb_591 tb_592 tb_145 rfl nf_11 (Nat.le_of_ble_eq_true rfl) (Nat.le_of_ble_eq_true rfl) (c1 := 1) (s1 := 10) (n1 := 1) rfl rfl rfl dL_law_0 (fun H w => ?_)
  refine lv_dup hx hb dL_law_3 rfl ?_
  refine n_callI F w (b := 0) (As := []) (rest := [.ref (B + 0)]) (n_X11_init_56 up_at) gc_X11_init rfl tb_145 tb_593 tb_594 hs_X11_init ⟨(Nat.le_of_ble_eq_true rfl), (Nat.le_of_ble_eq_true rfl)⟩ hl.1 rfl (Nat.le_of_ble_eq_true rfl) ⟨(Nat.le_of_ble_eq_true rfl), (Nat.le_of_ble_eq_true rfl)⟩ (k1 := 146) (k2 := 3165) rfl rfl dL_law_4 (fun H locs w => ?_)
  refine lv_astore_n (lv' := [(1, .ref (B + 0)), (0, .ref b)]) hx hb dL_law_7 rfl hl (by decide) rfl (fun ls hl => ?_)
  refine n_new F w (C := RX12) (T := TX12) (N := 27) (ci := 12) (fs := [.int 0, .null, .null, .int 0, .null, .int 0, .int 0, .null, .int 0, .int 0, .null, .int 0, .null, .int 0, .int 0, .int 0, .int 0, .null, .null, .null, .int 0, .null, .int 0, .null, .null, .int 0, .int 0]) tyX12 tyX12_ok inT12 tb_595 tb_596 tb_150 rfl nf_12 (Nat.le_of_ble_eq_true rfl) (Nat.le_of_ble_eq_true rfl) (c1 := 147) (s1 := 3192) (n1 := 147) rfl rfl rfl dL_law_8 (fun H w => ?_)
  refine lv_dup hx hb dL_law_11 rfl ?_
  refine n_callI F w (b := 146) (As := []) (rest := [.ref (B + 146)]) (n_X12_init_57 up_at) gc_X12_init rfl tb_150 tb_597 tb_598 hs_X12_init ⟨(Nat.le_of_ble_eq_true rfl), (Nat.le_of_ble_eq_true rfl)⟩ hl.1 rfl (Nat.le_of_ble_eq_true rfl) ⟨(Nat.le_of_ble_eq_true rfl), (Nat.le_of_ble_eq_true rfl)⟩ (k1 := 159) (k2 := 13107) rfl rfl dL_law_12 (fun H locs w => ?_)
  refine lv_astore_n (lv' := [(2, .ref (B + 146)), (1, .ref (B + 0)), (0, .ref b)]) hx hb dL_law_15 rfl hl (by decide) rfl (fun ls hl => ?_)
  refine lv_iconst (v := 0) hx hb dL_law_16 (by decide) ?_
  refine lv_istore_n (lv' := [(3, .int 0), (2, .ref (B + 146)), (1, .ref (B + 0)), (0, .ref b)]) hx hb dL_law_17 rfl hl (by decide) rfl (fun ls hl => ?_)
  have hP : va_P (dC, dI) vwCl (wn B 159 (EF7 B cy)) H := w.2.1
  exact law_loop F hr hlocks hX hbl (by omega) hB ⟨hK, conv_P hP, w.2.2.1, hN⟩ rfl hL hl
-- ===== YOUR PART ENDS =====
set_option maxHeartbeats 4000000 in
theorem lw_walk (l : Launch) (hflags : l.flags = flags0) (b : Addr) (xs : List Int32) : MetFree l x (headSpec (Jvm.Cond.code x code maxLocals ret :: tables_1) room_1) (lw_P b xs) (fun _ _ _ _ _ => True) lw_Q := by
  refine MetFree.of_bodyS (code := code) (maxLocals := maxLocals) (ret := ret) (by decide) ?_ ?_
  · intro args s m h hn
    obtain ⟨meth, c, h1, h2, h3, h4, h5, h6, -, -⟩ := Cond.code_spec hn (atoms_spec (ws := Jvm.Cond.code x code maxLocals ret :: tables_1) h _ List.mem_cons_self)
    exact ⟨meth, c, h1, h2, h3, h4, h5, h6⟩
  · intro p e s m args below meth c s₁ B hml0 hP _
    obtain ⟨rfl, hx, hbd, hgv⟩ := hP
    obtain ⟨scr, harrAt, hlist, hof, hsmall⟩ := hx
    obtain ⟨hcb, hkn, -, -⟩ := State.arrayAt?_spec harrAt
    have hown : s.vm.findClass R_law = some m.cls := findClass_of_methodNamed B.named
    have hts0 : ∀ c ∈ (Jvm.Cond.code x code maxLocals ret :: tables_1), c.before #[Value.ref b] s = true := atoms_spec (ws := Jvm.Cond.code x code maxLocals ret :: tables_1) B.pre
    have hts : ∀ w ∈ lw_tbl, w.before #[Value.ref b] s = true := k2_hts_sels lw_privs (fun w hw => hts0 w (List.mem_cons_of_mem _ hw)) lw_privs_ok
    have hml : c.maxLocals = 4 := B.maxLocals_eq (hts0 _ List.mem_cons_self)
    have X₀ : Stand p l e room_1 s m #[Value.ref b] below meth c s₁ [] 0 0 := Stand.of_body B
    have hh0 : s₁.heap = s.heap := by rw [B.state]; rfl
    have hsz : scr.slots.size = xs.length := by rw [← Array.length_toList, hlist, List.length_map]
    have hval : ∀ j : Nat, j < xs.length → scr.slots[j]? = some (.int (xs.getD j 0)) := fun j hj => by
      rw [← Array.getElem?_toList, hlist]
      simp [hj]
    have hbl : b < s.heap.size := (Array.getElem?_eq_some_iff.mp hcb).1
    have hX : va_X b xs.length (fun j => xs.getD j 0) s s.heap := ⟨scr, hcb, hof, hkn, hsz, hval⟩
    have K : W p l e room_1 s m #[Value.ref b] below meth c s₁.heap [] 0 0 (lw_Z below #[Value.ref b] s) (entryFrame m ([Value.ref b] : List Value).toArray 4) := by
      rw [hh0]
      exact whole_start l hflags hbd ⟨B.exec, B.bytes, B.returns, hml, hown, hts, hX, hbl, B.notSynchronized, hgv⟩
    obtain ⟨t, a1, o, b1, b2, b3⟩ := K s₁ rfl X₀
    exact ⟨t, o, a1, b1, b2, b3⟩
theorem lw_pre_spec {args : Array Value} {s : State} (h : (Jvm.Cond.and given_1 narrow_1).before args s = true) (hr : rest_1_c.before args s = true) : ∃ (b : Addr) (xs : List Int32), lw_P b xs args s := by
  have hs := flat_of_before _ h
  have hq := flat_of_before _ hr
  have hc : (Cond.count 1).before args s = true := hs _ (by decide +kernel)
  have harr : (Cond.arrayOf (.arg 0) .int).before args s = true := hs _ (by decide +kernel)
  have hle : (Cond.le (.length (.arg 0)) (.int 6)).before args s = true := hs _ (by decide +kernel)
  have hlen : (Cond.isInt (.length (.arg 0))).before args s = true := hq _ (by decide +kernel)
  have hall : (Cond.all (.arg 0) (.isInt (.elem (.arg 0) (.index 0)))).before args s = true := hq _ (by decide +kernel)
  obtain ⟨b, xs, hb, hx⟩ := State.ints_of_pre rfl harr hlen hall
  have hsm : xs.length < 2 ^ 31 := hx.choose_spec.2.2.2
  have hev : (Term.length (.arg 0)).eval args s none [] s = some (.int xs.length.toInt32) := hx.length_eval hb
  have hv := Cond.le_ints hev (show (Term.int 6).eval args s none [] s = some (.int 6) from rfl)
  have hd : xs.length.toInt32 ≤ 6 := by
    simpa [Cond.before, Cond.holds, hv] using hle
  have hN : xs.length ≤ 6 := (Int32.ofNat_le_ofNat hsm (by decide)).mp (show Int32.ofNat xs.length ≤ Int32.ofNat 6 from hd)
  exact ⟨b, xs, Cond.one_arg hc (show args[0]? = some (.ref b) from hb), hx, hN, h⟩
theorem lw_comes (l : Launch) (hflags : l.flags = flags0) : Comes l x (Jvm.Cond.code x code maxLocals ret :: tables_1) room_1 (fun tb e args s => Calls_1 tb e args s ∧ rest_1 tb e args s ∧ Pre_1 tb e args s)
    (fun _ _ args s o t => lw_Q args s o t) := by
  intro p e ha hc hk s m args below hf hfit hheap happ hpre
  obtain ⟨b, xs, hP⟩ := lw_pre_spec hpre.2.2 hpre.2.1
  obtain ⟨k, o, h1, h2, h3, hQ⟩ := lw_walk l hflags b xs p e ha hc hk s m args below hf ((Spec.applies_iff_loose hf).mp happ).1 hP trivial
  exact ⟨k, o, h1, h2, h3, hQ⟩
theorem lw_frame {s t : State} {o : Outcome} {args : Array Value} (h : Framed s o t [] 600000 7302250) :
    Framed s o t (fieldLocs frame_1_writes args s ++ arrayLocs frame_1_arrays args s ++ staticLocs frame_1_statics s) 600000 7302250 := h
theorem lw_limb (L : Cond) (hL : ∀ (args : Array Value) (s t : State), L.after args s (.returned (some (.int 1))) t = true) :
    ArmFor flags0 classFile x code maxLocals ret World_1 tables_1 room_1 Calls_1 rest_1 Pre_1
      (fun tb e a s o t => postC L tb e a s o t ∧ Framed s o t (fieldLocs frame_1_writes a s ++ arrayLocs frame_1_arrays a s ++ staticLocs frame_1_statics s) 600000 7302250) := by
  intro l hflags _ _ p e ha hc hk s m args below hf hfit hheap happ hpre
  obtain ⟨k, o, h1, h2, h3, rfl, hF⟩ := lw_comes l hflags p e ha hc hk s m args below hf hfit hheap happ hpre
  exact ⟨k, _, h1, h2, h3, hL args s _, lw_frame hF⟩
theorem i_vc : Claimed_1_1 ∧ Claimed_1_2 := ⟨lw_limb limb_1_1 (fun args s t => by simp [limb_1_1, Cond.after, Cond.holds, Cond.value]), lw_limb limb_1_2 (fun args s t => Cond.after_iff.mpr (by
  first | (rw [show limb_1_2 = Cond.eq .result (.int 1) from rfl, Cond.eq_ints (x := 1) (y := 1) rfl rfl]; simp; done) | (simp [limb_1_2, Cond.value, Term.eval]; done)))⟩
