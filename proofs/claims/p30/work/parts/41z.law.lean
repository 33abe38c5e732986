theorem tb_785 : Cond.classLink "ToneLinesLaw" 7 "ToneLines" ∈ TB := tbm (tc1 (List.mem_of_getElem? (i := 23) rfl)) rfl
theorem tb_786 : Cond.instantiable "ToneLines" 10 ∈ TB := tbm (tc1 (List.mem_of_getElem? (i := 24) rfl)) rfl
theorem dL_law_0 : decode cL_law 0 = .ok (.new 7, 3) := dqV kk_187 (by decide +kernel)
theorem dL_law_3 : decode cL_law 3 = .ok (.dup, 1) := dq0 kk_89 (by decide +kernel)
theorem tk_X11_init : Cond.code yX11_init cX11_init 1 none ∈ TB := tbm (tc1 (List.mem_of_getElem? (i := 27) rfl)) rfl
theorem gc_X11_init : GoodIn TB (cw yX11_init cX11_init 1 none) := goodIn_c2 tk_X11_init
theorem tb_787 : Cond.methodLink "ToneLinesLaw" 9 yX11_init ∈ TB := tbm (tc1 (List.mem_of_getElem? (i := 25) rfl)) rfl
theorem tb_788 : Cond.instanceMethod yX11_init ∈ TB := tbm (tc1 (List.mem_of_getElem? (i := 26) rfl)) rfl
theorem hs_X11_init : yX11_init.cls ≠ "java/lang/invoke/MethodHandle" ∧ yX11_init.cls ≠ "java/lang/invoke/VarHandle" ∧ (parseMethodDescriptor yX11_init.desc).map (fun d => d.parameters.length) = some 0 := by decide +kernel
theorem dL_law_4 : decode cL_law 4 = .ok (.invokespecial 9, 3) := dqV kk_183 (by decide +kernel)
theorem dL_law_7 : decode cL_law 7 = .ok (.astore_n 1, 1) := dq0 kk_76 (by decide +kernel)
theorem tb_789 : Cond.classLink "ToneLinesLaw" 10 "ToneLinesModel" ∈ TB := tbm (tc5 (List.mem_of_getElem? (i := 51) rfl)) rfl
theorem tb_790 : Cond.instantiable "ToneLinesModel" 27 ∈ TB := tbm (tc5 (List.mem_of_getElem? (i := 52) rfl)) rfl
theorem dL_law_8 : decode cL_law 8 = .ok (.new 10, 3) := dqV kk_187 (by decide +kernel)
theorem dL_law_11 : decode cL_law 11 = .ok (.dup, 1) := dq0 kk_89 (by decide +kernel)
theorem tk_X12_init : Cond.code yX12_init cX12_init 1 none ∈ TB := tbm (tc5 (List.mem_of_getElem? (i := 55) rfl)) rfl
theorem gc_X12_init : GoodIn TB (cw yX12_init cX12_init 1 none) := goodIn_c2 tk_X12_init
theorem tb_791 : Cond.methodLink "ToneLinesLaw" 12 yX12_init ∈ TB := tbm (tc5 (List.mem_of_getElem? (i := 53) rfl)) rfl
theorem tb_792 : Cond.instanceMethod yX12_init ∈ TB := tbm (tc5 (List.mem_of_getElem? (i := 54) rfl)) rfl
theorem hs_X12_init : yX12_init.cls ≠ "java/lang/invoke/MethodHandle" ∧ yX12_init.cls ≠ "java/lang/invoke/VarHandle" ∧ (parseMethodDescriptor yX12_init.desc).map (fun d => d.parameters.length) = some 0 := by decide +kernel
theorem dL_law_12 : decode cL_law 12 = .ok (.invokespecial 12, 3) := dqV kk_183 (by decide +kernel)
theorem dL_law_15 : decode cL_law 15 = .ok (.astore_n 2, 1) := dq0 kk_77 (by decide +kernel)
theorem dL_law_16 : decode cL_law 16 = .ok (.iconst 0, 1) := dq0 kk_3 (by decide +kernel)
theorem dL_law_17 : decode cL_law 17 = .ok (.istore_n 3, 1) := dq0 kk_62 (by decide +kernel)
theorem dL_law_18 : decode cL_law 18 = .ok (.iload_n 3, 1) := dq0 kk_29 (by decide +kernel)
theorem dL_law_19 : decode cL_law 19 = .ok (.aload_n 0, 1) := dq0 kk_42 (by decide +kernel)
theorem dL_law_20 : decode cL_law 20 = .ok (.arraylength, 1) := dq0 kk_190 (by decide +kernel)
theorem dL_law_21 : decode cL_law 21 = .ok (.bipush 6, 2) := dqS kk_16 (by decide +kernel)
theorem dL_law_23 : decode cL_law 23 = .ok (.isub, 1) := dq0 kk_100 (by decide +kernel)
theorem dL_law_24 : decode cL_law 24 = .ok (.if_icmp .gt 1047, 3) := dqT kk_163 (by decide +kernel)
theorem dL_law_1071 : decode cL_law 1071 = .ok (.iconst 1, 1) := dq0 kk_4 (by decide +kernel)
theorem dL_law_1072 : decode cL_law 1072 = .ok (.ireturn, 1) := dq0 kk_172 (by decide +kernel)
theorem dL_law_1065 : decode cL_law 1065 = .ok (.iinc 3 6, 3) := dqI kk_132 (by decide +kernel)
theorem dL_law_1068 : decode cL_law 1068 = .ok (.goto (-1050), 3) := dqT kk_167 (by decide +kernel)
theorem dL_law_27 : decode cL_law 27 = .ok (.aload_n 0, 1) := dq0 kk_42 (by decide +kernel)
theorem dL_law_28 : decode cL_law 28 = .ok (.iload_n 3, 1) := dq0 kk_29 (by decide +kernel)
theorem dL_law_29 : decode cL_law 29 = .ok (.iaload, 1) := dq0 kk_46 (by decide +kernel)
theorem dL_law_30 : decode cL_law 30 = .ok (.bipush 31, 2) := dqS kk_16 (by decide +kernel)
theorem dL_law_32 : decode cL_law 32 = .ok (.iand, 1) := dq0 kk_126 (by decide +kernel)
theorem dL_law_33 : decode cL_law 33 = .ok (.tableswitch 1032 0 28 #[131, 194, 217, 230, 243, 276, 309, 342, 365, 398, 463, 476, 551, 574, 597, 610, 643, 686, 729, 762, 805, 838, 871, 904, 927, 940, 963, 986, 1009], 131) := by decide +kernel
-- ===== end of PART A; then your names; then what follows =====
/-! THE CLAIM OUT OF ONE WALK OF THE LAW'S BODY. Your part is whole_start (and what it stands on); all else here is the same for every law, but numbers. -/
def R_law : String := "ToneLinesLaw"
def lw_P (b : Addr) (xs : List Int32) (args : Array Value) (s : State) : Prop := args = #[.ref b] ∧ s.IntsAt b xs ∧ xs.length ≤ 3072 ∧ (Jvm.Cond.and given_1 narrow_1).before args s = true
def lw_Q (_ : Array Value) (s : State) (o : Outcome) (t : State) : Prop := o = .returned (some (.int 1)) ∧ Framed s o t [] 600000 7302250
def lw_Z (below : List Frame) (a : Array Value) (s : State) : State → Prop := fun t => ∃ o, t.status = .running ∧ Ended t below o ∧ lw_Q a s o t
/-- the law's own end, with 1 on the stack, nothing written that was there before, its room as the claim has it -/
theorem lw_ret {p : Program} {l : Launch} {e : Env} {s : State} {m : MethodId} {below : List Frame} {meth : Method} {c : Code} {b : Nat} (hx : p.tables.exec = Jvm.exec) (hb : c.code = code) (hr : meth.sig.returnType = ret) (hlocks : meth.locks = false) {pc : Nat} {H : Heap} {ls : Array Slot} (hdg : decode code pc = .ok (.ireturn, 1)) : W p l e room_1 s m #[Value.ref b] below meth c H [] 600000 7302250 (lw_Z below #[Value.ref b] s) (F0 m pc ls [.int 1]) := by
  intro T hT X
  obtain ⟨fs, hret, hrun, hended, hW, hframe⟩ := X.leave (v := some (.int 1)) (hlocks := hlocks) (fun h => by rw [hr] at h; cases h)
  have hmeth' : T.vm.method? m = some meth := X.method'
  refine ⟨T.setFrames fs, ?_, .returned (some (.int 1)), hrun, hended, rfl, ⟨_, rfl⟩, hW, hframe⟩
  jvm_step X.here [X.here.top, hx, hb, hdg, hmeth', hr, ret, narrow_b1]
  (try refine ⟨rfl, ?_⟩); (try refine ⟨rfl, ?_⟩)
  first | (intro acts; rw [hret _ acts rfl rfl rfl]) | rw [hret _ _ rfl rfl rfl]
  exact Steps.refl _
/-- what holds at the law's entry: the machine, the code, the tables' words (any of lw_tbl by 'hts w (by decide +kernel)'), the script of L ints xs at the cell b, what the Statement gives of the start (any of its parts by flat_of_before) -/
def lw_At (p : Program) (s : State) (m : MethodId) (meth : Method) (c : Code) (b L : Nat) (xs : Nat → Int32) : Prop :=
  p.tables.exec = Jvm.exec ∧ c.code = code ∧ meth.sig.returnType = ret ∧ c.maxLocals = 4 ∧ s.vm.findClass R_law = some m.cls ∧ (∀ w ∈ lw_tbl, w.before #[Value.ref b] s = true) ∧ va_X b L xs s s.heap ∧ b < s.heap.size ∧ meth.locks = false ∧ (Jvm.Cond.and given_1 narrow_1).before #[Value.ref b] s = true
theorem and31 (x : Int32) : ∃ j : Nat, j < 32 ∧ x &&& 31 = nI j := by
  have e : x &&& 31 = nI (x &&& 31).toBitVec.toNat := by
    apply Int32.toBitVec_inj.1
    show (x &&& 31).toBitVec = BitVec.ofNat 32 (x &&& 31).toBitVec.toNat
    simp
  refine ⟨(x &&& 31).toBitVec.toNat, ?_, e⟩
  show (x.toBitVec &&& (31 : Int32).toBitVec).toNat < 32
  rw [BitVec.toNat_and]
  exact Nat.lt_of_le_of_lt Nat.and_le_right (by decide)
theorem law_exit {p : Program} {l : Launch} {e : Env} {s : State} {m : MethodId} {below : List Frame} {meth : Method} {c : Code} {D : va_G} {B b L : Nat} {cy : Nat → ClassId} {xs : Nat → Int32} (F : CallFix p m c code 4 s #[Value.ref b] TB RL) (hr : meth.sig.returnType = ret) (hlocks : meth.locks = false) (hX : va_X b L xs s s.heap) (hbl : b < s.heap.size) (hbA : ¬ B ≤ b) (hB : B = s.heap.size) (hL : L ≤ 3072) {H : Heap} {locs : List Loc} {ls : Array Slot} {M : Mem} {i : Nat} (w : Wd D B cy s s.heap M H locs) (hl : lv_has ls 4 [(3, .int (zI (i : Int))), (2, .ref (B + 146)), (1, .ref (B + 0)), (0, .ref b)]) (h6 : L < i + 6) (hi : i ≤ 4000) : W p l e room_1 s m #[Value.ref b] below meth c H locs 159 13107 (lw_Z below #[Value.ref b] s) (F0 m 18 ls []) := by
  have hx := F.1
  have hb := F.2.1
  refine lv_iload_n hx hb dL_law_18 rfl (lv_at hl 0 rfl) ?_
  refine lv_aload_n hx hb dL_law_19 rfl (lv_at hl 3 rfl) ?_
  refine va_slen hx hb hX hbl hbA w.2.2.1 dL_law_20 ?_
  refine r_val (v := zI (L : Int)) (zI_nI L).symm ?_
  refine lv_bipush (v := zI 6) hx hb dL_law_21 (by decide) ?_
  refine z_isub (z := (L : Int) - 6) hx hb dL_law_23 (by omega) ?_
  refine z_icmp_gt (tgt := 1071) hx hb (by omega) (by omega) dL_law_24 (by decide) (fun _ => ?_) (fun c1 => False.elim (c1 (by omega)))
  refine lv_iconst (v := 1) hx hb dL_law_1071 (by decide) ?_
  refine va_forget (fun q hq => by rw [← hB]; exact w.2.2.1.2.2 q hq) ?_
  refine W.widen (k := 600000) (n := 7302250) (Nat.le_of_ble_eq_true rfl) (Nat.le_of_ble_eq_true rfl) ?_
  exact lw_ret hx hb hr hlocks dL_law_1072
set_option maxRecDepth 8000 in
theorem law_loop {p : Program} {l : Launch} {e : Env} {s : State} {m : MethodId} {below : List Frame} {meth : Method} {c : Code} {D : va_G} {B b L : Nat} {cy : Nat → ClassId} {xs : Nat → Int32} (F : CallFix p m c code 4 s #[Value.ref b] TB RL) (hr : meth.sig.returnType = ret) (hlocks : meth.locks = false) (hX : va_X b L xs s s.heap) (hbl : b < s.heap.size) (hbA : ¬ B ≤ b) (hB : B = s.heap.size) (hL : L ≤ 3072) : ∀ (f i : Nat) (M : Mem) (H : Heap) (locs : List Loc) (ls : Array Slot), L < i + f → i ≤ L + 6 → Jx M → Wd D B cy s s.heap M H locs → lv_has ls 4 [(3, .int (zI (i : Int))), (2, .ref (B + 146)), (1, .ref (B + 0)), (0, .ref b)] → W p l e room_1 s m #[Value.ref b] below meth c H locs 159 13107 (lw_Z below #[Value.ref b] s) (F0 m 18 ls []) := by
  have hx := F.1
  have hb := F.2.1
  intro f
  induction f with
  | zero =>
    intro i M H locs ls h1 h2 hJ w hl
    exact law_exit F hr hlocks hX hbl hbA hB hL w hl (by omega) (by omega)
  | succ f ih =>
    intro i M H locs ls h1 h2 hJ w hl
    by_cases h6 : L < i + 6
    · exact law_exit F hr hlocks hX hbl hbA hB hL w hl h6 (by omega)
    · have on : ∀ (M1 : Mem) (H1 : Heap) (locs1 : List Loc), Jx M1 → Wd D B cy s s.heap M1 H1 locs1 → W p l e room_1 s m #[Value.ref b] below meth c H1 locs1 159 13107 (lw_Z below #[Value.ref b] s) (F0 m 1065 ls []) := by
        intro M1 H1 locs1 hJ1 w1
        refine z_iinc (v := ((i + 6 : Nat) : Int)) (lv' := [(3, .int (zI ((i + 6 : Nat) : Int))), (2, .ref (B + 146)), (1, .ref (B + 0)), (0, .ref b)]) hx hb dL_law_1065 hl (k := 0) rfl (by omega) (by decide) rfl (fun ls hl => ?_)
        refine lv_goto (tgt := 18) hx hb dL_law_1068 (by decide) ?_
        exact ih (i + 6) M1 H1 locs1 ls (by omega) (by omega) hJ1 w1 hl
      refine lv_iload_n hx hb dL_law_18 rfl (lv_at hl 0 rfl) ?_
      refine lv_aload_n hx hb dL_law_19 rfl (lv_at hl 3 rfl) ?_
      refine va_slen hx hb hX hbl hbA w.2.2.1 dL_law_20 ?_
      refine r_val (v := zI (L : Int)) (zI_nI L).symm ?_
      refine lv_bipush (v := zI 6) hx hb dL_law_21 (by decide) ?_
      refine z_isub (z := (L : Int) - 6) hx hb dL_law_23 (by omega) ?_
      refine z_icmp_gt (tgt := 1071) hx hb (by omega) (by omega) dL_law_24 (by decide) (fun c1 => False.elim (by omega)) (fun _ => ?_)
      refine lv_aload_n hx hb dL_law_27 rfl (lv_at hl 3 rfl) ?_
      refine lv_iload_n hx hb dL_law_28 rfl (lv_at hl 0 rfl) ?_
      have hix := ix_z (z := (i : Int)) (by omega) (by omega)
      refine va_sld hx hb hX hbl hbA w.2.2.1 (vpi hix.1 (by rw [hix.2]; omega)) dL_law_29 ?_
      refine lv_bipush (v := 31) hx hb dL_law_30 (by decide) ?_
      refine lv_iand hx hb dL_law_32 ?_
      obtain ⟨j, hj, ej⟩ := and31 (xs ((zI (i : Int)).toNatClampNeg))
      refine r_val (v := nI j) ej ?_
      match j, hj with
      | 0, _ => exact lv_tableIn (tgt := 164) hx hb dL_law_33 (x := nI 0) (by decide) (by decide) (off := 131) rfl (by decide) (lc_0 F hX hbl hbA (by omega) hL hJ w hl on)
      | 1, _ => exact lv_tableIn (tgt := 227) hx hb dL_law_33 (x := nI 1) (by decide) (by decide) (off := 194) rfl (by decide) (lc_1 F hX hbl hbA (by omega) hL hJ w hl on)
      | 2, _ => exact lv_tableIn (tgt := 250) hx hb dL_law_33 (x := nI 2) (by decide) (by decide) (off := 217) rfl (by decide) (lc_2 F hX hbl hbA (by omega) hL hJ w hl on)
      | 3, _ => exact lv_tableIn (tgt := 263) hx hb dL_law_33 (x := nI 3) (by decide) (by decide) (off := 230) rfl (by decide) (lc_3 F hX hbl hbA (by omega) hL hJ w hl on)
      | 4, _ => exact lv_tableIn (tgt := 276) hx hb dL_law_33 (x := nI 4) (by decide) (by decide) (off := 243) rfl (by decide) (lc_4 F hX hbl hbA (by omega) hL hJ w hl on)
      | 5, _ => exact lv_tableIn (tgt := 309) hx hb dL_law_33 (x := nI 5) (by decide) (by decide) (off := 276) rfl (by decide) (lc_5 F hX hbl hbA (by omega) hL hJ w hl on)
      | 6, _ => exact lv_tableIn (tgt := 342) hx hb dL_law_33 (x := nI 6) (by decide) (by decide) (off := 309) rfl (by decide) (lc_6 F hX hbl hbA (by omega) hL hJ w hl on)
      | 7, _ => exact lv_tableIn (tgt := 375) hx hb dL_law_33 (x := nI 7) (by decide) (by decide) (off := 342) rfl (by decide) (lc_7 F hX hbl hbA (by omega) hL hJ w hl on)
      | 8, _ => exact lv_tableIn (tgt := 398) hx hb dL_law_33 (x := nI 8) (by decide) (by decide) (off := 365) rfl (by decide) (lc_8 F hX hbl hbA (by omega) hL hJ w hl on)
      | 9, _ => exact lv_tableIn (tgt := 431) hx hb dL_law_33 (x := nI 9) (by decide) (by decide) (off := 398) rfl (by decide) (lc_9 F hX hbl hbA (by omega) hL hJ w hl on)
      | 10, _ => exact lv_tableIn (tgt := 496) hx hb dL_law_33 (x := nI 10) (by decide) (by decide) (off := 463) rfl (by decide) (lc_10 F hX hbl hbA (by omega) hL hJ w hl on)
      | 11, _ => exact lv_tableIn (tgt := 509) hx hb dL_law_33 (x := nI 11) (by decide) (by decide) (off := 476) rfl (by decide) (lc_11 F hX hbl hbA (by omega) hL hJ w hl on)
      | 12, _ => exact lv_tableIn (tgt := 584) hx hb dL_law_33 (x := nI 12) (by decide) (by decide) (off := 551) rfl (by decide) (lc_12 F hX hbl hbA (by omega) hL hJ w hl on)
      | 13, _ => exact lv_tableIn (tgt := 607) hx hb dL_law_33 (x := nI 13) (by decide) (by decide) (off := 574) rfl (by decide) (lc_13 F hX hbl hbA (by omega) hL hJ w hl on)
      | 14, _ => exact lv_tableIn (tgt := 630) hx hb dL_law_33 (x := nI 14) (by decide) (by decide) (off := 597) rfl (by decide) (lc_14 F hX hbl hbA (by omega) hL hJ w hl on)
      | 15, _ => exact lv_tableIn (tgt := 643) hx hb dL_law_33 (x := nI 15) (by decide) (by decide) (off := 610) rfl (by decide) (lc_15 F hX hbl hbA (by omega) hL hJ w hl on)
      | 16, _ => exact lv_tableIn (tgt := 676) hx hb dL_law_33 (x := nI 16) (by decide) (by decide) (off := 643) rfl (by decide) (lc_16 F hX hbl hbA (by omega) hL hJ w hl on)
      | 17, _ => exact lv_tableIn (tgt := 719) hx hb dL_law_33 (x := nI 17) (by decide) (by decide) (off := 686) rfl (by decide) (lc_17 F hX hbl hbA (by omega) hL hJ w hl on)
      | 18, _ => exact lv_tableIn (tgt := 762) hx hb dL_law_33 (x := nI 18) (by decide) (by decide) (off := 729) rfl (by decide) (lc_18 F hX hbl hbA (by omega) hL hJ w hl on)
      | 19, _ => exact lv_tableIn (tgt := 795) hx hb dL_law_33 (x := nI 19) (by decide) (by decide) (off := 762) rfl (by decide) (lc_19 F hX hbl hbA (by omega) hL hJ w hl on)
      | 20, _ => exact lv_tableIn (tgt := 838) hx hb dL_law_33 (x := nI 20) (by decide) (by decide) (off := 805) rfl (by decide) (lc_20 F hX hbl hbA (by omega) hL hJ w hl on)
      | 21, _ => exact lv_tableIn (tgt := 871) hx hb dL_law_33 (x := nI 21) (by decide) (by decide) (off := 838) rfl (by decide) (lc_21 F hX hbl hbA (by omega) hL hJ w hl on)
      | 22, _ => exact lv_tableIn (tgt := 904) hx hb dL_law_33 (x := nI 22) (by decide) (by decide) (off := 871) rfl (by decide) (lc_22 F hX hbl hbA (by omega) hL hJ w hl on)
      | 23, _ => exact lv_tableIn (tgt := 937) hx hb dL_law_33 (x := nI 23) (by decide) (by decide) (off := 904) rfl (by decide) (lc_23 F hX hbl hbA (by omega) hL hJ w hl on)
      | 24, _ => exact lv_tableIn (tgt := 960) hx hb dL_law_33 (x := nI 24) (by decide) (by decide) (off := 927) rfl (by decide) (lc_24 F hX hbl hbA (by omega) hL hJ w hl on)
      | 25, _ => exact lv_tableIn (tgt := 973) hx hb dL_law_33 (x := nI 25) (by decide) (by decide) (off := 940) rfl (by decide) (lc_25 F hX hbl hbA (by omega) hL hJ w hl on)
      | 26, _ => exact lv_tableIn (tgt := 996) hx hb dL_law_33 (x := nI 26) (by decide) (by decide) (off := 963) rfl (by decide) (lc_26 F hX hbl hbA (by omega) hL hJ w hl on)
      | 27, _ => exact lv_tableIn (tgt := 1019) hx hb dL_law_33 (x := nI 27) (by decide) (by decide) (off := 986) rfl (by decide) (lc_27 F hX hbl hbA (by omega) hL hJ w hl on)
      | 28, _ => exact lv_tableIn (tgt := 1042) hx hb dL_law_33 (x := nI 28) (by decide) (by decide) (off := 1009) rfl (by decide) (lc_28 F hX hbl hbA (by omega) hL hJ w hl on)
      | 29, _ => exact lv_tableOut (tgt := 1065) hx hb dL_law_33 (x := nI 29) (by decide) (by decide) (on M H locs hJ w)
      | 30, _ => exact lv_tableOut (tgt := 1065) hx hb dL_law_33 (x := nI 30) (by decide) (by decide) (on M H locs hJ w)
      | 31, _ => exact lv_tableOut (tgt := 1065) hx hb dL_law_33 (x := nI 31) (by decide) (by decide) (on M H locs hJ w)
      | j + 32, hj => omega
theorem tel_0_x : ∀ j : Nat, j < 3 → (flatC (Jvm.Cond.and given_1 narrow_1))[39 + j]? = some ((Jvm.Cond.eq (.elem (.field (.string "ToneLines$WordReader" 46) "java/lang/String" "value" "[B") (.int (Int32.ofNat j))) (.int (([108, 109, 104] : List Int32).getD j 0)))) := by decide +kernel
theorem tel_0 : ∀ j : Nat, j < 3 → (Jvm.Cond.eq (.elem (.field (.string "ToneLines$WordReader" 46) "java/lang/String" "value" "[B") (.int (Int32.ofNat j))) (.int (([108, 109, 104] : List Int32).getD j 0))) ∈ flatC (Jvm.Cond.and given_1 narrow_1) := fun j hj => List.mem_of_getElem? (tel_0_x j hj)
theorem tel_1_x : ∀ j : Nat, j < 5 → (flatC (Jvm.Cond.and given_1 narrow_1))[46 + j]? = some ((Jvm.Cond.eq (.elem (.field (.string "ToneLines$RuleReader" 65) "java/lang/String" "value" "[B") (.int (Int32.ofNat j))) (.int (([97, 103, 97, 105, 110] : List Int32).getD j 0)))) := by decide +kernel
theorem tel_1 : ∀ j : Nat, j < 5 → (Jvm.Cond.eq (.elem (.field (.string "ToneLines$RuleReader" 65) "java/lang/String" "value" "[B") (.int (Int32.ofNat j))) (.int (([97, 103, 97, 105, 110] : List Int32).getD j 0))) ∈ flatC (Jvm.Cond.and given_1 narrow_1) := fun j hj => List.mem_of_getElem? (tel_1_x j hj)
theorem tel_2_x : ∀ j : Nat, j < 51 → (flatC (Jvm.Cond.and given_1 narrow_1))[56 + j]? = some ((Jvm.Cond.eq (.elem (.field (.string "ToneLines$RuleReader" 75) "java/lang/String" "value" "[B") (.int (Int32.ofNat j))) (.int (([108, 105, 110, 107, 32, 115, 112, 114, 101, 97, 100, 32, 115, 104, 105, 102, 116, 32, 99, 117, 116, 32, 100, 111, 99, 107, 32, 100, 114, 111, 112, 32, 102, 117, 115, 101, 32, 116, 117, 114, 110, 32, 102, 108, 97, 116, 32, 102, 105, 108, 108] : List Int32).getD j 0)))) := by decide +kernel
theorem tel_2 : ∀ j : Nat, j < 51 → (Jvm.Cond.eq (.elem (.field (.string "ToneLines$RuleReader" 75) "java/lang/String" "value" "[B") (.int (Int32.ofNat j))) (.int (([108, 105, 110, 107, 32, 115, 112, 114, 101, 97, 100, 32, 115, 104, 105, 102, 116, 32, 99, 117, 116, 32, 100, 111, 99, 107, 32, 100, 114, 111, 112, 32, 102, 117, 115, 101, 32, 116, 117, 114, 110, 32, 102, 108, 97, 116, 32, 102, 105, 108, 108] : List Int32).getD j 0))) ∈ flatC (Jvm.Cond.and given_1 narrow_1) := fun j hj => List.mem_of_getElem? (tel_2_x j hj)
theorem tel_3_x : ∀ j : Nat, j < 10 → (flatC (Jvm.Cond.and given_1 narrow_1))[113 + j]? = some ((Jvm.Cond.eq (.elem (.field (.string "ToneLines$RuleReader" 95) "java/lang/String" "value" "[B") (.int (Int32.ofNat j))) (.int (([102, 105, 114, 115, 116, 32, 108, 97, 115, 116] : List Int32).getD j 0)))) := by decide +kernel
theorem tel_3 : ∀ j : Nat, j < 10 → (Jvm.Cond.eq (.elem (.field (.string "ToneLines$RuleReader" 95) "java/lang/String" "value" "[B") (.int (Int32.ofNat j))) (.int (([102, 105, 114, 115, 116, 32, 108, 97, 115, 116] : List Int32).getD j 0))) ∈ flatC (Jvm.Cond.and given_1 narrow_1) := fun j hj => List.mem_of_getElem? (tel_3_x j hj)
theorem tel_4_x : ∀ j : Nat, j < 12 → (flatC (Jvm.Cond.and given_1 narrow_1))[130 + j]? = some ((Jvm.Cond.eq (.elem (.field (.string "ToneLines$RuleReader" 97) "java/lang/String" "value" "[B") (.int (Int32.ofNat j))) (.int (([108, 111, 119, 32, 109, 105, 100, 32, 104, 105, 103, 104] : List Int32).getD j 0)))) := by decide +kernel
theorem tel_4 : ∀ j : Nat, j < 12 → (Jvm.Cond.eq (.elem (.field (.string "ToneLines$RuleReader" 97) "java/lang/String" "value" "[B") (.int (Int32.ofNat j))) (.int (([108, 111, 119, 32, 109, 105, 100, 32, 104, 105, 103, 104] : List Int32).getD j 0))) ∈ flatC (Jvm.Cond.and given_1 narrow_1) := fun j hj => List.mem_of_getElem? (tel_4_x j hj)
theorem tel_5_x : ∀ j : Nat, j < 16 → (flatC (Jvm.Cond.and given_1 narrow_1))[150 + j]? = some ((Jvm.Cond.eq (.elem (.field (.string "ToneLines$RuleReader" 99) "java/lang/String" "value" "[B") (.int (Int32.ofNat j))) (.int (([108, 111, 119, 32, 109, 105, 100, 32, 104, 105, 103, 104, 32, 97, 110, 121] : List Int32).getD j 0)))) := by decide +kernel
theorem tel_5 : ∀ j : Nat, j < 16 → (Jvm.Cond.eq (.elem (.field (.string "ToneLines$RuleReader" 99) "java/lang/String" "value" "[B") (.int (Int32.ofNat j))) (.int (([108, 111, 119, 32, 109, 105, 100, 32, 104, 105, 103, 104, 32, 97, 110, 121] : List Int32).getD j 0))) ∈ flatC (Jvm.Cond.and given_1 narrow_1) := fun j hj => List.mem_of_getElem? (tel_5_x j hj)
theorem tel_6_x : ∀ j : Nat, j < 10 → (flatC (Jvm.Cond.and given_1 narrow_1))[175 + j]? = some ((Jvm.Cond.eq (.elem (.field (.string "ToneLines$RuleReader" 101) "java/lang/String" "value" "[B") (.int (Int32.ofNat j))) (.int (([114, 105, 103, 104, 116, 32, 108, 101, 102, 116] : List Int32).getD j 0)))) := by decide +kernel
theorem tel_6 : ∀ j : Nat, j < 10 → (Jvm.Cond.eq (.elem (.field (.string "ToneLines$RuleReader" 101) "java/lang/String" "value" "[B") (.int (Int32.ofNat j))) (.int (([114, 105, 103, 104, 116, 32, 108, 101, 102, 116] : List Int32).getD j 0))) ∈ flatC (Jvm.Cond.and given_1 narrow_1) := fun j hj => List.mem_of_getElem? (tel_6_x j hj)
theorem tel_7_x : ∀ j : Nat, j < 2 → (flatC (Jvm.Cond.and given_1 narrow_1))[195 + j]? = some ((Jvm.Cond.eq (.elem (.field (.string "ToneLines$RuleReader" 103) "java/lang/String" "value" "[B") (.int (Int32.ofNat j))) (.int (([116, 111] : List Int32).getD j 0)))) := by decide +kernel
theorem tel_7 : ∀ j : Nat, j < 2 → (Jvm.Cond.eq (.elem (.field (.string "ToneLines$RuleReader" 103) "java/lang/String" "value" "[B") (.int (Int32.ofNat j))) (.int (([116, 111] : List Int32).getD j 0))) ∈ flatC (Jvm.Cond.and given_1 narrow_1) := fun j hj => List.mem_of_getElem? (tel_7_x j hj)
theorem tel_8_x : ∀ j : Nat, j < 2 → (flatC (Jvm.Cond.and given_1 narrow_1))[208 + j]? = some ((Jvm.Cond.eq (.elem (.field (.string "ToneLines$RuleReader" 87) "java/lang/String" "value" "[B") (.int (Int32.ofNat j))) (.int (([105, 102] : List Int32).getD j 0)))) := by decide +kernel
theorem tel_8 : ∀ j : Nat, j < 2 → (Jvm.Cond.eq (.elem (.field (.string "ToneLines$RuleReader" 87) "java/lang/String" "value" "[B") (.int (Int32.ofNat j))) (.int (([105, 102] : List Int32).getD j 0))) ∈ flatC (Jvm.Cond.and given_1 narrow_1) := fun j hj => List.mem_of_getElem? (tel_8_x j hj)
theorem tel_9_x : ∀ j : Nat, j < 3 → (flatC (Jvm.Cond.and given_1 narrow_1))[222 + j]? = some ((Jvm.Cond.eq (.elem (.field (.string "ToneLines$RuleReader" 105) "java/lang/String" "value" "[B") (.int (Int32.ofNat j))) (.int (([110, 111, 116] : List Int32).getD j 0)))) := by decide +kernel
theorem tel_9 : ∀ j : Nat, j < 3 → (Jvm.Cond.eq (.elem (.field (.string "ToneLines$RuleReader" 105) "java/lang/String" "value" "[B") (.int (Int32.ofNat j))) (.int (([110, 111, 116] : List Int32).getD j 0))) ∈ flatC (Jvm.Cond.and given_1 narrow_1) := fun j hj => List.mem_of_getElem? (tel_9_x j hj)
theorem tel_10_x : ∀ j : Nat, j < 39 → (flatC (Jvm.Cond.and given_1 narrow_1))[238 + j]? = some ((Jvm.Cond.eq (.elem (.field (.string "ToneLines$RuleReader" 107) "java/lang/String" "value" "[B") (.int (Int32.ofNat j))) (.int (([98, 101, 103, 105, 110, 32, 101, 110, 100, 32, 104, 101, 97, 118, 121, 32, 109, 97, 110, 121, 32, 102, 108, 111, 97, 116, 32, 98, 101, 102, 111, 114, 101, 32, 97, 102, 116, 101, 114] : List Int32).getD j 0)))) := by decide +kernel
theorem tel_10 : ∀ j : Nat, j < 39 → (Jvm.Cond.eq (.elem (.field (.string "ToneLines$RuleReader" 107) "java/lang/String" "value" "[B") (.int (Int32.ofNat j))) (.int (([98, 101, 103, 105, 110, 32, 101, 110, 100, 32, 104, 101, 97, 118, 121, 32, 109, 97, 110, 121, 32, 102, 108, 111, 97, 116, 32, 98, 101, 102, 111, 114, 101, 32, 97, 102, 116, 101, 114] : List Int32).getD j 0))) ∈ flatC (Jvm.Cond.and given_1 narrow_1) := fun j hj => List.mem_of_getElem? (tel_10_x j hj)
theorem vk_S1 {len : List Nat} {byt : List (List Int32)} {f g : Nat → Nat} {A : Nat → Prop} {U : State} {H : Heap} (h : vk_S 1 len byt f g A U H) : vk_S 1 len byt (fun _ => f 0) (fun _ => g 0) A U H := ⟨fun i hi => by obtain rfl := Nat.lt_one_iff.mp hi; exact h.1 0 Nat.one_pos, fun i j hi hj _ => (Nat.lt_one_iff.mp hi).trans (Nat.lt_one_iff.mp hj).symm⟩
theorem M0_z {a k : Nat} (h : a ≠ 152) : M0.1 a k = zI 0 := by
  show (if a = 152 then wordsF else fun _ => 0) k = zI 0
  rw [if_neg h]
  rfl
theorem iv_z (a k : Nat) : (iv a k).1 ≤ 0 ∧ 0 ≤ (iv a k).2 := by
  have h2 : ∀ l ∈ ivT, ∀ x ∈ l, x.1 ≤ 0 ∧ 0 ≤ x.2 := by decide +kernel
  unfold iv
  have h3 : ∀ x ∈ ivT.getD a [], x.1 ≤ 0 ∧ 0 ≤ x.2 := by
    intro x hx
    by_cases hl : a < ivT.length
    · rw [List.getD_eq_getElem?_getD, List.getElem?_eq_getElem hl, Option.getD_some] at hx
      exact h2 _ (List.getElem_mem hl) x hx
    · rw [List.getD_eq_getElem?_getD, List.getElem?_eq_none (by omega)] at hx
      cases hx
  generalize ivT.getD a [] = l at h3
  split
  · exact h3 _ (List.mem_singleton.mpr rfl)
  · by_cases hl : k < l.length
    · rw [List.getD_eq_getElem?_getD, List.getElem?_eq_getElem hl, Option.getD_some]
      exact h3 _ (List.getElem_mem hl)
    · rw [List.getD_eq_getElem?_getD, List.getElem?_eq_none (by omega)]
      decide
theorem ivr_z (a k : Nat) : (ivr a k).1 ≤ 0 ∧ 0 ≤ (ivr a k).2 := by
  have h2 : ∀ l ∈ ivrT, ∀ x ∈ l, x.1 ≤ 0 ∧ 0 ≤ x.2 := by decide +kernel
  unfold ivr
  split
  · exact wiv_0 k
  · split
    · exact wiv_0 _
    · have h3 : ∀ x ∈ ivrT.getD (a - 146) [], x.1 ≤ 0 ∧ 0 ≤ x.2 := by
        intro x hx
        by_cases hl : a - 146 < ivrT.length
        · rw [List.getD_eq_getElem?_getD, List.getElem?_eq_getElem hl, Option.getD_some] at hx
          exact h2 _ (List.getElem_mem hl) x hx
        · rw [List.getD_eq_getElem?_getD, List.getElem?_eq_none (by omega)] at hx
          cases hx
      generalize ivrT.getD (a - 146) [] = l at h3
      split
      · exact h3 _ (List.mem_singleton.mpr rfl)
      · by_cases hl : k < l.length
        · rw [List.getD_eq_getElem?_getD, List.getElem?_eq_getElem hl, Option.getD_some]
          exact h3 _ (List.getElem_mem hl)
        · rw [List.getD_eq_getElem?_getD, List.getElem?_eq_none (by omega)]
          decide
theorem wF_in : ∀ k : Nat, k < 147 → wordsF k = zI (wdT.getD k 0) := by decide +kernel
set_option maxRecDepth 4000 in
theorem wF_out {k : Nat} (h : 147 ≤ k) : wordsF k = zI 0 := by
  unfold wordsF
  repeat rw [upd_ne (by omega)]
  rfl
theorem wF_rg (k : Nat) : ∃ z : Int, -128 ≤ z ∧ z ≤ 127 ∧ wordsF k = zI z := by
  by_cases h : k < 147
  · have h1 := wd_N k h
    exact ⟨wdT.getD k 0, by omega, by omega, wF_in k h⟩
  · exact ⟨0, by decide, by decide, wF_out (by omega)⟩
theorem NCw_z {g : Nat → Int32} (h : g 0 = zI 0) : NCw g := by
  intro t u i j htu hn hi hj h2 h3
  obtain ⟨n, e, hu, hn⟩ := hn
  rw [h] at e
  have := (zI_eq (a := 0) (b := (n : Int)) (by constructor <;> omega) (by constructor <;> omega)).mp e
  omega
theorem M0_ok : Jq M0 0 0 := by
  refine ⟨fun a k ha => ⟨0, (iv_z a k).1, (iv_z a k).2, M0_z (by omega)⟩, ⟨fun a k ha => ?_, ⟨⟨NCw_z (M0_z (by decide)), NCw_z (M0_z (by decide)), NCw_z (M0_z (by decide))⟩, fun i hi => NCw_z (M0_z (by decide)), fun r hr h8 => ?_⟩, fun k hk => ?_⟩, M0_z (by decide), M0_z (by decide), by omega, by omega⟩
  · by_cases h : a = 152
    · subst h
      exact wF_rg k
    · exact ⟨0, (ivr_z a k).1, (ivr_z a k).2, M0_z h⟩
  · rw [M0_z (by decide)] at h8
    have := (zI_eq (a := 0) (b := 8) (by constructor <;> omega) (by constructor <;> omega)).mp h8
    omega
  · exact wF_in k hk
def fw0 : Fw := (0, 0, 0, (0, fun _ => 0, fun _ => 0))
theorem M0_J : Jx M0 := by
  have hok : okW 0 ((0, fun _ => 0, fun _ => 0) : Wo) := ⟨by decide, by decide, fun k hk => absurd hk (Nat.not_lt_zero k)⟩
  refine ⟨fun _ => 0, 0, fun _ _ => 0, 0, fw0, fun _ => fw0, 0, fw0, fun _ => fw0, ⟨⟨M0_ok.1, M0_ok.2.1, isTc_0 M0_ok.2.2.1, isTr_0 M0_ok.2.2.2.1, ⟨by decide, fun _ => Nat.zero_lt_succ 255⟩, ⟨by decide, fun _ => Nat.zero_lt_succ 255⟩⟩, ⟨0, ?_⟩, ?_⟩, alF.rf, fun j hj => absurd hj (Nat.not_lt_zero j)⟩
  · refine ⟨⟨M0_z (by decide), by decide, fun j hj => absurd hj (Nat.not_lt_zero j)⟩, ⟨M0_z (by decide), Nat.le_refl 0, fun i hi => ?_, fun j hj => absurd hj (Nat.not_lt_zero j)⟩, 0, M0_z (by decide), by decide, M0_z (by decide), by decide, fun j hj => absurd hj (Nat.not_lt_zero j)⟩
    obtain rfl : i = 0 := by omega
    exact ⟨⟨M0_z (by decide), M0_z (by decide), M0_z (by decide), M0_z (by decide), fun k hk => absurd hk (Nat.not_lt_zero k), fun k hk => absurd hk (Nat.not_lt_zero k)⟩, hok, by decide, by decide⟩
  · exact ⟨⟨by decide, fun j hj => absurd hj (Nat.not_lt_zero j)⟩, M0_z (by decide), ⟨⟨M0_z (by decide), M0_z (by decide), M0_z (by decide), M0_z (by decide), fun k hk => absurd hk (Nat.not_lt_zero k), fun k hk => absurd hk (Nat.not_lt_zero k)⟩, hok, by decide, by decide⟩, M0_z (by decide), by decide, fun j hj => absurd hj (Nat.not_lt_zero j)⟩
set_option maxHeartbeats 4000000 in
set_option maxRecDepth 40000 in
theorem whole_start {p : Program} {e : Env} {s : State} {m : MethodId} {below : List Frame} {meth : Method} {c : Code} (l : Launch) (hflags : l.flags = flags0) {b L : Nat} {xs : Nat → Int32} (hL : L ≤ 3072) (C0 : lw_At p s m meth c b L xs) : W p l e room_1 s m #[Value.ref b] below meth c s.heap [] 0 0 (lw_Z below #[Value.ref b] s) (entryFrame m ([Value.ref b] : List Value).toArray 4) := by
  obtain ⟨hx, hb, hr, hml, hown, hts, hX, hbl, hlocks, hgv⟩ := id C0
  have htb : ∀ w ∈ TB, w.before #[Value.ref b] s = true := fun w hw => hts w (List.mem_filter.mp hw).1
  have F : CallFix p m c code 4 s #[Value.ref b] TB RL := ⟨hx, hb, hml, hown, htb⟩
  obtain ⟨B, hB⟩ : ∃ B, B = s.heap.size := ⟨_, rfl⟩
  have hs := flat_of_before _ hgv
  obtain ⟨kS0, vS0, hS0, eS0⟩ := vk_Sof (args := #[Value.ref b]) (s := s) (N := 1) (tm := fun _ => .string "ToneLines$WordReader" 46) (len := [3]) (byt := [[108, 109, 104]]) (A := fun q => B ≤ q) (by decide) (fun i hi => hs _ (List.mem_of_getElem? (i := 35) (by decide +kernel))) (fun i hi => hs _ (List.mem_of_getElem? (i := 36) (by decide +kernel))) (fun i hi => hs _ (List.mem_of_getElem? (i := 37) (by decide +kernel))) (fun i hi => by obtain rfl := Nat.lt_one_iff.mp hi; exact hs _ (List.mem_of_getElem? (i := 38) (by decide +kernel))) (fun i hi j hj => by obtain rfl := Nat.lt_one_iff.mp hi; exact hs _ (tel_0 j hj)) (fun i j hi hj h => absurd ((Nat.lt_one_iff.mp hi).trans (Nat.lt_one_iff.mp hj).symm) h) (fun a ha => by omega)
  obtain ⟨kS1, vS1, hS1, eS1⟩ := vk_Sof (args := #[Value.ref b]) (s := s) (N := 1) (tm := fun _ => .string "ToneLines$RuleReader" 65) (len := [5]) (byt := [[97, 103, 97, 105, 110]]) (A := fun q => B ≤ q) (by decide) (fun i hi => hs _ (List.mem_of_getElem? (i := 42) (by decide +kernel))) (fun i hi => hs _ (List.mem_of_getElem? (i := 43) (by decide +kernel))) (fun i hi => hs _ (List.mem_of_getElem? (i := 44) (by decide +kernel))) (fun i hi => by obtain rfl := Nat.lt_one_iff.mp hi; exact hs _ (List.mem_of_getElem? (i := 45) (by decide +kernel))) (fun i hi j hj => by obtain rfl := Nat.lt_one_iff.mp hi; exact hs _ (tel_1 j hj)) (fun i j hi hj h => absurd ((Nat.lt_one_iff.mp hi).trans (Nat.lt_one_iff.mp hj).symm) h) (fun a ha => by omega)
  obtain ⟨kS2, vS2, hS2, eS2⟩ := vk_Sof (args := #[Value.ref b]) (s := s) (N := 1) (tm := fun _ => .string "ToneLines$RuleReader" 75) (len := [51]) (byt := [[108, 105, 110, 107, 32, 115, 112, 114, 101, 97, 100, 32, 115, 104, 105, 102, 116, 32, 99, 117, 116, 32, 100, 111, 99, 107, 32, 100, 114, 111, 112, 32, 102, 117, 115, 101, 32, 116, 117, 114, 110, 32, 102, 108, 97, 116, 32, 102, 105, 108, 108]]) (A := fun q => B ≤ q) (by decide) (fun i hi => hs _ (List.mem_of_getElem? (i := 52) (by decide +kernel))) (fun i hi => hs _ (List.mem_of_getElem? (i := 53) (by decide +kernel))) (fun i hi => hs _ (List.mem_of_getElem? (i := 54) (by decide +kernel))) (fun i hi => by obtain rfl := Nat.lt_one_iff.mp hi; exact hs _ (List.mem_of_getElem? (i := 55) (by decide +kernel))) (fun i hi j hj => by obtain rfl := Nat.lt_one_iff.mp hi; exact hs _ (tel_2 j hj)) (fun i j hi hj h => absurd ((Nat.lt_one_iff.mp hi).trans (Nat.lt_one_iff.mp hj).symm) h) (fun a ha => by omega)
  obtain ⟨kS3, vS3, hS3, eS3⟩ := vk_Sof (args := #[Value.ref b]) (s := s) (N := 1) (tm := fun _ => .string "ToneLines$RuleReader" 95) (len := [10]) (byt := [[102, 105, 114, 115, 116, 32, 108, 97, 115, 116]]) (A := fun q => B ≤ q) (by decide) (fun i hi => hs _ (List.mem_of_getElem? (i := 109) (by decide +kernel))) (fun i hi => hs _ (List.mem_of_getElem? (i := 110) (by decide +kernel))) (fun i hi => hs _ (List.mem_of_getElem? (i := 111) (by decide +kernel))) (fun i hi => by obtain rfl := Nat.lt_one_iff.mp hi; exact hs _ (List.mem_of_getElem? (i := 112) (by decide +kernel))) (fun i hi j hj => by obtain rfl := Nat.lt_one_iff.mp hi; exact hs _ (tel_3 j hj)) (fun i j hi hj h => absurd ((Nat.lt_one_iff.mp hi).trans (Nat.lt_one_iff.mp hj).symm) h) (fun a ha => by omega)
  obtain ⟨kS4, vS4, hS4, eS4⟩ := vk_Sof (args := #[Value.ref b]) (s := s) (N := 1) (tm := fun _ => .string "ToneLines$RuleReader" 97) (len := [12]) (byt := [[108, 111, 119, 32, 109, 105, 100, 32, 104, 105, 103, 104]]) (A := fun q => B ≤ q) (by decide) (fun i hi => hs _ (List.mem_of_getElem? (i := 126) (by decide +kernel))) (fun i hi => hs _ (List.mem_of_getElem? (i := 127) (by decide +kernel))) (fun i hi => hs _ (List.mem_of_getElem? (i := 128) (by decide +kernel))) (fun i hi => by obtain rfl := Nat.lt_one_iff.mp hi; exact hs _ (List.mem_of_getElem? (i := 129) (by decide +kernel))) (fun i hi j hj => by obtain rfl := Nat.lt_one_iff.mp hi; exact hs _ (tel_4 j hj)) (fun i j hi hj h => absurd ((Nat.lt_one_iff.mp hi).trans (Nat.lt_one_iff.mp hj).symm) h) (fun a ha => by omega)
  obtain ⟨kS5, vS5, hS5, eS5⟩ := vk_Sof (args := #[Value.ref b]) (s := s) (N := 1) (tm := fun _ => .string "ToneLines$RuleReader" 99) (len := [16]) (byt := [[108, 111, 119, 32, 109, 105, 100, 32, 104, 105, 103, 104, 32, 97, 110, 121]]) (A := fun q => B ≤ q) (by decide) (fun i hi => hs _ (List.mem_of_getElem? (i := 146) (by decide +kernel))) (fun i hi => hs _ (List.mem_of_getElem? (i := 147) (by decide +kernel))) (fun i hi => hs _ (List.mem_of_getElem? (i := 148) (by decide +kernel))) (fun i hi => by obtain rfl := Nat.lt_one_iff.mp hi; exact hs _ (List.mem_of_getElem? (i := 149) (by decide +kernel))) (fun i hi j hj => by obtain rfl := Nat.lt_one_iff.mp hi; exact hs _ (tel_5 j hj)) (fun i j hi hj h => absurd ((Nat.lt_one_iff.mp hi).trans (Nat.lt_one_iff.mp hj).symm) h) (fun a ha => by omega)
  obtain ⟨kS6, vS6, hS6, eS6⟩ := vk_Sof (args := #[Value.ref b]) (s := s) (N := 1) (tm := fun _ => .string "ToneLines$RuleReader" 101) (len := [10]) (byt := [[114, 105, 103, 104, 116, 32, 108, 101, 102, 116]]) (A := fun q => B ≤ q) (by decide) (fun i hi => hs _ (List.mem_of_getElem? (i := 171) (by decide +kernel))) (fun i hi => hs _ (List.mem_of_getElem? (i := 172) (by decide +kernel))) (fun i hi => hs _ (List.mem_of_getElem? (i := 173) (by decide +kernel))) (fun i hi => by obtain rfl := Nat.lt_one_iff.mp hi; exact hs _ (List.mem_of_getElem? (i := 174) (by decide +kernel))) (fun i hi j hj => by obtain rfl := Nat.lt_one_iff.mp hi; exact hs _ (tel_6 j hj)) (fun i j hi hj h => absurd ((Nat.lt_one_iff.mp hi).trans (Nat.lt_one_iff.mp hj).symm) h) (fun a ha => by omega)
  obtain ⟨kS7, vS7, hS7, eS7⟩ := vk_Sof (args := #[Value.ref b]) (s := s) (N := 1) (tm := fun _ => .string "ToneLines$RuleReader" 103) (len := [2]) (byt := [[116, 111]]) (A := fun q => B ≤ q) (by decide) (fun i hi => hs _ (List.mem_of_getElem? (i := 191) (by decide +kernel))) (fun i hi => hs _ (List.mem_of_getElem? (i := 192) (by decide +kernel))) (fun i hi => hs _ (List.mem_of_getElem? (i := 193) (by decide +kernel))) (fun i hi => by obtain rfl := Nat.lt_one_iff.mp hi; exact hs _ (List.mem_of_getElem? (i := 194) (by decide +kernel))) (fun i hi j hj => by obtain rfl := Nat.lt_one_iff.mp hi; exact hs _ (tel_7 j hj)) (fun i j hi hj h => absurd ((Nat.lt_one_iff.mp hi).trans (Nat.lt_one_iff.mp hj).symm) h) (fun a ha => by omega)
  obtain ⟨kS8, vS8, hS8, eS8⟩ := vk_Sof (args := #[Value.ref b]) (s := s) (N := 1) (tm := fun _ => .string "ToneLines$RuleReader" 87) (len := [2]) (byt := [[105, 102]]) (A := fun q => B ≤ q) (by decide) (fun i hi => hs _ (List.mem_of_getElem? (i := 204) (by decide +kernel))) (fun i hi => hs _ (List.mem_of_getElem? (i := 205) (by decide +kernel))) (fun i hi => hs _ (List.mem_of_getElem? (i := 206) (by decide +kernel))) (fun i hi => by obtain rfl := Nat.lt_one_iff.mp hi; exact hs _ (List.mem_of_getElem? (i := 207) (by decide +kernel))) (fun i hi j hj => by obtain rfl := Nat.lt_one_iff.mp hi; exact hs _ (tel_8 j hj)) (fun i j hi hj h => absurd ((Nat.lt_one_iff.mp hi).trans (Nat.lt_one_iff.mp hj).symm) h) (fun a ha => by omega)
  obtain ⟨kS9, vS9, hS9, eS9⟩ := vk_Sof (args := #[Value.ref b]) (s := s) (N := 1) (tm := fun _ => .string "ToneLines$RuleReader" 105) (len := [3]) (byt := [[110, 111, 116]]) (A := fun q => B ≤ q) (by decide) (fun i hi => hs _ (List.mem_of_getElem? (i := 218) (by decide +kernel))) (fun i hi => hs _ (List.mem_of_getElem? (i := 219) (by decide +kernel))) (fun i hi => hs _ (List.mem_of_getElem? (i := 220) (by decide +kernel))) (fun i hi => by obtain rfl := Nat.lt_one_iff.mp hi; exact hs _ (List.mem_of_getElem? (i := 221) (by decide +kernel))) (fun i hi j hj => by obtain rfl := Nat.lt_one_iff.mp hi; exact hs _ (tel_9 j hj)) (fun i j hi hj h => absurd ((Nat.lt_one_iff.mp hi).trans (Nat.lt_one_iff.mp hj).symm) h) (fun a ha => by omega)
  obtain ⟨kS10, vS10, hS10, eS10⟩ := vk_Sof (args := #[Value.ref b]) (s := s) (N := 1) (tm := fun _ => .string "ToneLines$RuleReader" 107) (len := [39]) (byt := [[98, 101, 103, 105, 110, 32, 101, 110, 100, 32, 104, 101, 97, 118, 121, 32, 109, 97, 110, 121, 32, 102, 108, 111, 97, 116, 32, 98, 101, 102, 111, 114, 101, 32, 97, 102, 116, 101, 114]]) (A := fun q => B ≤ q) (by decide) (fun i hi => hs _ (List.mem_of_getElem? (i := 234) (by decide +kernel))) (fun i hi => hs _ (List.mem_of_getElem? (i := 235) (by decide +kernel))) (fun i hi => hs _ (List.mem_of_getElem? (i := 236) (by decide +kernel))) (fun i hi => by obtain rfl := Nat.lt_one_iff.mp hi; exact hs _ (List.mem_of_getElem? (i := 237) (by decide +kernel))) (fun i hi j hj => by obtain rfl := Nat.lt_one_iff.mp hi; exact hs _ (tel_10 j hj)) (fun i j hi hj h => absurd ((Nat.lt_one_iff.mp hi).trans (Nat.lt_one_iff.mp hj).symm) h) (fun a ha => by omega)
  obtain ⟨c0, i0, hK0⟩ := u_known (C := RX0) (T := TX0) (N := 8) (n := 8) htb inT0 (htb _ tb_746)
  obtain ⟨c1, i1, hK1⟩ := u_known (C := RX1) (T := TX1) (N := 1) (n := 1) htb inT1 (htb _ tb_749)
  obtain ⟨c2, i2, hK2⟩ := u_known (C := RX2) (T := TX2) (N := 3) (n := 3) htb inT2 (htb _ tb_761)
  obtain ⟨c3, i3, hK3⟩ := u_known (C := RX3) (T := TX3) (N := 7) (n := 7) htb inT3 (htb _ tb_767)
  obtain ⟨c4, i4, hK4⟩ := u_known (C := RX4) (T := TX4) (N := 1) (n := 1) htb inT4 (htb _ tb_739)
  obtain ⟨c5, i5, hK5⟩ := u_known (C := RX5) (T := TX5) (N := 6) (n := 6) htb inT5 (htb _ tb_736)
  obtain ⟨c6, i6, hK6⟩ := u_known (C := RX6) (T := TX6) (N := 4) (n := 4) htb inT6 (htb _ tb_774)
  obtain ⟨c7, i7, hK7⟩ := u_known (C := RX7) (T := TX7) (N := 2) (n := 2) htb inT7 (htb _ tb_779)
  obtain ⟨c8, i8, hK8⟩ := u_known (C := RX8) (T := TX8) (N := 2) (n := 2) htb inT8 (htb _ tb_726)
  obtain ⟨c9, i9, hK9⟩ := u_known (C := RX9) (T := TX9) (N := 6) (n := 6) htb inT9 (htb _ tb_754)
  obtain ⟨c10, i10, hK10⟩ := u_known (C := RX10) (T := TX10) (N := 2) (n := 2) htb inT10 (htb _ tb_731)
  obtain ⟨c11, i11, hK11⟩ := u_known (C := RX11) (T := TX11) (N := 10) (n := 10) htb inT11 (htb _ tb_786)
  obtain ⟨c12, i12, hK12⟩ := u_known (C := RX12) (T := TX12) (N := 27) (n := 27) htb inT12 (htb _ tb_790)
  obtain ⟨dC, dI, hD0, hD1, hKc⟩ : ∃ (dC : Nat → ClassId) (dI : Nat → Nat → Nat), (∀ i, dI 200 i = (if i = 0 then kS0 0 else if i = 1 then kS1 0 else if i = 2 then kS2 0 else if i = 3 then kS3 0 else if i = 4 then kS4 0 else if i = 5 then kS5 0 else if i = 6 then kS6 0 else if i = 7 then kS7 0 else if i = 8 then kS8 0 else if i = 9 then kS9 0 else kS10 0)) ∧ (∀ i, dI 201 i = (if i = 0 then vS0 0 else if i = 1 then vS1 0 else if i = 2 then vS2 0 else if i = 3 then vS3 0 else if i = 4 then vS4 0 else if i = 5 then vS5 0 else if i = 6 then vS6 0 else if i = 7 then vS7 0 else if i = 8 then vS8 0 else if i = 9 then vS9 0 else vS10 0)) ∧ ∀ (k : Nat) (q : vw_C), vwCl[k]? = some q → u_Kn s q.1 q.2.1 q.2.2 (dC k) (dI k) := by
    refine ⟨fun k => if k = 0 then c0 else if k = 1 then c1 else if k = 2 then c2 else if k = 3 then c3 else if k = 4 then c4 else if k = 5 then c5 else if k = 6 then c6 else if k = 7 then c7 else if k = 8 then c8 else if k = 9 then c9 else if k = 10 then c10 else if k = 11 then c11 else c12, fun k => if k = 0 then i0 else if k = 1 then i1 else if k = 2 then i2 else if k = 3 then i3 else if k = 4 then i4 else if k = 5 then i5 else if k = 6 then i6 else if k = 7 then i7 else if k = 8 then i8 else if k = 9 then i9 else if k = 10 then i10 else if k = 11 then i11 else if k = 200 then (fun i => if i = 0 then kS0 0 else if i = 1 then kS1 0 else if i = 2 then kS2 0 else if i = 3 then kS3 0 else if i = 4 then kS4 0 else if i = 5 then kS5 0 else if i = 6 then kS6 0 else if i = 7 then kS7 0 else if i = 8 then kS8 0 else if i = 9 then kS9 0 else kS10 0) else if k = 201 then (fun i => if i = 0 then vS0 0 else if i = 1 then vS1 0 else if i = 2 then vS2 0 else if i = 3 then vS3 0 else if i = 4 then vS4 0 else if i = 5 then vS5 0 else if i = 6 then vS6 0 else if i = 7 then vS7 0 else if i = 8 then vS8 0 else if i = 9 then vS9 0 else vS10 0) else i12, fun i => rfl, fun i => rfl, ?_⟩
    intro k q hq
    match k, hq with
    | 0, hq => cases hq; exact hK0
    | 1, hq => cases hq; exact hK1
    | 2, hq => cases hq; exact hK2
    | 3, hq => cases hq; exact hK3
    | 4, hq => cases hq; exact hK4
    | 5, hq => cases hq; exact hK5
    | 6, hq => cases hq; exact hK6
    | 7, hq => cases hq; exact hK7
    | 8, hq => cases hq; exact hK8
    | 9, hq => cases hq; exact hK9
    | 10, hq => cases hq; exact hK10
    | 11, hq => cases hq; exact hK11
    | 12, hq => cases hq; exact hK12
    | k + 13, hq => simp [vwCl] at hq
  obtain ⟨yB, kB, mB, aB1, aB2, aB3⟩ := Cond.arrayClass_spec (htb _ tb_728)
  obtain ⟨yC, kC, mC, aC1, aC2, aC3⟩ := Cond.arrayClass_spec (htb _ tb_781)
  obtain ⟨yI, kI, mI, aI1, aI2, aI3⟩ := Cond.arrayClass_spec (htb _ tb_741)
  obtain ⟨yJ, kJ, mJ, aJ1, aJ2, aJ3⟩ := Cond.arrayClass_spec (htb _ tb_770)
  have oR : va_AO "ToneLines$Rule" s := va_AO.of (hts _ (List.mem_append_right _ (tc1 (List.mem_of_getElem? (i := 68) rfl))))
  obtain ⟨mR, yR, kR, aR1, aR2, aR3, aR4, aR5⟩ := Cond.arrayOver_spec oR
  have oW : va_AO "ToneLines$Word" s := va_AO.of (hts _ (List.mem_append_right _ (tc1 (List.mem_of_getElem? (i := 122) rfl))))
  obtain ⟨mW, yW, kW, aW1, aW2, aW3, aW4, aW5⟩ := Cond.arrayOver_spec oW
  obtain ⟨cy, hcy⟩ : ∃ cy : Nat → ClassId, cy = fun k => if k = 0 then yB else if k = 1 then yC else if k = 2 then yI else if k = 3 then yJ else if k = 4 then yR else yW := ⟨_, rfl⟩
  have hK : va_K (dC, dI) vwCl (tys cy) s := by
    refine ⟨hKc, fun k q hq => ?_⟩
    subst hcy
    match k, hq with
    | 0, hq => cases hq; exact ⟨fun N z => ⟨(fun k h => by cases h), kB, aB2, mB, aB3⟩, aB1⟩
    | 1, hq => cases hq; exact ⟨fun N z => ⟨(fun k h => by cases h), kC, aC2, mC, aC3⟩, aC1⟩
    | 2, hq => cases hq; exact ⟨fun N z => ⟨(fun k h => by cases h), kI, aI2, mI, aI3⟩, aI1⟩
    | 3, hq => cases hq; exact ⟨fun N z => ⟨(fun k h => by cases h), kJ, aJ2, mJ, aJ3⟩, aJ1⟩
    | 4, hq => cases hq; exact ⟨fun N z => ⟨(fun k h => by cases h), kR, aR3, mR, aR4⟩, kR, mR, aR3, aR4, aR1, aR5⟩
    | 5, hq => cases hq; exact ⟨fun N z => ⟨(fun k h => by cases h), kW, aW3, mW, aW4⟩, kW, mW, aW3, aW4, aW1, aW5⟩
    | k + 6, hq => simp [tys] at hq
  have hN : Nst s := by
    intro q hq
    refine va_Nw.of rfl (hts _ (List.mem_append_right _ ?_))
    simp only [NST, List.mem_cons, List.not_mem_nil, or_false] at hq
    rcases hq with rfl | rfl | rfl | rfl | rfl | rfl | rfl | rfl | rfl | rfl | rfl | rfl | rfl | rfl | rfl | rfl | rfl | rfl | rfl | rfl
    · exact tc1 (List.mem_of_getElem? (i := 33) rfl)
    · exact tc1 (List.mem_of_getElem? (i := 70) rfl)
    · exact tc1 (List.mem_of_getElem? (i := 111) rfl)
    · exact tc1 (List.mem_of_getElem? (i := 123) rfl)
    · exact tc1 (List.mem_of_getElem? (i := 125) rfl)
    · exact tc1 (List.mem_of_getElem? (i := 209) rfl)
    · exact tc1 (List.mem_of_getElem? (i := 228) rfl)
    · exact tc2 (List.mem_of_getElem? (i := 17) rfl)
    · exact tc2 (List.mem_of_getElem? (i := 22) rfl)
    · exact tc2 (List.mem_of_getElem? (i := 41) rfl)
    · exact tc2 (List.mem_of_getElem? (i := 56) rfl)
    · exact tc2 (List.mem_of_getElem? (i := 235) rfl)
    · exact tc3 (List.mem_of_getElem? (i := 47) rfl)
    · exact tc3 (List.mem_of_getElem? (i := 107) rfl)
    · exact tc4 (List.mem_of_getElem? (i := 12) rfl)
    · exact tc4 (List.mem_of_getElem? (i := 15) rfl)
    · exact tc4 (List.mem_of_getElem? (i := 50) rfl)
    · exact tc4 (List.mem_of_getElem? (i := 51) rfl)
    · exact tc4 (List.mem_of_getElem? (i := 153) rfl)
    · exact tc4 (List.mem_of_getElem? (i := 201) rfl)
  have hSg : Sg (dC, dI) B s s.heap := by
    refine ⟨fun i hi => ?_, va_Zof (hts _ (List.mem_append_right _ (tc2 (List.mem_of_getElem? (i := 138) rfl)))) (hts _ (List.mem_append_right _ (tc1 (List.mem_of_getElem? (i := 14) rfl)))) (va_eqt (hs _ (by decide +kernel))) (fun a ha => by omega), va_Zqof (hts _ (List.mem_append_right _ (tc2 (List.mem_of_getElem? (i := 181) rfl)))) (hts _ (List.mem_append_right _ (tc1 (List.mem_of_getElem? (i := 18) rfl)))) (hs _ (by decide +kernel)) (fun a ha => by omega)⟩
    match i, hi with
    | 0, _ =>
      have e0 : dI 200 0 = kS0 0 := hD0 0
      have e1 : dI 201 0 = vS0 0 := hD1 0
      refine ⟨?_, ?_⟩
      · show vk_R "ToneLines$WordReader" 46 "lmh" (dI 200 0) s
        rw [e0]
        exact vk_R.of (hts _ (List.mem_append_right _ (tc2 (List.mem_of_getElem? (i := 124) rfl)))) (eS0 0 Nat.one_pos)
      · show vk_S 1 [3] [[108, 109, 104]] (fun _ => dI 200 0) (fun _ => dI 201 0) (fun q => B ≤ q) s s.heap
        rw [e0, e1]
        exact vk_S1 hS0
    | 1, _ =>
      have e0 : dI 200 1 = kS1 0 := hD0 1
      have e1 : dI 201 1 = vS1 0 := hD1 1
      refine ⟨?_, ?_⟩
      · show vk_R "ToneLines$RuleReader" 65 "again" (dI 200 1) s
        rw [e0]
        exact vk_R.of (hts _ (List.mem_append_right _ (tc3 (List.mem_of_getElem? (i := 64) rfl)))) (eS1 0 Nat.one_pos)
      · show vk_S 1 [5] [[97, 103, 97, 105, 110]] (fun _ => dI 200 1) (fun _ => dI 201 1) (fun q => B ≤ q) s s.heap
        rw [e0, e1]
        exact vk_S1 hS1
    | 2, _ =>
      have e0 : dI 200 2 = kS2 0 := hD0 2
      have e1 : dI 201 2 = vS2 0 := hD1 2
      refine ⟨?_, ?_⟩
      · show vk_R "ToneLines$RuleReader" 75 "link spread shift cut dock drop fuse turn flat fill" (dI 200 2) s
        rw [e0]
        exact vk_R.of (hts _ (List.mem_append_right _ (tc3 (List.mem_of_getElem? (i := 94) rfl)))) (eS2 0 Nat.one_pos)
      · show vk_S 1 [51] [[108, 105, 110, 107, 32, 115, 112, 114, 101, 97, 100, 32, 115, 104, 105, 102, 116, 32, 99, 117, 116, 32, 100, 111, 99, 107, 32, 100, 114, 111, 112, 32, 102, 117, 115, 101, 32, 116, 117, 114, 110, 32, 102, 108, 97, 116, 32, 102, 105, 108, 108]] (fun _ => dI 200 2) (fun _ => dI 201 2) (fun q => B ≤ q) s s.heap
        rw [e0, e1]
        exact vk_S1 hS2
    | 3, _ =>
      have e0 : dI 200 3 = kS3 0 := hD0 3
      have e1 : dI 201 3 = vS3 0 := hD1 3
      refine ⟨?_, ?_⟩
      · show vk_R "ToneLines$RuleReader" 95 "first last" (dI 200 3) s
        rw [e0]
        exact vk_R.of (hts _ (List.mem_append_right _ (tc3 (List.mem_of_getElem? (i := 108) rfl)))) (eS3 0 Nat.one_pos)
      · show vk_S 1 [10] [[102, 105, 114, 115, 116, 32, 108, 97, 115, 116]] (fun _ => dI 200 3) (fun _ => dI 201 3) (fun q => B ≤ q) s s.heap
        rw [e0, e1]
        exact vk_S1 hS3
    | 4, _ =>
      have e0 : dI 200 4 = kS4 0 := hD0 4
      have e1 : dI 201 4 = vS4 0 := hD1 4
      refine ⟨?_, ?_⟩
      · show vk_R "ToneLines$RuleReader" 97 "low mid high" (dI 200 4) s
        rw [e0]
        exact vk_R.of (hts _ (List.mem_append_right _ (tc3 (List.mem_of_getElem? (i := 109) rfl)))) (eS4 0 Nat.one_pos)
      · show vk_S 1 [12] [[108, 111, 119, 32, 109, 105, 100, 32, 104, 105, 103, 104]] (fun _ => dI 200 4) (fun _ => dI 201 4) (fun q => B ≤ q) s s.heap
        rw [e0, e1]
        exact vk_S1 hS4
    | 5, _ =>
      have e0 : dI 200 5 = kS5 0 := hD0 5
      have e1 : dI 201 5 = vS5 0 := hD1 5
      refine ⟨?_, ?_⟩
      · show vk_R "ToneLines$RuleReader" 99 "low mid high any" (dI 200 5) s
        rw [e0]
        exact vk_R.of (hts _ (List.mem_append_right _ (tc3 (List.mem_of_getElem? (i := 110) rfl)))) (eS5 0 Nat.one_pos)
      · show vk_S 1 [16] [[108, 111, 119, 32, 109, 105, 100, 32, 104, 105, 103, 104, 32, 97, 110, 121]] (fun _ => dI 200 5) (fun _ => dI 201 5) (fun q => B ≤ q) s s.heap
        rw [e0, e1]
        exact vk_S1 hS5
    | 6, _ =>
      have e0 : dI 200 6 = kS6 0 := hD0 6
      have e1 : dI 201 6 = vS6 0 := hD1 6
      refine ⟨?_, ?_⟩
      · show vk_R "ToneLines$RuleReader" 101 "right left" (dI 200 6) s
        rw [e0]
        exact vk_R.of (hts _ (List.mem_append_right _ (tc3 (List.mem_of_getElem? (i := 111) rfl)))) (eS6 0 Nat.one_pos)
      · show vk_S 1 [10] [[114, 105, 103, 104, 116, 32, 108, 101, 102, 116]] (fun _ => dI 200 6) (fun _ => dI 201 6) (fun q => B ≤ q) s s.heap
        rw [e0, e1]
        exact vk_S1 hS6
    | 7, _ =>
      have e0 : dI 200 7 = kS7 0 := hD0 7
      have e1 : dI 201 7 = vS7 0 := hD1 7
      refine ⟨?_, ?_⟩
      · show vk_R "ToneLines$RuleReader" 103 "to" (dI 200 7) s
        rw [e0]
        exact vk_R.of (hts _ (List.mem_append_right _ (tc3 (List.mem_of_getElem? (i := 112) rfl)))) (eS7 0 Nat.one_pos)
      · show vk_S 1 [2] [[116, 111]] (fun _ => dI 200 7) (fun _ => dI 201 7) (fun q => B ≤ q) s s.heap
        rw [e0, e1]
        exact vk_S1 hS7
    | 8, _ =>
      have e0 : dI 200 8 = kS8 0 := hD0 8
      have e1 : dI 201 8 = vS8 0 := hD1 8
      refine ⟨?_, ?_⟩
      · show vk_R "ToneLines$RuleReader" 87 "if" (dI 200 8) s
        rw [e0]
        exact vk_R.of (hts _ (List.mem_append_right _ (tc3 (List.mem_of_getElem? (i := 116) rfl)))) (eS8 0 Nat.one_pos)
      · show vk_S 1 [2] [[105, 102]] (fun _ => dI 200 8) (fun _ => dI 201 8) (fun q => B ≤ q) s s.heap
        rw [e0, e1]
        exact vk_S1 hS8
    | 9, _ =>
      have e0 : dI 200 9 = kS9 0 := hD0 9
      have e1 : dI 201 9 = vS9 0 := hD1 9
      refine ⟨?_, ?_⟩
      · show vk_R "ToneLines$RuleReader" 105 "not" (dI 200 9) s
        rw [e0]
        exact vk_R.of (hts _ (List.mem_append_right _ (tc3 (List.mem_of_getElem? (i := 121) rfl)))) (eS9 0 Nat.one_pos)
      · show vk_S 1 [3] [[110, 111, 116]] (fun _ => dI 200 9) (fun _ => dI 201 9) (fun q => B ≤ q) s s.heap
        rw [e0, e1]
        exact vk_S1 hS9
    | 10, _ =>
      have e0 : dI 200 10 = kS10 0 := hD0 10
      have e1 : dI 201 10 = vS10 0 := hD1 10
      refine ⟨?_, ?_⟩
      · show vk_R "ToneLines$RuleReader" 107 "begin end heavy many float before after" (dI 200 10) s
        rw [e0]
        exact vk_R.of (hts _ (List.mem_append_right _ (tc3 (List.mem_of_getElem? (i := 122) rfl)))) (eS10 0 Nat.one_pos)
      · show vk_S 1 [39] [[98, 101, 103, 105, 110, 32, 101, 110, 100, 32, 104, 101, 97, 118, 121, 32, 109, 97, 110, 121, 32, 102, 108, 111, 97, 116, 32, 98, 101, 102, 111, 114, 101, 32, 97, 102, 116, 101, 114]] (fun _ => dI 200 10) (fun _ => dI 201 10) (fun q => B ≤ q) s s.heap
        rw [e0, e1]
        exact vk_S1 hS10
    | i + 11, hi => exact absurd hi (by show ¬ i + 11 < 11; omega)
  have w : Wn (dC, dI) B cy s s.heap 0 E0f s.heap [] := ⟨hK, fun k q h => by simp [wn] at h, va_S.rf, by omega, hN, ⟨oR, oW⟩, by omega⟩
  have hl := lv_entry ([.ref b]) (n := 4) (Nat.le_of_ble_eq_true rfl)
  rw [lg_entry_eq]
  generalize (lg_sl ([.ref b]) ++ List.replicate (4 - (lg_sl ([.ref b])).length) Slot.unset).toArray = ls at hl ⊢
  have hl : lv_has ls 4 [(0, .ref b)] := hl
  refine n_new F w (C := RX11) (T := TX11) (N := 10) (ci := 11) (fs := [.null, .null, .null, .null, .null, .null, .null, .null, .null, .null]) tyX11 tyX11_ok inT11 tb_785 tb_786 tb_95 rfl nf_11 (Nat.le_of_ble_eq_true rfl) (Nat.le_of_ble_eq_true rfl) (c1 := 1) (s1 := 10) (n1 := 1) rfl rfl rfl dL_law_0 (fun H w => ?_)
  refine lv_dup hx hb dL_law_3 rfl ?_
  refine n_callI F w (b := 0) (As := []) (rest := [.ref (B + 0)]) (n_X11_init_56 up_at) gc_X11_init rfl tb_95 tb_787 tb_788 hs_X11_init ⟨(Nat.le_of_ble_eq_true rfl), (Nat.le_of_ble_eq_true rfl)⟩ hl.1 rfl (Nat.le_of_ble_eq_true rfl) ⟨(Nat.le_of_ble_eq_true rfl), (Nat.le_of_ble_eq_true rfl)⟩ (k1 := 146) (k2 := 3165) rfl rfl dL_law_4 (fun H locs w => ?_)
  refine lv_astore_n (lv' := [(1, .ref (B + 0)), (0, .ref b)]) hx hb dL_law_7 rfl hl (by decide) rfl (fun ls hl => ?_)
  refine n_new F w (C := RX12) (T := TX12) (N := 27) (ci := 12) (fs := [.int 0, .null, .null, .int 0, .null, .int 0, .int 0, .null, .int 0, .int 0, .null, .int 0, .null, .int 0, .int 0, .int 0, .int 0, .null, .null, .null, .int 0, .null, .int 0, .null, .null, .int 0, .int 0]) tyX12 tyX12_ok inT12 tb_789 tb_790 tb_38 rfl nf_12 (Nat.le_of_ble_eq_true rfl) (Nat.le_of_ble_eq_true rfl) (c1 := 147) (s1 := 3192) (n1 := 147) rfl rfl rfl dL_law_8 (fun H w => ?_)
  refine lv_dup hx hb dL_law_11 rfl ?_
  refine n_callI F w (b := 146) (As := []) (rest := [.ref (B + 146)]) (n_X12_init_57 up_at) gc_X12_init rfl tb_38 tb_791 tb_792 hs_X12_init ⟨(Nat.le_of_ble_eq_true rfl), (Nat.le_of_ble_eq_true rfl)⟩ hl.1 rfl (Nat.le_of_ble_eq_true rfl) ⟨(Nat.le_of_ble_eq_true rfl), (Nat.le_of_ble_eq_true rfl)⟩ (k1 := 159) (k2 := 13107) rfl rfl dL_law_12 (fun H locs w => ?_)
  refine lv_astore_n (lv' := [(2, .ref (B + 146)), (1, .ref (B + 0)), (0, .ref b)]) hx hb dL_law_15 rfl hl (by decide) rfl (fun ls hl => ?_)
  refine lv_iconst (v := 0) hx hb dL_law_16 (by decide) ?_
  refine lv_istore_n (lv' := [(3, .int 0), (2, .ref (B + 146)), (1, .ref (B + 0)), (0, .ref b)]) hx hb dL_law_17 rfl hl (by decide) rfl (fun ls hl => ?_)
  have hP : va_P (dC, dI) vwCl (wn B 159 (EF7 B cy)) H := w.2.1
  exact law_loop F hr hlocks hX hbl (by omega) hB hL (L + 1) 0 M0 H locs ls (by omega) (by omega) M0_J ⟨hK, conv_P hP, w.2.2.1, hN, hSg⟩ hl
-- ===== YOUR PART ENDS =====
set_option maxHeartbeats 4000000 in
theorem lw_walk (l : Launch) (hflags : l.flags = flags0) (b : Addr) (xs : List Int32) : MetFree l x (headSpec (Jvm.Cond.code x code maxLocals ret :: tables_1) room_1) (lw_P b xs) (fun _ _ _ _ _ => True) lw_Q := by
  refine MetFree.of_bodyS (code := code) (maxLocals := maxLocals) (ret := ret) (by decide) ?_ ?_
  · intro args s m h hn
    obtain ⟨meth, c, h1, h2, h3, h4, h5, h6, -, -⟩ := Cond.code_spec hn (atoms_spec (ws := Jvm.Cond.code x code maxLocals ret :: tables_1) h _ List.mem_cons_self)
    exact ⟨meth, c, h1, h2, h3, h4, h5, h6⟩
  · intro p e s m args below meth c s₁ B hml0 hP _
    obtain ⟨rfl, hx, hbd, hgv⟩ := hP
    obtain ⟨scr, harrAt, hlist, hof, hsmall⟩ := hx
    obtain ⟨hcb, hkn, -, -⟩ := State.arrayAt?_spec harrAt
    have hown : s.vm.findClass R_law = some m.cls := findClass_of_methodNamed B.named
    have hts0 : ∀ c ∈ (Jvm.Cond.code x code maxLocals ret :: tables_1), c.before #[Value.ref b] s = true := atoms_spec (ws := Jvm.Cond.code x code maxLocals ret :: tables_1) B.pre
    have hts : ∀ w ∈ lw_tbl, w.before #[Value.ref b] s = true := k2_hts_sels lw_privs (fun w hw => hts0 w (List.mem_cons_of_mem _ hw)) lw_privs_ok
    have hml : c.maxLocals = 4 := B.maxLocals_eq (hts0 _ List.mem_cons_self)
    have X₀ : Stand p l e room_1 s m #[Value.ref b] below meth c s₁ [] 0 0 := Stand.of_body B
    have hh0 : s₁.heap = s.heap := by rw [B.state]; rfl
    have hsz : scr.slots.size = xs.length := by rw [← Array.length_toList, hlist, List.length_map]
    have hval : ∀ j : Nat, j < xs.length → scr.slots[j]? = some (.int (xs.getD j 0)) := fun j hj => by
      rw [← Array.getElem?_toList, hlist]
      simp [hj]
    have hbl : b < s.heap.size := (Array.getElem?_eq_some_iff.mp hcb).1
    have hX : va_X b xs.length (fun j => xs.getD j 0) s s.heap := ⟨scr, hcb, hof, hkn, hsz, hval⟩
    have K : W p l e room_1 s m #[Value.ref b] below meth c s₁.heap [] 0 0 (lw_Z below #[Value.ref b] s) (entryFrame m ([Value.ref b] : List Value).toArray 4) := by
      rw [hh0]
      exact whole_start l hflags hbd ⟨B.exec, B.bytes, B.returns, hml, hown, hts, hX, hbl, B.notSynchronized, hgv⟩
    obtain ⟨t, a1, o, b1, b2, b3⟩ := K s₁ rfl X₀
    exact ⟨t, o, a1, b1, b2, b3⟩
theorem lw_pre_spec {args : Array Value} {s : State} (h : (Jvm.Cond.and given_1 narrow_1).before args s = true) (hr : rest_1_c.before args s = true) : ∃ (b : Addr) (xs : List Int32), lw_P b xs args s := by
  have hs := flat_of_before _ h
  have hq := flat_of_before _ hr
  have hc : (Cond.count 1).before args s = true := hs _ (by decide +kernel)
  have harr : (Cond.arrayOf (.arg 0) .int).before args s = true := hs _ (by decide +kernel)
  have hle : (Cond.le (.length (.arg 0)) (.int 3072)).before args s = true := hs _ (by decide +kernel)
  have hlen : (Cond.isInt (.length (.arg 0))).before args s = true := hq _ (by decide +kernel)
  have hall : (Cond.all (.arg 0) (.isInt (.elem (.arg 0) (.index 0)))).before args s = true := hq _ (by decide +kernel)
  obtain ⟨b, xs, hb, hx⟩ := State.ints_of_pre rfl harr hlen hall
  have hsm : xs.length < 2 ^ 31 := hx.choose_spec.2.2.2
  have hev : (Term.length (.arg 0)).eval args s none [] s = some (.int xs.length.toInt32) := hx.length_eval hb
  have hv := Cond.le_ints hev (show (Term.int 3072).eval args s none [] s = some (.int 3072) from rfl)
  have hd : xs.length.toInt32 ≤ 3072 := by
    simpa [Cond.before, Cond.holds, hv] using hle
  have hN : xs.length ≤ 3072 := (Int32.ofNat_le_ofNat hsm (by decide)).mp (show Int32.ofNat xs.length ≤ Int32.ofNat 3072 from hd)
  exact ⟨b, xs, Cond.one_arg hc (show args[0]? = some (.ref b) from hb), hx, hN, h⟩
theorem lw_comes (l : Launch) (hflags : l.flags = flags0) : Comes l x (Jvm.Cond.code x code maxLocals ret :: tables_1) room_1 (fun tb e args s => Calls_1 tb e args s ∧ rest_1 tb e args s ∧ Pre_1 tb e args s)
    (fun _ _ args s o t => lw_Q args s o t) := by
  intro p e ha hc hk s m args below hf hfit hheap happ hpre
  obtain ⟨b, xs, hP⟩ := lw_pre_spec hpre.2.2 hpre.2.1
  obtain ⟨k, o, h1, h2, h3, hQ⟩ := lw_walk l hflags b xs p e ha hc hk s m args below hf ((Spec.applies_iff_loose hf).mp happ).1 hP trivial
  exact ⟨k, o, h1, h2, h3, hQ⟩
theorem lw_frame {s t : State} {o : Outcome} {args : Array Value} (h : Framed s o t [] 600000 7302250) :
    Framed s o t (fieldLocs frame_1_writes args s ++ arrayLocs frame_1_arrays args s ++ staticLocs frame_1_statics s) 600000 7302250 := h
theorem lw_limb (L : Cond) (hL : ∀ (args : Array Value) (s t : State), L.after args s (.returned (some (.int 1))) t = true) :
    ArmFor flags0 classFile x code maxLocals ret World_1 tables_1 room_1 Calls_1 rest_1 Pre_1
      (fun tb e a s o t => postC L tb e a s o t ∧ Framed s o t (fieldLocs frame_1_writes a s ++ arrayLocs frame_1_arrays a s ++ staticLocs frame_1_statics s) 600000 7302250) := by
  intro l hflags _ _ p e ha hc hk s m args below hf hfit hheap happ hpre
  obtain ⟨k, o, h1, h2, h3, rfl, hF⟩ := lw_comes l hflags p e ha hc hk s m args below hf hfit hheap happ hpre
  exact ⟨k, _, h1, h2, h3, hL args s _, lw_frame hF⟩
