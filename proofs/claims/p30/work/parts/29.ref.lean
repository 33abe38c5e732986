-- rows of words kept and given back, rules taken over: intervals alone while they are copied
def IvB (M : Mem) : Prop := (∀ a k, 146 ≤ a ∧ a < 159 → ∃ z : Int, (ivr a k).1 ≤ z ∧ z ≤ (ivr a k).2 ∧ M.1 a k = zI z) ∧ Wds M
theorem IvR.b {M : Mem} (h : IvR M) : IvB M := ⟨h.1, h.2.2⟩
theorem IvB.ld {M : Mem} (h : IvB M) {a k : Nat} {lo hi : Int} (hv : ivr a k = (lo, hi)) (ha : 146 ≤ a ∧ a < 159) : ∃ z : Int, (lo ≤ z ∧ z ≤ hi) ∧ M.1 a k = zI z := by
  obtain ⟨z, h1, h2, h3⟩ := h.1 a k ha
  rw [hv] at h1 h2
  exact ⟨z, ⟨h1, h2⟩, h3⟩
theorem IvB.to {M : Mem} (h : IvB M) {a k : Nat} {lo hi x : Int} (hv : ivr a k = (lo, hi)) (hx : lo ≤ x ∧ x ≤ hi) (hn : a ≠ 152) : IvB (st M a k (zI x)) :=
  ⟨fun b j hb => by
    by_cases h1 : b = a ∧ j = k
    · obtain ⟨rfl, rfl⟩ := h1
      rw [st_at, hv]
      exact ⟨x, hx.1, hx.2, rfl⟩
    · rw [st_ne (by omega)]
      exact h.1 b j hb, h.2.st hn⟩
theorem IvB.cpA {M : Mem} (h : IvB M) {a k b j : Nat} {x : Int} (e : M.1 b j = zI x) (hx : -2147483648 ≤ x ∧ x ≤ 2147483647) (hb : 146 ≤ b ∧ b < 159) (hv : ivr a k = ivr b j) (hn : a ≠ 152) : IvB (st M a k (zI x)) := by
  have hw : ∀ lo hi : Int, (∃ z : Int, lo ≤ z ∧ z ≤ hi ∧ M.1 b j = zI z) → -2147483648 ≤ lo → hi ≤ 2147483647 → lo ≤ x ∧ x ≤ hi := by
    intro lo hi hz h1 h2
    obtain ⟨z, h3, h4, h5⟩ := hz
    have := (zI_eq (a := x) (b := z) (by constructor <;> omega) (by constructor <;> omega)).mp (e.symm.trans h5)
    omega
  by_cases hr : -2147483648 ≤ (ivr a k).1 ∧ (ivr a k).2 ≤ 2147483647
  · refine IvB.to h (lo := (ivr a k).1) (hi := (ivr a k).2) rfl ?_ hn
    refine hw _ _ ?_ hr.1 hr.2
    rw [hv]
    exact h.1 b j hb
  · exfalso
    apply hr
    clear hw hr
    have h1 : ∀ k, -2147483648 ≤ (wiv k).1 ∧ (wiv k).2 ≤ 2147483647 := by
      intro k
      unfold wiv
      split
      · decide
      · split
        · decide
        · split
          · decide
          · split <;> decide
    have h2 : ∀ l ∈ ivrT, ∀ x ∈ l, -2147483648 ≤ x.1 ∧ x.2 ≤ 2147483647 := by decide +kernel
    rw [hv]
    unfold ivr
    split
    · exact h1 j
    · split
      · exact h1 _
      · have h3 : ∀ x ∈ ivrT.getD (b - 146) [], -2147483648 ≤ x.1 ∧ x.2 ≤ 2147483647 := by
          intro x hx
          by_cases hl : b - 146 < ivrT.length
          · rw [List.getD_eq_getElem?_getD, List.getElem?_eq_getElem hl, Option.getD_some] at hx
            exact h2 _ (List.getElem_mem hl) x hx
          · rw [List.getD_eq_getElem?_getD, List.getElem?_eq_none (by omega)] at hx
            cases hx
        generalize ivrT.getD (b - 146) [] = l at h3
        split
        · exact h3 _ (List.mem_singleton.mpr rfl)
        · by_cases hl : j < l.length
          · rw [List.getD_eq_getElem?_getD, List.getElem?_eq_getElem hl, Option.getD_some]
            exact h3 _ (List.getElem_mem hl)
          · rw [List.getD_eq_getElem?_getD, List.getElem?_eq_none (by omega)]
            decide
theorem NCw_cg {g g' : Nat → Int32} (h : NCw g) (e : ∀ k, k < 28 → g' k = g k) : NCw g' := by
  intro t u i j htu hn hi hj h2 h3
  obtain ⟨n, q, hu, hn⟩ := hn
  rw [e 0 (by omega)] at q
  rw [e _ (by omega)] at h2 h3
  exact h t u i j htu ⟨n, q, hu, hn⟩ hi hj h2 h3
theorem IvB.up {S : Nat → Nat → Prop} {M M1 : Mem} (h : IvB M1) (hM : IvR M) (hF : Fr S M1 M) (h7 : NCw (M1.1 147)) (h8 : ∀ k, ¬ S 148 k) (h1 : ∀ k, ¬ S 151 k) (hb : ∀ i, i < 12 → NCw (fun k => M1.1 155 (28 * i + k))) (hk : ∀ r, r < 8 → RKr (M1.1 149) (8 * r)) : IvR M1 :=
  ⟨h.1, ⟨⟨h7, NCw_cg hM.2.1.1.2.1 (fun k _ => hF 148 k (h8 k)), NCw_cg hM.2.1.1.2.2 (fun k _ => hF 151 k (h1 k))⟩, hb, hk⟩, h.2⟩
theorem ivr_cp {o k : Nat} (ho : o % 28 = 0) (hk : k < 28) : ivr 155 (o + k) = ivr 147 k := by
  show (if (155 = 147 ∨ 155 = 148 ∨ 155 = 151) then wiv (o + k) else if 155 = 155 then wiv ((o + k) % 28) else _) = (if (147 = 147 ∨ 147 = 148 ∨ 147 = 151) then wiv k else _)
  rw [if_neg (by decide), if_pos rfl, if_pos (by decide), show (o + k) % 28 = k by omega]
theorem ivr_sh {i k : Nat} (h : k = i + 28) : ivr 155 i = ivr 155 k := by
  subst h
  show (if (155 = 147 ∨ 155 = 148 ∨ 155 = 151) then wiv i else if 155 = 155 then wiv (i % 28) else _) = (if (155 = 147 ∨ 155 = 148 ∨ 155 = 151) then wiv (i + 28) else if 155 = 155 then wiv ((i + 28) % 28) else _)
  rw [if_neg (by decide), if_pos rfl, if_neg (by decide), if_pos rfl, show (i + 28) % 28 = i % 28 by omega]
theorem cp_step {N : Mem} {a b od os s t : Nat} {v z : Int} (hab : a ≠ b) (hv : 0 ≤ v) (hs : s = od + v.toNat) (ht : t = os + v.toNat) (e : N.1 b t = zI z) (h : ∀ j : Nat, (j : Int) < v → N.1 a (od + j) = N.1 b (os + j)) : ∀ j : Nat, (j : Int) < v + 1 → (st N a s (zI z)).1 a (od + j) = (st N a s (zI z)).1 b (os + j) := by
  intro j hj
  have e1 : (st N a s (zI z)).1 b (os + j) = N.1 b (os + j) := st_ne (Or.inl (Ne.symm hab))
  rw [e1]
  by_cases q : (j : Int) < v
  · rw [st_ne (Or.inr (by omega))]
    exact h j q
  · rw [show od + j = s by omega, st_at, show os + j = t by omega, e]
theorem cp_oth {N N0 : Mem} {a od s : Nat} {v z : Int} (hv : 0 ≤ v) (hs : s = od + v.toNat) (h : ∀ i : Nat, i < od ∨ od + v.toNat ≤ i → N.1 a i = N0.1 a i) : ∀ i : Nat, i < od ∨ od + (v + 1).toNat ≤ i → (st N a s (zI z)).1 a i = N0.1 a i := by
  intro i hi
  rw [st_ne (Or.inr (by omega))]
  exact h i (by omega)
theorem sh_step {N M : Mem} {s t : Nat} {v z : Int} (hv : 28 ≤ v) (hs : s = (v - 28).toNat) (ht : t = v.toNat) (e : N.1 155 t = zI z) (h : (∀ i : Nat, (i : Int) + 28 < v → N.1 155 i = M.1 155 (i + 28)) ∧ ∀ i : Nat, v ≤ (i : Int) + 28 → N.1 155 i = M.1 155 i) : (∀ i : Nat, (i : Int) + 28 < v + 1 → (st N 155 s (zI z)).1 155 i = M.1 155 (i + 28)) ∧ ∀ i : Nat, v + 1 ≤ (i : Int) + 28 → (st N 155 s (zI z)).1 155 i = M.1 155 i := by
  refine ⟨fun i hi => ?_, fun i hi => ?_⟩
  · by_cases q : (i : Int) + 28 < v
    · rw [st_ne (Or.inr (by omega))]
      exact h.1 i q
    · rw [show i = s by omega, st_at, ← e, show s + 28 = t by omega]
      exact h.2 t (by omega)
  · rw [st_ne (Or.inr (by omega))]
    exact h.2 i (by omega)
theorem dX12_keeps_0 : decode cX12_keeps 0 = .ok (.aload_n 0, 1) := wdX12_keeps_0
theorem dX12_keeps_1 : decode cX12_keeps 1 = .ok (.getfield 201, 3) := wdX12_keeps_1
theorem dX12_keeps_4 : decode cX12_keeps 4 = .ok (.bipush 12, 2) := wdX12_keeps_4
theorem dX12_keeps_6 : decode cX12_keeps 6 = .ok (.if_icmp .ne 44, 3) := wdX12_keeps_6
theorem dX12_keeps_50 : decode cX12_keeps 50 = .ok (.iconst 0, 1) := wdX12_keeps_50
theorem dX12_keeps_51 : decode cX12_keeps 51 = .ok (.istore_n 1, 1) := wdX12_keeps_51
theorem dX12_keeps_52 : decode cX12_keeps 52 = .ok (.iload_n 1, 1) := wdX12_keeps_52
theorem dX12_keeps_53 : decode cX12_keeps 53 = .ok (.bipush 28, 2) := wdX12_keeps_53
theorem dX12_keeps_55 : decode cX12_keeps 55 = .ok (.if_icmp .ge 29, 3) := wdX12_keeps_55
theorem dX12_keeps_58 : decode cX12_keeps 58 = .ok (.aload_n 0, 1) := wdX12_keeps_58
theorem dX12_keeps_59 : decode cX12_keeps 59 = .ok (.getfield 39, 3) := wdX12_keeps_59
theorem tb_663 : Cond.fieldLink "ToneLinesModel" 39 "ToneLinesModel" "before" "[I" ∈ TB := wtb_279
theorem dX12_keeps_62 : decode cX12_keeps 62 = .ok (.bipush 28, 2) := wdX12_keeps_62
theorem dX12_keeps_64 : decode cX12_keeps 64 = .ok (.aload_n 0, 1) := wdX12_keeps_64
theorem dX12_keeps_65 : decode cX12_keeps 65 = .ok (.getfield 201, 3) := wdX12_keeps_65
theorem dX12_keeps_68 : decode cX12_keeps 68 = .ok (.imul, 1) := wdX12_keeps_68
theorem dX12_keeps_69 : decode cX12_keeps 69 = .ok (.iload_n 1, 1) := wdX12_keeps_69
theorem dX12_keeps_70 : decode cX12_keeps 70 = .ok (.iadd, 1) := wdX12_keeps_70
theorem dX12_keeps_71 : decode cX12_keeps 71 = .ok (.aload_n 0, 1) := wdX12_keeps_71
theorem dX12_keeps_72 : decode cX12_keeps 72 = .ok (.getfield 13, 3) := wdX12_keeps_72
theorem dX12_keeps_75 : decode cX12_keeps 75 = .ok (.iload_n 1, 1) := wdX12_keeps_75
theorem dX12_keeps_76 : decode cX12_keeps 76 = .ok (.iaload, 1) := wdX12_keeps_76
theorem dX12_keeps_77 : decode cX12_keeps 77 = .ok (.iastore, 1) := wdX12_keeps_77
theorem dX12_keeps_78 : decode cX12_keeps 78 = .ok (.iinc 1 1, 3) := wdX12_keeps_78
theorem dX12_keeps_81 : decode cX12_keeps 81 = .ok (.goto (-29), 3) := wdX12_keeps_81
theorem dX12_keeps_84 : decode cX12_keeps 84 = .ok (.aload_n 0, 1) := wdX12_keeps_84
theorem dX12_keeps_85 : decode cX12_keeps 85 = .ok (.dup, 1) := wdX12_keeps_85
theorem dX12_keeps_86 : decode cX12_keeps 86 = .ok (.getfield 201, 3) := wdX12_keeps_86
theorem dX12_keeps_89 : decode cX12_keeps 89 = .ok (.iconst 1, 1) := wdX12_keeps_89
theorem dX12_keeps_90 : decode cX12_keeps 90 = .ok (.iadd, 1) := wdX12_keeps_90
theorem dX12_keeps_91 : decode cX12_keeps 91 = .ok (.putfield 201, 3) := wdX12_keeps_91
theorem dX12_keeps_94 : decode cX12_keeps 94 = .ok (.return_, 1) := wdX12_keeps_94
theorem dX12_keeps_9 : decode cX12_keeps 9 = .ok (.bipush 28, 2) := wdX12_keeps_9
theorem dX12_keeps_11 : decode cX12_keeps 11 = .ok (.istore_n 1, 1) := wdX12_keeps_11
theorem dX12_keeps_12 : decode cX12_keeps 12 = .ok (.iload_n 1, 1) := wdX12_keeps_12
theorem dX12_keeps_13 : decode cX12_keeps 13 = .ok (.sipush 336, 3) := wdX12_keeps_13
theorem dX12_keeps_16 : decode cX12_keeps 16 = .ok (.if_icmp .ge 24, 3) := wdX12_keeps_16
theorem dX12_keeps_19 : decode cX12_keeps 19 = .ok (.aload_n 0, 1) := wdX12_keeps_19
theorem dX12_keeps_20 : decode cX12_keeps 20 = .ok (.getfield 39, 3) := wdX12_keeps_20
theorem dX12_keeps_23 : decode cX12_keeps 23 = .ok (.iload_n 1, 1) := wdX12_keeps_23
theorem dX12_keeps_24 : decode cX12_keeps 24 = .ok (.bipush 28, 2) := wdX12_keeps_24
theorem dX12_keeps_26 : decode cX12_keeps 26 = .ok (.isub, 1) := wdX12_keeps_26
theorem dX12_keeps_27 : decode cX12_keeps 27 = .ok (.aload_n 0, 1) := wdX12_keeps_27
theorem dX12_keeps_28 : decode cX12_keeps 28 = .ok (.getfield 39, 3) := wdX12_keeps_28
theorem dX12_keeps_31 : decode cX12_keeps 31 = .ok (.iload_n 1, 1) := wdX12_keeps_31
theorem dX12_keeps_32 : decode cX12_keeps 32 = .ok (.iaload, 1) := wdX12_keeps_32
theorem dX12_keeps_33 : decode cX12_keeps 33 = .ok (.iastore, 1) := wdX12_keeps_33
theorem dX12_keeps_34 : decode cX12_keeps 34 = .ok (.iinc 1 1, 3) := wdX12_keeps_34
theorem dX12_keeps_37 : decode cX12_keeps 37 = .ok (.goto (-25), 3) := wdX12_keeps_37
theorem dX12_keeps_40 : decode cX12_keeps 40 = .ok (.aload_n 0, 1) := wdX12_keeps_40
theorem dX12_keeps_41 : decode cX12_keeps 41 = .ok (.dup, 1) := wdX12_keeps_41
theorem dX12_keeps_42 : decode cX12_keeps 42 = .ok (.getfield 201, 3) := wdX12_keeps_42
theorem dX12_keeps_45 : decode cX12_keeps 45 = .ok (.iconst 1, 1) := wdX12_keeps_45
theorem dX12_keeps_46 : decode cX12_keeps 46 = .ok (.isub, 1) := wdX12_keeps_46
theorem dX12_keeps_47 : decode cX12_keeps 47 = .ok (.putfield 201, 3) := wdX12_keeps_47
set_option maxRecDepth 4000 in
theorem q_X12_keeps {l : Launch} {D : va_G} {B : Nat} {cy : Nat → ClassId} {M : Mem} {ac : Int} (hgac : M.1 146 20 = zI ac) (hac : 0 ≤ ac ∧ ac ≤ 12) (hI : IvR M) : Cv l D B cy yX12_keeps cX12_keeps 2 0 0 [.ref (B + 146)] M (fun M1 => IvR M1 ∧ Fr (fun b9 k9 => (b9 = 146 ∧ k9 = 20) ∨ b9 = 155) M1 M) := by
  refine s_anyQ (by decide) (Nat.le_of_ble_eq_true rfl) ?_
  intro p e s m args below meth c ls Q F hr hlocks hQ w hl
  have F : CallFix p m c cX12_keeps 2 s args TB RX12 := F
  have hx := F.1
  have hb := F.2.1
  have hl : lv_has ls 2 [(0, .ref (B + 146))] := hl
  have hI0 := hI
  replace hI : IvB M := hI.b
  have hF : Fr (fun b9 k9 => (b9 = 146 ∧ k9 = 20) ∨ b9 = 155) M M := Fr.rf
  refine lv_aload_n hx hb dX12_keeps_0 rfl (lv_at hl 0 rfl) ?_
  refine f_12_20 F w (a := 146) rfl tb_650 dX12_keeps_1 ?_
  refine r_val (v := zI ac) (hgac) ?_
  refine lv_bipush (v := zI 12) hx hb dX12_keeps_4 (by decide) ?_
  refine z_icmp_ne (tgt := 50) hx hb (by omega) (by omega) dX12_keeps_6 (by decide) (fun c1 => ?_) (fun c1 => ?_)
  · refine lv_iconst (v := zI 0) hx hb dX12_keeps_50 rfl ?_
    refine lv_istore_n (lv' := [(1, .int (zI 0)), (0, .ref (B + 146))]) hx hb dX12_keeps_51 rfl hl (by decide) rfl (fun ls hl => ?_)
    have lp52 : ∀ (f : Nat) (v1_52 : Int)  (NL52 : Mem), (0 ≤ v1_52 ∧ v1_52 ≤ 28) → NL52.1 146 20 = zI ac → (∀ j : Nat, (j : Int) < v1_52 → NL52.1 155 (Int.toNat (28 * ac) + j) = NL52.1 147 (0 + j)) → (∀ i : Nat, i < Int.toNat (28 * ac) ∨ Int.toNat (28 * ac) + (v1_52).toNat ≤ i → NL52.1 155 i = (Prod.fst M) 155 i) → IvB NL52 → Fr (fun b9 k9 => (b9 = 146 ∧ k9 = 20) ∨ b9 = 155) NL52 M → (Int.toNat (28 - v1_52) < f) → ∀ (H : Heap) (locs : List Loc) (ls : Array Slot), Wd D B cy s s.heap NL52 H locs → lv_has ls 2 [(1, .int (zI v1_52)), (0, .ref (B + 146))] → W p l e (rmm 0 0) s m args below meth c H locs 0 0 Q (F0 m 52 ls []) := by
      intro f
      induction f with
      | zero => intros; omega
      | succ f ih52 =>
        intro v1_52  NL52 iv1_52 eg146_20_52 y52_0 y52_1 hIL52 hFL52 hf52 H locs ls w hl
        refine lv_iload_n hx hb dX12_keeps_52 rfl (lv_at hl 0 rfl) ?_
        refine lv_bipush (v := zI 28) hx hb dX12_keeps_53 (by decide) ?_
        refine z_icmp_ge (tgt := 84) hx hb (by omega) (by omega) dX12_keeps_55 (by decide) (fun c2 => ?_) (fun c2 => ?_)
        · refine lv_aload_n hx hb dX12_keeps_84 rfl (lv_at hl 1 rfl) ?_
          refine lv_dup hx hb dX12_keeps_85 rfl ?_
          refine f_12_20 F w (a := 146) rfl tb_650 dX12_keeps_86 ?_
          refine r_val (v := zI ac) (eg146_20_52) ?_
          refine lv_iconst (v := zI 1) hx hb dX12_keeps_89 rfl ?_
          refine z_iadd (z := (ac + 1)) hx hb dX12_keeps_90 (by omega) ?_
          refine u_12_20 F w (a := 146) rfl tb_650 dX12_keeps_91 (fun H locs w => ?_)
          have hf9 : Fr (fun b9 k9 => (b9 = 146 ∧ k9 = 20) ∨ b9 = 155) (st NL52 146 20 (zI (ac + 1))) M := (Fr.to hFL52 (by first | decide | (dsimp only; first | done | decide | omega) | omega))
          have hb9 : IvB (st NL52 146 20 (zI (ac + 1))) := (IvB.to hIL52 (a := 146) (k := 20) (x := (ac + 1)) (show ivr 146 20 = (0, 12) from rfl) (by omega) (by decide))
          have h79 : ∀ k9, (Prod.fst (st NL52 146 20 (zI (ac + 1)))) 147 k9 = M.1 147 k9 := fun k9 => hf9 147 k9 (by first | decide | (dsimp only; first | done | decide | omega) | omega)
          have hn9 : ∀ i, i < 12 → NCw (fun k => (Prod.fst (st NL52 146 20 (zI (ac + 1)))) 155 (28 * i + k)) := by
            intro i hi
            by_cases q9 : (i : Int) = ac
            · refine NCw_cg hI0.2.1.1.1 (fun k hk => ?_)
              have z9 := y52_0 k (by omega)
              rw [show Int.toNat (28 * ac) + k = 28 * i + k by omega, show 0 + k = k by omega] at z9
              rw [← h79 k]
              rw [st_ne (Or.inl (by decide)), st_ne (Or.inl (by decide))]
              exact z9
            · refine NCw_cg (hI0.2.1.2.1 i hi) (fun k hk => ?_)
              rw [st_ne (Or.inl (by decide))]
              exact y52_1 _ (by omega)
          rw [hQ]
          exact e_v F w hr hlocks ⟨(IvB.up hb9 hI0 hf9 (NCw_cg hI0.2.1.1.1 (fun k9 _ => h79 k9)) (fun k9 => by first | decide | (dsimp only; first | done | decide | omega) | omega) (fun k9 => by first | decide | (dsimp only; first | done | decide | omega) | omega) hn9 (fun r9 hr9 => by have h49 : (Prod.fst (st NL52 146 20 (zI (ac + 1)))) 149 = M.1 149 := funext fun k9 => hf9 149 k9 (by first | decide | (dsimp only; first | done | decide | omega) | omega); rw [h49]; exact hI0.2.1.2.2 r9 hr9)), (Fr.to hFL52 (by first | decide | (dsimp only; first | done | decide | omega) | omega))⟩ dX12_keeps_94
        · refine lv_aload_n hx hb dX12_keeps_58 rfl (lv_at hl 1 rfl) ?_
          refine f_12_19 F w (a := 146) rfl tb_663 dX12_keeps_59 ?_
          refine lv_bipush (v := zI 28) hx hb dX12_keeps_62 (by decide) ?_
          refine lv_aload_n hx hb dX12_keeps_64 rfl (lv_at hl 1 rfl) ?_
          refine f_12_20 F w (a := 146) rfl tb_650 dX12_keeps_65 ?_
          refine r_val (v := zI ac) (eg146_20_52) ?_
          refine z_imul (z := (28 * ac)) hx hb dX12_keeps_68 (by omega) ?_
          refine lv_iload_n hx hb dX12_keeps_69 rfl (lv_at hl 0 rfl) ?_
          refine z_iadd (z := ((28 * ac) + v1_52)) hx hb dX12_keeps_70 (by omega) ?_
          refine lv_aload_n hx hb dX12_keeps_71 rfl (lv_at hl 1 rfl) ?_
          refine f_12_1 F w (a := 146) rfl tb_580 dX12_keeps_72 ?_
          refine lv_iload_n hx hb dX12_keeps_75 rfl (lv_at hl 0 rfl) ?_
          refine g_iald F w (a := 147) rfl (j := (Int.toNat v1_52)) (ix_z (by omega) (by omega)) (by omega) dX12_keeps_76 ?_
          obtain ⟨z3, bz3, ez3⟩ := rg_ex (Prod.fst NL52 147 (Int.toNat v1_52))
          refine r_val ez3 ?_
          refine g_iast F w (a := 155) rfl (j := (Int.toNat ((28 * ac) + v1_52))) (ix_z (by omega) (by omega)) (by omega) dX12_keeps_77 (fun H locs w => ?_)
          refine z_iinc (v := (v1_52 + 1)) (lv' := [(1, .int (zI (v1_52 + 1))), (0, .ref (B + 146))]) hx hb dX12_keeps_78 hl (k := 0) rfl (by omega) (by decide) rfl (fun ls hl => ?_)
          refine lv_goto (tgt := 52) hx hb dX12_keeps_81 (by decide) ?_
          exact ih52 (v1_52 + 1) (st NL52 155 (Int.toNat ((28 * ac) + v1_52)) (zI z3)) (by omega)  ((st_ne (Or.inl (by decide))).trans eg146_20_52) (cp_step (a := 155) (b := 147) (od := Int.toNat (28 * ac)) (os := 0) (v := v1_52) (by decide) (by omega) (by omega) (by omega) ez3 y52_0) (cp_oth (od := Int.toNat (28 * ac)) (v := v1_52) (by omega) (by omega) y52_1) (IvB.cpA hIL52 (a := 155) (k := (Int.toNat ((28 * ac) + v1_52))) (b := 147) (j := (Int.toNat v1_52)) (x := z3) ez3 bz3 (by decide) (by rw [show (Int.toNat ((28 * ac) + v1_52)) = Int.toNat (28 * ac) + (Int.toNat v1_52) by omega]; exact ivr_cp (by omega) (by omega)) (by decide)) (Fr.to hFL52 (by first | decide | (dsimp only; first | done | decide | omega) | omega)) (by omega) _ _ _ w (lv_sub hl [0, 1] rfl)
    exact lp52 _ 0 M (by omega) (hgac) (fun j hj => False.elim (by omega)) (fun i hi => rfl) hI hF (Nat.lt_succ_self _) _ _ _ w (lv_sub hl [0, 1] rfl)
  · refine lv_bipush (v := zI 28) hx hb dX12_keeps_9 (by decide) ?_
    refine lv_istore_n (lv' := [(1, .int (zI 28)), (0, .ref (B + 146))]) hx hb dX12_keeps_11 rfl hl (by decide) rfl (fun ls hl => ?_)
    have lp12 : ∀ (f : Nat) (v1_12 : Int)  (NL12 : Mem), (28 ≤ v1_12 ∧ v1_12 ≤ 336) → NL12.1 146 20 = zI ac → ((∀ i : Nat, (i : Int) + 28 < v1_12 → NL12.1 155 i = M.1 155 (i + 28)) ∧ ∀ i : Nat, v1_12 ≤ (i : Int) + 28 → NL12.1 155 i = M.1 155 i) → IvB NL12 → Fr (fun b9 k9 => (b9 = 146 ∧ k9 = 20) ∨ b9 = 155) NL12 M → (Int.toNat (336 - v1_12) < f) → ∀ (H : Heap) (locs : List Loc) (ls : Array Slot), Wd D B cy s s.heap NL12 H locs → lv_has ls 2 [(1, .int (zI v1_12)), (0, .ref (B + 146))] → W p l e (rmm 0 0) s m args below meth c H locs 0 0 Q (F0 m 12 ls []) := by
      intro f
      induction f with
      | zero => intros; omega
      | succ f ih12 =>
        intro v1_12  NL12 iv1_12 eg146_20_12 y12_0 hIL12 hFL12 hf12 H locs ls w hl
        refine lv_iload_n hx hb dX12_keeps_12 rfl (lv_at hl 0 rfl) ?_
        refine lv_sipush (v := zI 336) hx hb dX12_keeps_13 (by decide) ?_
        refine z_icmp_ge (tgt := 40) hx hb (by omega) (by omega) dX12_keeps_16 (by decide) (fun c4 => ?_) (fun c4 => ?_)
        · refine lv_aload_n hx hb dX12_keeps_40 rfl (lv_at hl 1 rfl) ?_
          refine lv_dup hx hb dX12_keeps_41 rfl ?_
          refine f_12_20 F w (a := 146) rfl tb_650 dX12_keeps_42 ?_
          refine r_val (v := zI ac) (eg146_20_12) ?_
          refine lv_iconst (v := zI 1) hx hb dX12_keeps_45 rfl ?_
          refine z_isub (z := (ac - 1)) hx hb dX12_keeps_46 (by omega) ?_
          refine u_12_20 F w (a := 146) rfl tb_650 dX12_keeps_47 (fun H locs w => ?_)
          refine lv_iconst (v := zI 0) hx hb dX12_keeps_50 rfl ?_
          refine lv_istore_n (lv' := [(1, .int (zI 0)), (0, .ref (B + 146))]) hx hb dX12_keeps_51 rfl hl (by decide) rfl (fun ls hl => ?_)
          have lp52 : ∀ (f : Nat) (v1_52 : Int)  (NL52 : Mem), (0 ≤ v1_52 ∧ v1_52 ≤ 28) → NL52.1 146 20 = zI (ac - 1) → (∀ j : Nat, (j : Int) < v1_52 → NL52.1 155 (Int.toNat (28 * (ac - 1)) + j) = NL52.1 147 (0 + j)) → (∀ i : Nat, i < Int.toNat (28 * (ac - 1)) ∨ Int.toNat (28 * (ac - 1)) + (v1_52).toNat ≤ i → NL52.1 155 i = (Prod.fst (st NL12 146 20 (zI (ac - 1)))) 155 i) → IvB NL52 → Fr (fun b9 k9 => (b9 = 146 ∧ k9 = 20) ∨ b9 = 155) NL52 M → (Int.toNat (28 - v1_52) < f) → ∀ (H : Heap) (locs : List Loc) (ls : Array Slot), Wd D B cy s s.heap NL52 H locs → lv_has ls 2 [(1, .int (zI v1_52)), (0, .ref (B + 146))] → W p l e (rmm 0 0) s m args below meth c H locs 0 0 Q (F0 m 52 ls []) := by
            intro f
            induction f with
            | zero => intros; omega
            | succ f ih52 =>
              intro v1_52  NL52 iv1_52 eg146_20_52 y52_0 y52_1 hIL52 hFL52 hf52 H locs ls w hl
              refine lv_iload_n hx hb dX12_keeps_52 rfl (lv_at hl 0 rfl) ?_
              refine lv_bipush (v := zI 28) hx hb dX12_keeps_53 (by decide) ?_
              refine z_icmp_ge (tgt := 84) hx hb (by omega) (by omega) dX12_keeps_55 (by decide) (fun c5 => ?_) (fun c5 => ?_)
              · refine lv_aload_n hx hb dX12_keeps_84 rfl (lv_at hl 1 rfl) ?_
                refine lv_dup hx hb dX12_keeps_85 rfl ?_
                refine f_12_20 F w (a := 146) rfl tb_650 dX12_keeps_86 ?_
                refine r_val (v := zI (ac - 1)) (eg146_20_52) ?_
                refine lv_iconst (v := zI 1) hx hb dX12_keeps_89 rfl ?_
                refine z_iadd (z := ac) hx hb dX12_keeps_90 (by omega) ?_
                refine u_12_20 F w (a := 146) rfl tb_650 dX12_keeps_91 (fun H locs w => ?_)
                have hf9 : Fr (fun b9 k9 => (b9 = 146 ∧ k9 = 20) ∨ b9 = 155) (st NL52 146 20 (zI ac)) M := (Fr.to hFL52 (by first | decide | (dsimp only; first | done | decide | omega) | omega))
                have hb9 : IvB (st NL52 146 20 (zI ac)) := (IvB.to hIL52 (a := 146) (k := 20) (x := ac) (show ivr 146 20 = (0, 12) from rfl) (by omega) (by decide))
                have h79 : ∀ k9, (Prod.fst (st NL52 146 20 (zI ac))) 147 k9 = M.1 147 k9 := fun k9 => hf9 147 k9 (by first | decide | (dsimp only; first | done | decide | omega) | omega)
                have hn9 : ∀ i, i < 12 → NCw (fun k => (Prod.fst (st NL52 146 20 (zI ac))) 155 (28 * i + k)) := by
                  intro i hi
                  by_cases q9 : (i : Int) = (ac - 1)
                  · refine NCw_cg hI0.2.1.1.1 (fun k hk => ?_)
                    have z9 := y52_0 k (by omega)
                    rw [show Int.toNat (28 * (ac - 1)) + k = 28 * i + k by omega, show 0 + k = k by omega] at z9
                    rw [← h79 k]
                    rw [st_ne (Or.inl (by decide)), st_ne (Or.inl (by decide))]
                    exact z9
                  · refine NCw_cg (hI0.2.1.2.1 (i + 1) (by omega)) (fun k hk => ?_)
                    rw [st_ne (Or.inl (by decide)), y52_1 _ (by omega)]
                    have z9 := y12_0.1 (28 * i + k) (by omega)
                    rw [show 28 * (i + 1) + k = 28 * i + k + 28 by omega]
                    rw [st_ne (Or.inl (by decide))]
                    exact z9
                rw [hQ]
                exact e_v F w hr hlocks ⟨(IvB.up hb9 hI0 hf9 (NCw_cg hI0.2.1.1.1 (fun k9 _ => h79 k9)) (fun k9 => by first | decide | (dsimp only; first | done | decide | omega) | omega) (fun k9 => by first | decide | (dsimp only; first | done | decide | omega) | omega) hn9 (fun r9 hr9 => by have h49 : (Prod.fst (st NL52 146 20 (zI ac))) 149 = M.1 149 := funext fun k9 => hf9 149 k9 (by first | decide | (dsimp only; first | done | decide | omega) | omega); rw [h49]; exact hI0.2.1.2.2 r9 hr9)), (Fr.to hFL52 (by first | decide | (dsimp only; first | done | decide | omega) | omega))⟩ dX12_keeps_94
              · refine lv_aload_n hx hb dX12_keeps_58 rfl (lv_at hl 1 rfl) ?_
                refine f_12_19 F w (a := 146) rfl tb_663 dX12_keeps_59 ?_
                refine lv_bipush (v := zI 28) hx hb dX12_keeps_62 (by decide) ?_
                refine lv_aload_n hx hb dX12_keeps_64 rfl (lv_at hl 1 rfl) ?_
                refine f_12_20 F w (a := 146) rfl tb_650 dX12_keeps_65 ?_
                refine r_val (v := zI (ac - 1)) (eg146_20_52) ?_
                refine z_imul (z := (28 * (ac - 1))) hx hb dX12_keeps_68 (by omega) ?_
                refine lv_iload_n hx hb dX12_keeps_69 rfl (lv_at hl 0 rfl) ?_
                refine z_iadd (z := ((28 * (ac - 1)) + v1_52)) hx hb dX12_keeps_70 (by omega) ?_
                refine lv_aload_n hx hb dX12_keeps_71 rfl (lv_at hl 1 rfl) ?_
                refine f_12_1 F w (a := 146) rfl tb_580 dX12_keeps_72 ?_
                refine lv_iload_n hx hb dX12_keeps_75 rfl (lv_at hl 0 rfl) ?_
                refine g_iald F w (a := 147) rfl (j := (Int.toNat v1_52)) (ix_z (by omega) (by omega)) (by omega) dX12_keeps_76 ?_
                obtain ⟨z6, bz6, ez6⟩ := rg_ex (Prod.fst NL52 147 (Int.toNat v1_52))
                refine r_val ez6 ?_
                refine g_iast F w (a := 155) rfl (j := (Int.toNat ((28 * (ac - 1)) + v1_52))) (ix_z (by omega) (by omega)) (by omega) dX12_keeps_77 (fun H locs w => ?_)
                refine z_iinc (v := (v1_52 + 1)) (lv' := [(1, .int (zI (v1_52 + 1))), (0, .ref (B + 146))]) hx hb dX12_keeps_78 hl (k := 0) rfl (by omega) (by decide) rfl (fun ls hl => ?_)
                refine lv_goto (tgt := 52) hx hb dX12_keeps_81 (by decide) ?_
                exact ih52 (v1_52 + 1) (st NL52 155 (Int.toNat ((28 * (ac - 1)) + v1_52)) (zI z6)) (by omega)  ((st_ne (Or.inl (by decide))).trans eg146_20_52) (cp_step (a := 155) (b := 147) (od := Int.toNat (28 * (ac - 1))) (os := 0) (v := v1_52) (by decide) (by omega) (by omega) (by omega) ez6 y52_0) (cp_oth (od := Int.toNat (28 * (ac - 1))) (v := v1_52) (by omega) (by omega) y52_1) (IvB.cpA hIL52 (a := 155) (k := (Int.toNat ((28 * (ac - 1)) + v1_52))) (b := 147) (j := (Int.toNat v1_52)) (x := z6) ez6 bz6 (by decide) (by rw [show (Int.toNat ((28 * (ac - 1)) + v1_52)) = Int.toNat (28 * (ac - 1)) + (Int.toNat v1_52) by omega]; exact ivr_cp (by omega) (by omega)) (by decide)) (Fr.to hFL52 (by first | decide | (dsimp only; first | done | decide | omega) | omega)) (by omega) _ _ _ w (lv_sub hl [0, 1] rfl)
          exact lp52 _ 0 (st NL12 146 20 (zI (ac - 1))) (by omega) (st_at) (fun j hj => False.elim (by omega)) (fun i hi => rfl) (IvB.to hIL12 (a := 146) (k := 20) (x := (ac - 1)) (show ivr 146 20 = (0, 12) from rfl) (by omega) (by decide)) (Fr.to hFL12 (by first | decide | (dsimp only; first | done | decide | omega) | omega)) (Nat.lt_succ_self _) _ _ _ w (lv_sub hl [0, 1] rfl)
        · refine lv_aload_n hx hb dX12_keeps_19 rfl (lv_at hl 1 rfl) ?_
          refine f_12_19 F w (a := 146) rfl tb_663 dX12_keeps_20 ?_
          refine lv_iload_n hx hb dX12_keeps_23 rfl (lv_at hl 0 rfl) ?_
          refine lv_bipush (v := zI 28) hx hb dX12_keeps_24 (by decide) ?_
          refine z_isub (z := (v1_12 - 28)) hx hb dX12_keeps_26 (by omega) ?_
          refine lv_aload_n hx hb dX12_keeps_27 rfl (lv_at hl 1 rfl) ?_
          refine f_12_19 F w (a := 146) rfl tb_663 dX12_keeps_28 ?_
          refine lv_iload_n hx hb dX12_keeps_31 rfl (lv_at hl 0 rfl) ?_
          refine g_iald F w (a := 155) rfl (j := (Int.toNat v1_12)) (ix_z (by omega) (by omega)) (by omega) dX12_keeps_32 ?_
          obtain ⟨z7, bz7, ez7⟩ := rg_ex (Prod.fst NL12 155 (Int.toNat v1_12))
          refine r_val ez7 ?_
          refine g_iast F w (a := 155) rfl (j := (Int.toNat (v1_12 - 28))) (ix_z (by omega) (by omega)) (by omega) dX12_keeps_33 (fun H locs w => ?_)
          refine z_iinc (v := (v1_12 + 1)) (lv' := [(1, .int (zI (v1_12 + 1))), (0, .ref (B + 146))]) hx hb dX12_keeps_34 hl (k := 0) rfl (by omega) (by decide) rfl (fun ls hl => ?_)
          refine lv_goto (tgt := 12) hx hb dX12_keeps_37 (by decide) ?_
          exact ih12 (v1_12 + 1) (st NL12 155 (Int.toNat (v1_12 - 28)) (zI z7)) (by omega)  ((st_ne (Or.inl (by decide))).trans eg146_20_12) (sh_step (v := v1_12) (by omega) (by omega) (by omega) ez7 y12_0) (IvB.cpA hIL12 (a := 155) (k := (Int.toNat (v1_12 - 28))) (b := 155) (j := (Int.toNat v1_12)) (x := z7) ez7 bz7 (by decide) (ivr_sh (by omega)) (by decide)) (Fr.to hFL12 (by first | decide | (dsimp only; first | done | decide | omega) | omega)) (by omega) _ _ _ w (lv_sub hl [0, 1] rfl)
    exact lp12 _ 28 M (by omega) (hgac) (⟨fun i hi => False.elim (by omega), fun i hi => rfl⟩) hI hF (Nat.lt_succ_self _) _ _ _ w (lv_sub hl [0, 1] rfl)
theorem dX12_undo_0 : decode cX12_undo 0 = .ok (.aload_n 0, 1) := wdX12_undo_0
theorem dX12_undo_1 : decode cX12_undo 1 = .ok (.getfield 201, 3) := wdX12_undo_1
theorem dX12_undo_4 : decode cX12_undo 4 = .ok (.ifCond .ne 5, 3) := wdX12_undo_4
theorem dX12_undo_9 : decode cX12_undo 9 = .ok (.aload_n 0, 1) := wdX12_undo_9
theorem dX12_undo_10 : decode cX12_undo 10 = .ok (.dup, 1) := wdX12_undo_10
theorem dX12_undo_11 : decode cX12_undo 11 = .ok (.getfield 201, 3) := wdX12_undo_11
theorem dX12_undo_14 : decode cX12_undo 14 = .ok (.iconst 1, 1) := wdX12_undo_14
theorem dX12_undo_15 : decode cX12_undo 15 = .ok (.isub, 1) := wdX12_undo_15
theorem dX12_undo_16 : decode cX12_undo 16 = .ok (.putfield 201, 3) := wdX12_undo_16
theorem dX12_undo_19 : decode cX12_undo 19 = .ok (.iconst 0, 1) := wdX12_undo_19
theorem dX12_undo_20 : decode cX12_undo 20 = .ok (.istore_n 1, 1) := wdX12_undo_20
theorem dX12_undo_21 : decode cX12_undo 21 = .ok (.iload_n 1, 1) := wdX12_undo_21
theorem dX12_undo_22 : decode cX12_undo 22 = .ok (.bipush 28, 2) := wdX12_undo_22
theorem dX12_undo_24 : decode cX12_undo 24 = .ok (.if_icmp .ge 29, 3) := wdX12_undo_24
theorem dX12_undo_27 : decode cX12_undo 27 = .ok (.aload_n 0, 1) := wdX12_undo_27
theorem dX12_undo_28 : decode cX12_undo 28 = .ok (.getfield 13, 3) := wdX12_undo_28
theorem dX12_undo_31 : decode cX12_undo 31 = .ok (.iload_n 1, 1) := wdX12_undo_31
theorem dX12_undo_32 : decode cX12_undo 32 = .ok (.aload_n 0, 1) := wdX12_undo_32
theorem dX12_undo_33 : decode cX12_undo 33 = .ok (.getfield 39, 3) := wdX12_undo_33
theorem dX12_undo_36 : decode cX12_undo 36 = .ok (.bipush 28, 2) := wdX12_undo_36
theorem dX12_undo_38 : decode cX12_undo 38 = .ok (.aload_n 0, 1) := wdX12_undo_38
theorem dX12_undo_39 : decode cX12_undo 39 = .ok (.getfield 201, 3) := wdX12_undo_39
theorem dX12_undo_42 : decode cX12_undo 42 = .ok (.imul, 1) := wdX12_undo_42
theorem dX12_undo_43 : decode cX12_undo 43 = .ok (.iload_n 1, 1) := wdX12_undo_43
theorem dX12_undo_44 : decode cX12_undo 44 = .ok (.iadd, 1) := wdX12_undo_44
theorem dX12_undo_45 : decode cX12_undo 45 = .ok (.iaload, 1) := wdX12_undo_45
theorem dX12_undo_46 : decode cX12_undo 46 = .ok (.iastore, 1) := wdX12_undo_46
theorem dX12_undo_47 : decode cX12_undo 47 = .ok (.iinc 1 1, 3) := wdX12_undo_47
theorem dX12_undo_50 : decode cX12_undo 50 = .ok (.goto (-29), 3) := wdX12_undo_50
theorem dX12_undo_53 : decode cX12_undo 53 = .ok (.aload_n 0, 1) := wdX12_undo_53
theorem dX12_undo_54 : decode cX12_undo 54 = .ok (.getfield 201, 3) := wdX12_undo_54
theorem dX12_undo_57 : decode cX12_undo 57 = .ok (.ireturn, 1) := wdX12_undo_57
theorem dX12_undo_7 : decode cX12_undo 7 = .ok (.iconst (-1), 1) := wdX12_undo_7
theorem dX12_undo_8 : decode cX12_undo 8 = .ok (.ireturn, 1) := wdX12_undo_8
set_option maxRecDepth 4000 in
theorem q_X12_undo {l : Launch} {D : va_G} {B : Nat} {cy : Nat → ClassId} {M : Mem} {ac : Int} (hgac : M.1 146 20 = zI ac) (hac : 0 ≤ ac ∧ ac ≤ 12) (hI : IvR M) : Ci l D B cy yX12_undo cX12_undo 2 (some .int) 0 0 [.ref (B + 146)] M (fun r M1 => ∃ z : Int, r = zI z ∧ ((-1) ≤ z ∧ z ≤ 11) ∧ IvR M1 ∧ Fr (fun b9 k9 => (b9 = 146 ∧ k9 = 20) ∨ b9 = 147) M1 M) := by
  refine s_anyQ (by decide) (Nat.le_of_ble_eq_true rfl) ?_
  intro p e s m args below meth c ls Q F hr hlocks hQ w hl
  have F : CallFix p m c cX12_undo 2 s args TB RX12 := F
  have hx := F.1
  have hb := F.2.1
  have hl : lv_has ls 2 [(0, .ref (B + 146))] := hl
  have hI0 := hI
  replace hI : IvB M := hI.b
  have hF : Fr (fun b9 k9 => (b9 = 146 ∧ k9 = 20) ∨ b9 = 147) M M := Fr.rf
  refine lv_aload_n hx hb dX12_undo_0 rfl (lv_at hl 0 rfl) ?_
  refine f_12_20 F w (a := 146) rfl tb_650 dX12_undo_1 ?_
  refine r_val (v := zI ac) (hgac) ?_
  refine z_if_ne (tgt := 9) hx hb (by omega) dX12_undo_4 (by decide) (fun c1 => ?_) (fun c1 => ?_)
  · refine lv_aload_n hx hb dX12_undo_9 rfl (lv_at hl 0 rfl) ?_
    refine lv_dup hx hb dX12_undo_10 rfl ?_
    refine f_12_20 F w (a := 146) rfl tb_650 dX12_undo_11 ?_
    refine r_val (v := zI ac) (hgac) ?_
    refine lv_iconst (v := zI 1) hx hb dX12_undo_14 rfl ?_
    refine z_isub (z := (ac - 1)) hx hb dX12_undo_15 (by omega) ?_
    refine u_12_20 F w (a := 146) rfl tb_650 dX12_undo_16 (fun H locs w => ?_)
    refine lv_iconst (v := zI 0) hx hb dX12_undo_19 rfl ?_
    refine lv_istore_n (lv' := [(1, .int (zI 0)), (0, .ref (B + 146))]) hx hb dX12_undo_20 rfl hl (by decide) rfl (fun ls hl => ?_)
    have lp21 : ∀ (f : Nat) (v1_21 : Int)  (NL21 : Mem), (0 ≤ v1_21 ∧ v1_21 ≤ 28) → NL21.1 146 20 = zI (ac - 1) → (∀ j : Nat, (j : Int) < v1_21 → NL21.1 147 (0 + j) = NL21.1 155 (Int.toNat (28 * (ac - 1)) + j)) → (∀ i : Nat, i < 0 ∨ 0 + (v1_21).toNat ≤ i → NL21.1 147 i = (Prod.fst (st M 146 20 (zI (ac - 1)))) 147 i) → IvB NL21 → Fr (fun b9 k9 => (b9 = 146 ∧ k9 = 20) ∨ b9 = 147) NL21 M → (Int.toNat (28 - v1_21) < f) → ∀ (H : Heap) (locs : List Loc) (ls : Array Slot), Wd D B cy s s.heap NL21 H locs → lv_has ls 2 [(1, .int (zI v1_21)), (0, .ref (B + 146))] → W p l e (rmm 0 0) s m args below meth c H locs 0 0 Q (F0 m 21 ls []) := by
      intro f
      induction f with
      | zero => intros; omega
      | succ f ih21 =>
        intro v1_21  NL21 iv1_21 eg146_20_21 y21_0 y21_1 hIL21 hFL21 hf21 H locs ls w hl
        refine lv_iload_n hx hb dX12_undo_21 rfl (lv_at hl 0 rfl) ?_
        refine lv_bipush (v := zI 28) hx hb dX12_undo_22 (by decide) ?_
        refine z_icmp_ge (tgt := 53) hx hb (by omega) (by omega) dX12_undo_24 (by decide) (fun c2 => ?_) (fun c2 => ?_)
        · refine lv_aload_n hx hb dX12_undo_53 rfl (lv_at hl 1 rfl) ?_
          refine f_12_20 F w (a := 146) rfl tb_650 dX12_undo_54 ?_
          refine r_val (v := zI (ac - 1)) (eg146_20_21) ?_
          have hf9 : Fr (fun b9 k9 => (b9 = 146 ∧ k9 = 20) ∨ b9 = 147) NL21 M := hFL21
          have hb9 : IvB NL21 := hIL21
          have h59 : ∀ k9, (Prod.fst NL21) 155 k9 = M.1 155 k9 := fun k9 => hf9 155 k9 (by first | decide | (dsimp only; first | done | decide | omega) | omega)
          have h79 : NCw ((Prod.fst NL21) 147) := by
            refine NCw_cg (hI0.2.1.2.1 (Int.toNat (ac - 1)) (by omega)) (fun k hk => ?_)
            have z9 := y21_0 k (by omega)
            rw [show 0 + k = k by omega, h59, show Int.toNat (28 * (ac - 1)) + k = 28 * Int.toNat (ac - 1) + k by omega] at z9
            exact z9
          rw [hQ]
          exact e_i F w hr hlocks ⟨_, rfl, ⟨by omega, by omega⟩, (IvB.up hb9 hI0 hf9 h79 (fun k9 => by first | decide | (dsimp only; first | done | decide | omega) | omega) (fun k9 => by first | decide | (dsimp only; first | done | decide | omega) | omega) (fun i9 hi9 => NCw_cg (hI0.2.1.2.1 i9 hi9) (fun k9 _ => h59 _)) (fun r9 hr9 => by have h49 : (Prod.fst NL21) 149 = M.1 149 := funext fun k9 => hf9 149 k9 (by first | decide | (dsimp only; first | done | decide | omega) | omega); rw [h49]; exact hI0.2.1.2.2 r9 hr9)), hFL21⟩ dX12_undo_57
        · refine lv_aload_n hx hb dX12_undo_27 rfl (lv_at hl 1 rfl) ?_
          refine f_12_1 F w (a := 146) rfl tb_580 dX12_undo_28 ?_
          refine lv_iload_n hx hb dX12_undo_31 rfl (lv_at hl 0 rfl) ?_
          refine lv_aload_n hx hb dX12_undo_32 rfl (lv_at hl 1 rfl) ?_
          refine f_12_19 F w (a := 146) rfl tb_663 dX12_undo_33 ?_
          refine lv_bipush (v := zI 28) hx hb dX12_undo_36 (by decide) ?_
          refine lv_aload_n hx hb dX12_undo_38 rfl (lv_at hl 1 rfl) ?_
          refine f_12_20 F w (a := 146) rfl tb_650 dX12_undo_39 ?_
          refine r_val (v := zI (ac - 1)) (eg146_20_21) ?_
          refine z_imul (z := (28 * (ac - 1))) hx hb dX12_undo_42 (by omega) ?_
          refine lv_iload_n hx hb dX12_undo_43 rfl (lv_at hl 0 rfl) ?_
          refine z_iadd (z := ((28 * (ac - 1)) + v1_21)) hx hb dX12_undo_44 (by omega) ?_
          refine g_iald F w (a := 155) rfl (j := (Int.toNat ((28 * (ac - 1)) + v1_21))) (ix_z (by omega) (by omega)) (by omega) dX12_undo_45 ?_
          obtain ⟨z3, bz3, ez3⟩ := rg_ex (Prod.fst NL21 155 (Int.toNat ((28 * (ac - 1)) + v1_21)))
          refine r_val ez3 ?_
          refine g_iast F w (a := 147) rfl (j := (Int.toNat v1_21)) (ix_z (by omega) (by omega)) (by omega) dX12_undo_46 (fun H locs w => ?_)
          refine z_iinc (v := (v1_21 + 1)) (lv' := [(1, .int (zI (v1_21 + 1))), (0, .ref (B + 146))]) hx hb dX12_undo_47 hl (k := 0) rfl (by omega) (by decide) rfl (fun ls hl => ?_)
          refine lv_goto (tgt := 21) hx hb dX12_undo_50 (by decide) ?_
          exact ih21 (v1_21 + 1) (st NL21 147 (Int.toNat v1_21) (zI z3)) (by omega)  ((st_ne (Or.inl (by decide))).trans eg146_20_21) (cp_step (a := 147) (b := 155) (od := 0) (os := Int.toNat (28 * (ac - 1))) (v := v1_21) (by decide) (by omega) (by omega) (by omega) ez3 y21_0) (cp_oth (od := 0) (v := v1_21) (by omega) (by omega) y21_1) (IvB.cpA hIL21 (a := 147) (k := (Int.toNat v1_21)) (b := 155) (j := (Int.toNat ((28 * (ac - 1)) + v1_21))) (x := z3) ez3 bz3 (by decide) (by rw [show (Int.toNat ((28 * (ac - 1)) + v1_21)) = Int.toNat (28 * (ac - 1)) + (Int.toNat v1_21) by omega]; exact (ivr_cp (by omega) (by omega)).symm) (by decide)) (Fr.to hFL21 (by first | decide | (dsimp only; first | done | decide | omega) | omega)) (by omega) _ _ _ w (lv_sub hl [0, 1] rfl)
    exact lp21 _ 0 (st M 146 20 (zI (ac - 1))) (by omega) (st_at) (fun j hj => False.elim (by omega)) (fun i hi => rfl) (IvB.to hI (a := 146) (k := 20) (x := (ac - 1)) (show ivr 146 20 = (0, 12) from rfl) (by omega) (by decide)) (Fr.to hF (by first | decide | (dsimp only; first | done | decide | omega) | omega)) (Nat.lt_succ_self _) _ _ _ w (lv_sub hl [0, 1] rfl)
  · refine lv_iconst (v := zI (-1)) hx hb dX12_undo_7 rfl ?_
    rw [hQ]
    exact e_i F w hr hlocks ⟨_, rfl, ⟨by omega, by omega⟩, hI0, hF⟩ dX12_undo_8
