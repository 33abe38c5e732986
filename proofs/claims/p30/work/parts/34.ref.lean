-- texts, orders, sources, rules of the reference: what is known of numbers there
theorem met_cons {l : Launch} {y : MethodName} {ws : List Cond} {rm : Room} {Pc : Array Value → State → Prop} {Qc Qc' : Array Value → State → Outcome → State → Prop} {mc ms : Nat} {free : Addr → Prop} (h : Met l y ws rm Pc Qc mc ms free) (hq : ∀ a st o t, Qc a st o t → Qc' a st o t) : Met l y ws rm Pc Qc' mc ms free := by
  intro p e h1 h2 h3 s m args below h4 h5 h6 h7
  obtain ⟨n, o, a1, a2, a3, a4⟩ := h p e h1 h2 h3 s m args below h4 h5 h6 h7
  exact ⟨n, o, a1, a2, a3, hq _ _ _ _ a4.1, a4.2⟩
theorem ci_cons {l : Launch} {D : va_G} {B : Nat} {cy : Nat → ClassId} {M : Mem} {y : MethodName} {cc : ByteArray} {n : Nat} {ret : Option FieldType} {fr lo : Nat} {av : List Value} {post post' : Int32 → Mem → Prop} (h : Ci l D B cy y cc n ret fr lo av M post) (hq : ∀ r M1, post r M1 → post' r M1) : Ci l D B cy y cc n ret fr lo av M post' :=
  met_cons h (fun _ _ _ _ q => by obtain ⟨⟨r, u, q1, q2, q3⟩, q4⟩ := q; exact ⟨⟨r, u, q1, hq r u q2, q3⟩, q4⟩)
theorem cv_cons {l : Launch} {D : va_G} {B : Nat} {cy : Nat → ClassId} {M : Mem} {y : MethodName} {cc : ByteArray} {n : Nat} {fr lo : Nat} {av : List Value} {post post' : Mem → Prop} (h : Cv l D B cy y cc n fr lo av M post) (hq : ∀ M1, post M1 → post' M1) : Cv l D B cy y cc n fr lo av M post' :=
  met_cons h (fun _ _ _ _ q => by obtain ⟨⟨u, q1, q2, q3⟩, q4⟩ := q; exact ⟨⟨u, q1, hq u q2, q3⟩, q4⟩)
theorem q_isInB {l : Launch} {D : va_G} {B : Nat} {cy : Nat → ClassId} {M : Mem} {x : Int} (hx : 0 ≤ x ∧ x ≤ 4095) {x1 : Int} (hx1 : 0 ≤ x1 ∧ x1 ≤ 11) : Ci l D B cy yX12_isIn cX12_isIn 2 (some .boolean) 0 0 [.int (zI x), .int (zI x1)] M (fun r M1 => ∃ z : Int, r = zI z ∧ (0 ≤ z ∧ z ≤ 1) ∧ (z = 0 ∨ bt (zI x) x1.toNat = true) ∧ M1 = M) := by
  have h1 := s_X12_isIn (l := l) (D := D) (B := B) (cy := cy) (M := M) (m9 := x.toNat) (k := x1.toNat) (by omega) (by omega)
  rw [show ((x.toNat : Nat) : Int) = x by omega, show ((x1.toNat : Nat) : Int) = x1 by omega] at h1
  refine ci_cons h1 (fun r M1 h => ?_)
  obtain ⟨h2, h3⟩ := h
  rcases h2 with ⟨h4, h5⟩ | ⟨h4, h5⟩
  · refine ⟨1, h5, by omega, Or.inr ?_, h3⟩
    have := bt_zI x.toNat (i := x1.toNat) (by omega)
    rw [show ((x.toNat : Nat) : Int) = x by omega] at this
    rw [this, h4]
  · exact ⟨0, h5, by omega, Or.inl rfl, h3⟩
theorem wr_nc {M : Mem} (hI : IvR M) {nn : Int} (hn : M.1 148 0 = zI nn) (hnn : 0 ≤ nn ∧ nn ≤ 12) {t y : Int} {u j : Nat} (ht : 0 ≤ t) (hy : 0 ≤ y ∧ y ≤ 11) (htu : t < (u : Int)) (hu : (u : Int) < nn) (hj : j < 12) (h1 : bt (M.1 148 (13 + t.toNat)) y.toNat = true) (h2 : bt (M.1 148 (13 + u)) j = true) : y ≤ (j : Int) := by
  have := hI.2.1.1.2.1 t.toNat u y.toNat j (by omega) ⟨nn.toNat, by rw [show ((nn.toNat : Nat) : Int) = nn by omega]; exact hn, by omega, by omega⟩ (by omega) hj h1 h2
  omega
def pw3 (k : Int) : Int := ((3 ^ k.toNat : Nat) : Int)
theorem pw_st {k : Int} (h : 0 ≤ k ∧ k ≤ 6) : 1 ≤ pw3 k ∧ pw3 k ≤ 729 ∧ pw3 (k + 1) = 3 * pw3 k := by
  have h1 : ∀ k : Nat, k < 7 → 1 ≤ 3 ^ k ∧ 3 ^ k ≤ 729 ∧ 3 ^ (k + 1) = 3 * 3 ^ k := by decide +kernel
  have h2 := h1 k.toNat (by omega)
  unfold pw3
  rw [show (k + 1).toNat = k.toNat + 1 by omega]
  generalize 3 ^ (k.toNat + 1) = a at *
  generalize 3 ^ k.toNat = b at *
  omega
theorem pw_dn {x k : Int} (h : 0 ≤ k ∧ k < x ∧ x ≤ 6) : 1 ≤ pw3 (x - (k + 1)) ∧ pw3 (x - k) = 3 * pw3 (x - (k + 1)) := by
  have := pw_st (k := x - (k + 1)) (by omega)
  rw [show x - (k + 1) + 1 = x - k by omega] at this
  omega
def popI (x : Int) : Int := ((pop x.toNat : Nat) : Int)
def abI (x r : Int) : Int := ((pop (x.toNat >>> (r.toNat + 1)) : Nat) : Int)
def tbI (x r : Int) : Int := if x.toNat.testBit r.toNat then 1 else 0
theorem wo_d1 : ∀ x : Nat, x < 64 → x = 0 ∨ (low x ≤ 5 ∧ x.testBit (low x) = true ∧ pop (x >>> (low x + 1)) + 1 = pop x) := by decide +kernel
theorem wo_d2 : ∀ x : Nat, x < 64 → ∀ r : Nat, r < 6 → x.testBit r = false ∨ pop (x >>> (r + 1)) = 0 ∨ (andn x (2 ^ (r + 1) - 1) ≠ 0 ∧ low (andn x (2 ^ (r + 1) - 1)) ≤ 5 ∧ x.testBit (low (andn x (2 ^ (r + 1) - 1))) = true ∧ pop (x >>> (low (andn x (2 ^ (r + 1) - 1)) + 1)) + 1 = pop (x >>> (r + 1))) := by decide +kernel
theorem wo_d3 : ∀ x : Nat, x < 64 → ∀ r : Nat, r < 6 → x.testBit r = false ∨ (pop (andn x (2 ^ r)) + 1 = pop x ∧ andn x (2 ^ r) < 64) := by decide +kernel
theorem wo_d4 : ∀ r : Nat, r < 7 → pop (2 ^ r - 1) = r ∧ 2 ^ r ≤ 64 ∧ 1 ≤ 2 ^ r := by decide +kernel
theorem wo_d5 : ∀ x : Nat, x < 64 → (pop x ≤ 6 ∧ (x ≠ 0 ∨ pop x = 0)) := by decide +kernel
theorem zI_un {a b : Int} (ha : -2147483648 ≤ a ∧ a ≤ 2147483647) (hb : -2147483648 ≤ b ∧ b ≤ 2147483647) (h : zI a = zI b) : a = b := (zI_eq (by constructor <;> omega) (by constructor <;> omega)).mp h
theorem low_un {x z : Int} (hx : 0 ≤ x ∧ x ≤ 4095) (hz : -1 ≤ z ∧ z ≤ 11) (e : zI (lowI x.toNat) = zI z) : z = lowI x.toNat := by
  have := lowI_rg x.toNat (by omega)
  exact (zI_un (by omega) (by omega) e).symm
theorem wo_first {x z : Int} (hx : 0 ≤ x ∧ x ≤ 63) (hz : -1 ≤ z ∧ z ≤ 11) (e : zI (lowI x.toNat) = zI z) (h : 0 < popI x) : 0 ≤ z ∧ z ≤ 5 ∧ tbI x z = 1 ∧ abI x z = popI x - 1 := by
  have h0 : x.toNat ≠ 0 := by
    intro q
    unfold popI at h
    rw [q] at h
    exact absurd h (by decide)
  have h1 := low_un (by omega) hz e
  rw [lowI_nz h0] at h1
  have h2 := (wo_d1 x.toNat (by omega)).resolve_left h0
  unfold tbI abI popI
  rw [show z.toNat = low x.toNat by omega, if_pos h2.2.1]
  omega
theorem wo_next {x r v w z : Int} (hx : 0 ≤ x ∧ x ≤ 63) (hr : 0 ≤ r ∧ r ≤ 5) (h1 : tbI x r = 1) (h2 : 0 < abI x r) (hv : -2147483648 ≤ v ∧ v ≤ 2147483647) (e1 : zI 1 <<< (zI (r + 1) &&& 31) = zI v) (hw : -2147483648 ≤ w ∧ w ≤ 2147483647) (e2 : zI x &&& zI (-(v - 1) - 1) = zI w) (hw2 : 0 ≤ w ∧ w ≤ 4095) (hz : -1 ≤ z ∧ z ≤ 11) (e3 : zI (lowI w.toNat) = zI z) : 0 ≤ z ∧ z ≤ 5 ∧ tbI x z = 1 ∧ abI x z = abI x r - 1 := by
  have h3 : x.toNat.testBit r.toNat = true := by
    unfold tbI at h1
    split at h1
    · assumption
    · omega
  have h4 := wo_d2 x.toNat (by omega) r.toNat (by omega)
  rcases h4 with h4 | h4 | h4
  · rw [h3] at h4; cases h4
  · unfold abI at h2; omega
  · have h5 := wo_d4 (r.toNat + 1) (by omega)
    have h6 : v = ((2 ^ (r.toNat + 1) : Nat) : Int) := by
      rw [show r + 1 = ((r.toNat + 1 : Nat) : Int) by omega, zb_shl (by omega)] at e1
      exact (zI_un (by omega) hv e1).symm
    have h7 : w = ((andn x.toNat (2 ^ (r.toNat + 1) - 1) : Nat) : Int) := by
      have h8 := zb_andn x.toNat (2 ^ (r.toNat + 1) - 1)
      rw [not_ex, show ((x.toNat : Nat) : Int) = x by omega, show ((2 ^ (r.toNat + 1) - 1 : Nat) : Int) = v - 1 by omega, e2] at h8
      have h9 : andn x.toNat (2 ^ (r.toNat + 1) - 1) < 64 := by
        have : ∀ x : Nat, x < 64 → ∀ r : Nat, r < 6 → andn x (2 ^ (r + 1) - 1) < 64 := by decide +kernel
        exact this x.toNat (by omega) r.toNat (by omega)
      exact zI_un hw (by omega) h8
    have h10 := low_un hw2 hz e3
    rw [show w.toNat = andn x.toNat (2 ^ (r.toNat + 1) - 1) by omega, lowI_nz h4.1] at h10
    unfold tbI abI
    rw [show z.toNat = low (andn x.toNat (2 ^ (r.toNat + 1) - 1)) by omega, if_pos h4.2.2.1]
    omega
theorem wo_rem {x r v w : Int} (hx : 0 ≤ x ∧ x ≤ 63) (hr : 0 ≤ r ∧ r ≤ 5) (h1 : tbI x r = 1) (hv : -2147483648 ≤ v ∧ v ≤ 2147483647) (e1 : zI 1 <<< (zI r &&& 31) = zI v) (hw : -2147483648 ≤ w ∧ w ≤ 2147483647) (e2 : zI x &&& zI (-v - 1) = zI w) : popI w = popI x - 1 ∧ 0 ≤ w ∧ w ≤ 63 := by
  have h3 : x.toNat.testBit r.toNat = true := by
    unfold tbI at h1
    split at h1
    · assumption
    · omega
  have h4 := (wo_d3 x.toNat (by omega) r.toNat (by omega)).resolve_left (by rw [h3]; decide)
  have h5 := wo_d4 r.toNat (by omega)
  have h6 : v = ((2 ^ r.toNat : Nat) : Int) := by
    rw [show r = ((r.toNat : Nat) : Int) by omega, zb_shl (by omega)] at e1
    exact (zI_un (by omega) hv e1).symm
  have h7 : w = ((andn x.toNat (2 ^ r.toNat) : Nat) : Int) := by
    have h8 := zb_andn x.toNat (2 ^ r.toNat)
    rw [not_ex, show ((x.toNat : Nat) : Int) = x by omega, ← h6, e2] at h8
    exact zI_un hw (by omega) h8
  unfold popI
  rw [show w.toNat = andn x.toNat (2 ^ r.toNat) by omega]
  omega
theorem wo_init {n v : Int} (hn : 0 ≤ n ∧ n ≤ 6) (hv : -2147483648 ≤ v ∧ v ≤ 2147483647) (e1 : zI 1 <<< (zI n &&& 31) = zI v) : popI (v - 1) = n ∧ 0 ≤ v - 1 ∧ v - 1 ≤ 63 := by
  have h5 := wo_d4 n.toNat (by omega)
  have h6 : v = ((2 ^ n.toNat : Nat) : Int) := by
    rw [show n = ((n.toNat : Nat) : Int) by omega, zb_shl (by omega)] at e1
    exact (zI_un (by omega) hv e1).symm
  unfold popI
  rw [show (v - 1).toNat = 2 ^ n.toNat - 1 by omega]
  omega
theorem RKr_cg {g g' : Nat → Int32} {o o' : Nat} (h : RKr g o) (e0 : g' o' = g o) (e3 : g' (o' + 3) = g (o + 3)) : RKr g' o' := by
  intro q
  rw [e0] at q
  obtain ⟨z, h1, h2, h3⟩ := h q
  exact ⟨z, h1, h2, e3.trans h3⟩
def fct (k : Int) : Int := (([1, 1, 2, 6, 24, 120, 720].getD k.toNat 0 : Nat) : Int)
theorem fc_mul {a k : Int} (hk : 2 ≤ k ∧ k ≤ 6) (ha : a = fct (k - 1)) : 1 ≤ fct k ∧ fct k ≤ 720 ∧ zI a * zI k = zI (fct k) := by
  have h1 : ∀ n : Nat, n < 7 → 2 ≤ n → [1, 1, 2, 6, 24, 120, 720].getD (n - 1) 0 * n = [1, 1, 2, 6, 24, 120, 720].getD n 0 ∧ 1 ≤ [1, 1, 2, 6, 24, 120, 720].getD n 0 ∧ [1, 1, 2, 6, 24, 120, 720].getD n 0 ≤ 720 := by decide +kernel
  have h2 := h1 k.toNat (by omega) (by omega)
  rw [ha, zI_mul]
  unfold fct
  rw [show (k - 1).toNat = k.toNat - 1 by omega]
  refine ⟨by omega, by omega, congrArg zI ?_⟩
  have h3 := h2.1
  generalize [1, 1, 2, 6, 24, 120, 720].getD (k.toNat - 1) 0 = u at *
  generalize [1, 1, 2, 6, 24, 120, 720].getD k.toNat 0 = v at *
  rw [← h3, Int.natCast_mul, show ((k.toNat : Nat) : Int) = k by omega]
theorem dX12_writesWord_0 : decode cX12_writesWord 0 = .ok (.aload_n 0, 1) := dq0 kk_42 (by decide +kernel)
theorem dX12_writesWord_1 : decode cX12_writesWord 1 = .ok (.iconst 0, 1) := dq0 kk_3 (by decide +kernel)
theorem dX12_writesWord_2 : decode cX12_writesWord 2 = .ok (.putfield 291, 3) := dqV kk_181 (by decide +kernel)
theorem dX12_writesWord_5 : decode cX12_writesWord 5 = .ok (.iconst 0, 1) := dq0 kk_3 (by decide +kernel)
theorem dX12_writesWord_6 : decode cX12_writesWord 6 = .ok (.istore_n 1, 1) := dq0 kk_60 (by decide +kernel)
theorem dX12_writesWord_7 : decode cX12_writesWord 7 = .ok (.iload_n 1, 1) := dq0 kk_27 (by decide +kernel)
theorem dX12_writesWord_8 : decode cX12_writesWord 8 = .ok (.aload_n 0, 1) := dq0 kk_42 (by decide +kernel)
theorem dX12_writesWord_9 : decode cX12_writesWord 9 = .ok (.getfield 17, 3) := dqV kk_180 (by decide +kernel)
theorem dX12_writesWord_12 : decode cX12_writesWord 12 = .ok (.iconst 0, 1) := dq0 kk_3 (by decide +kernel)
theorem dX12_writesWord_13 : decode cX12_writesWord 13 = .ok (.iaload, 1) := dq0 kk_46 (by decide +kernel)
theorem dX12_writesWord_14 : decode cX12_writesWord 14 = .ok (.if_icmp .ge 48, 3) := dqT kk_162 (by decide +kernel)
theorem dX12_writesWord_62 : decode cX12_writesWord 62 = .ok (.aload_n 0, 1) := dq0 kk_42 (by decide +kernel)
theorem dX12_writesWord_63 : decode cX12_writesWord 63 = .ok (.bipush 47, 2) := dqS kk_16 (by decide +kernel)
theorem dX12_writesWord_65 : decode cX12_writesWord 65 = .ok (.invokevirtual 294, 3) := dqV kk_182 (by decide +kernel)
theorem dX12_writesWord_68 : decode cX12_writesWord 68 = .ok (.iconst 0, 1) := dq0 kk_3 (by decide +kernel)
theorem dX12_writesWord_69 : decode cX12_writesWord 69 = .ok (.istore_n 1, 1) := dq0 kk_60 (by decide +kernel)
theorem dX12_writesWord_70 : decode cX12_writesWord 70 = .ok (.iload_n 1, 1) := dq0 kk_27 (by decide +kernel)
theorem dX12_writesWord_71 : decode cX12_writesWord 71 = .ok (.aload_n 0, 1) := dq0 kk_42 (by decide +kernel)
theorem dX12_writesWord_72 : decode cX12_writesWord 72 = .ok (.getfield 17, 3) := dqV kk_180 (by decide +kernel)
theorem dX12_writesWord_75 : decode cX12_writesWord 75 = .ok (.bipush 25, 2) := dqS kk_16 (by decide +kernel)
theorem dX12_writesWord_77 : decode cX12_writesWord 77 = .ok (.iaload, 1) := dq0 kk_46 (by decide +kernel)
theorem dX12_writesWord_78 : decode cX12_writesWord 78 = .ok (.if_icmp .ge 54, 3) := dqT kk_162 (by decide +kernel)
theorem dX12_writesWord_132 : decode cX12_writesWord 132 = .ok (.aload_n 0, 1) := dq0 kk_42 (by decide +kernel)
theorem dX12_writesWord_133 : decode cX12_writesWord 133 = .ok (.bipush 47, 2) := dqS kk_16 (by decide +kernel)
theorem dX12_writesWord_135 : decode cX12_writesWord 135 = .ok (.invokevirtual 294, 3) := dqV kk_182 (by decide +kernel)
theorem dX12_writesWord_138 : decode cX12_writesWord 138 = .ok (.iconst 1, 1) := dq0 kk_4 (by decide +kernel)
theorem dX12_writesWord_139 : decode cX12_writesWord 139 = .ok (.istore_n 1, 1) := dq0 kk_60 (by decide +kernel)
theorem dX12_writesWord_140 : decode cX12_writesWord 140 = .ok (.iconst 0, 1) := dq0 kk_3 (by decide +kernel)
theorem dX12_writesWord_141 : decode cX12_writesWord 141 = .ok (.istore_n 2, 1) := dq0 kk_61 (by decide +kernel)
theorem dX12_writesWord_142 : decode cX12_writesWord 142 = .ok (.iload_n 2, 1) := dq0 kk_28 (by decide +kernel)
theorem dX12_writesWord_143 : decode cX12_writesWord 143 = .ok (.aload_n 0, 1) := dq0 kk_42 (by decide +kernel)
theorem dX12_writesWord_144 : decode cX12_writesWord 144 = .ok (.getfield 17, 3) := dqV kk_180 (by decide +kernel)
theorem dX12_writesWord_147 : decode cX12_writesWord 147 = .ok (.iconst 0, 1) := dq0 kk_3 (by decide +kernel)
theorem dX12_writesWord_148 : decode cX12_writesWord 148 = .ok (.iaload, 1) := dq0 kk_46 (by decide +kernel)
theorem dX12_writesWord_149 : decode cX12_writesWord 149 = .ok (.if_icmp .ge 75, 3) := dqT kk_162 (by decide +kernel)
theorem dX12_writesWord_224 : decode cX12_writesWord 224 = .ok (.return_, 1) := dq0 kk_177 (by decide +kernel)
theorem dX12_writesWord_81 : decode cX12_writesWord 81 = .ok (.aload_n 0, 1) := dq0 kk_42 (by decide +kernel)
theorem dX12_writesWord_82 : decode cX12_writesWord 82 = .ok (.getfield 17, 3) := dqV kk_180 (by decide +kernel)
theorem dX12_writesWord_85 : decode cX12_writesWord 85 = .ok (.bipush 27, 2) := dqS kk_16 (by decide +kernel)
theorem dX12_writesWord_87 : decode cX12_writesWord 87 = .ok (.iaload, 1) := dq0 kk_46 (by decide +kernel)
theorem dX12_writesWord_88 : decode cX12_writesWord 88 = .ok (.iload_n 1, 1) := dq0 kk_27 (by decide +kernel)
theorem dX12_writesWord_89 : decode cX12_writesWord 89 = .ok (.invokestatic 51, 3) := dqV kk_184 (by decide +kernel)
theorem dX12_writesWord_92 : decode cX12_writesWord 92 = .ok (.ifCond .eq 9, 3) := dqT kk_153 (by decide +kernel)
theorem dX12_writesWord_101 : decode cX12_writesWord 101 = .ok (.aload_n 0, 1) := dq0 kk_42 (by decide +kernel)
theorem dX12_writesWord_102 : decode cX12_writesWord 102 = .ok (.aload_n 0, 1) := dq0 kk_42 (by decide +kernel)
theorem dX12_writesWord_103 : decode cX12_writesWord 103 = .ok (.getfield 17, 3) := dqV kk_180 (by decide +kernel)
theorem dX12_writesWord_106 : decode cX12_writesWord 106 = .ok (.bipush 26, 2) := dqS kk_16 (by decide +kernel)
theorem dX12_writesWord_108 : decode cX12_writesWord 108 = .ok (.iaload, 1) := dq0 kk_46 (by decide +kernel)
theorem dX12_writesWord_109 : decode cX12_writesWord 109 = .ok (.iload_n 1, 1) := dq0 kk_27 (by decide +kernel)
theorem dX12_writesWord_110 : decode cX12_writesWord 110 = .ok (.invokestatic 51, 3) := dqV kk_184 (by decide +kernel)
theorem dX12_writesWord_113 : decode cX12_writesWord 113 = .ok (.ifCond .eq 8, 3) := dqT kk_153 (by decide +kernel)
theorem dX12_writesWord_121 : decode cX12_writesWord 121 = .ok (.bipush 111, 2) := dqS kk_16 (by decide +kernel)
theorem dX12_writesWord_123 : decode cX12_writesWord 123 = .ok (.invokevirtual 294, 3) := dqV kk_182 (by decide +kernel)
theorem dX12_writesWord_126 : decode cX12_writesWord 126 = .ok (.iinc 1 1, 3) := dqI kk_132 (by decide +kernel)
theorem dX12_writesWord_129 : decode cX12_writesWord 129 = .ok (.goto (-59), 3) := dqT kk_167 (by decide +kernel)
theorem dX12_writesWord_116 : decode cX12_writesWord 116 = .ok (.bipush 79, 2) := dqS kk_16 (by decide +kernel)
theorem dX12_writesWord_118 : decode cX12_writesWord 118 = .ok (.goto 5, 3) := dqT kk_167 (by decide +kernel)
theorem dX12_writesWord_95 : decode cX12_writesWord 95 = .ok (.aload_n 0, 1) := dq0 kk_42 (by decide +kernel)
theorem dX12_writesWord_96 : decode cX12_writesWord 96 = .ok (.bipush 45, 2) := dqS kk_16 (by decide +kernel)
theorem dX12_writesWord_98 : decode cX12_writesWord 98 = .ok (.invokevirtual 294, 3) := dqV kk_182 (by decide +kernel)
theorem dX12_writesWord_17 : decode cX12_writesWord 17 = .ok (.aload_n 0, 1) := dq0 kk_42 (by decide +kernel)
theorem dX12_writesWord_18 : decode cX12_writesWord 18 = .ok (.aload_n 0, 1) := dq0 kk_42 (by decide +kernel)
theorem dX12_writesWord_19 : decode cX12_writesWord 19 = .ok (.getfield 17, 3) := dqV kk_180 (by decide +kernel)
theorem dX12_writesWord_22 : decode cX12_writesWord 22 = .ok (.iconst 1, 1) := dq0 kk_4 (by decide +kernel)
theorem dX12_writesWord_23 : decode cX12_writesWord 23 = .ok (.iload_n 1, 1) := dq0 kk_27 (by decide +kernel)
theorem dX12_writesWord_24 : decode cX12_writesWord 24 = .ok (.iadd, 1) := dq0 kk_96 (by decide +kernel)
theorem dX12_writesWord_25 : decode cX12_writesWord 25 = .ok (.iaload, 1) := dq0 kk_46 (by decide +kernel)
theorem dX12_writesWord_26 : decode cX12_writesWord 26 = .ok (.ifCond .ne 8, 3) := dqT kk_154 (by decide +kernel)
theorem dX12_writesWord_34 : decode cX12_writesWord 34 = .ok (.aload_n 0, 1) := dq0 kk_42 (by decide +kernel)
theorem dX12_writesWord_35 : decode cX12_writesWord 35 = .ok (.getfield 17, 3) := dqV kk_180 (by decide +kernel)
theorem dX12_writesWord_38 : decode cX12_writesWord 38 = .ok (.iconst 1, 1) := dq0 kk_4 (by decide +kernel)
theorem dX12_writesWord_39 : decode cX12_writesWord 39 = .ok (.iload_n 1, 1) := dq0 kk_27 (by decide +kernel)
theorem dX12_writesWord_40 : decode cX12_writesWord 40 = .ok (.iadd, 1) := dq0 kk_96 (by decide +kernel)
theorem dX12_writesWord_41 : decode cX12_writesWord 41 = .ok (.iaload, 1) := dq0 kk_46 (by decide +kernel)
theorem dX12_writesWord_42 : decode cX12_writesWord 42 = .ok (.iconst 2, 1) := dq0 kk_5 (by decide +kernel)
theorem dX12_writesWord_43 : decode cX12_writesWord 43 = .ok (.if_icmp .ne 8, 3) := dqT kk_160 (by decide +kernel)
theorem dX12_writesWord_51 : decode cX12_writesWord 51 = .ok (.bipush 109, 2) := dqS kk_16 (by decide +kernel)
theorem dX12_writesWord_53 : decode cX12_writesWord 53 = .ok (.invokevirtual 294, 3) := dqV kk_182 (by decide +kernel)
theorem dX12_writesWord_56 : decode cX12_writesWord 56 = .ok (.iinc 1 1, 3) := dqI kk_132 (by decide +kernel)
theorem dX12_writesWord_59 : decode cX12_writesWord 59 = .ok (.goto (-52), 3) := dqT kk_167 (by decide +kernel)
theorem dX12_writesWord_46 : decode cX12_writesWord 46 = .ok (.bipush 104, 2) := dqS kk_16 (by decide +kernel)
theorem dX12_writesWord_48 : decode cX12_writesWord 48 = .ok (.goto 5, 3) := dqT kk_167 (by decide +kernel)
theorem dX12_writesWord_29 : decode cX12_writesWord 29 = .ok (.bipush 108, 2) := dqS kk_16 (by decide +kernel)
theorem dX12_writesWord_31 : decode cX12_writesWord 31 = .ok (.goto 22, 3) := dqT kk_167 (by decide +kernel)
theorem dX12_writesWord_152 : decode cX12_writesWord 152 = .ok (.iconst 0, 1) := dq0 kk_3 (by decide +kernel)
theorem dX12_writesWord_153 : decode cX12_writesWord 153 = .ok (.istore_n 3, 1) := dq0 kk_62 (by decide +kernel)
theorem dX12_writesWord_154 : decode cX12_writesWord 154 = .ok (.iload_n 3, 1) := dq0 kk_29 (by decide +kernel)
theorem dX12_writesWord_155 : decode cX12_writesWord 155 = .ok (.aload_n 0, 1) := dq0 kk_42 (by decide +kernel)
theorem dX12_writesWord_156 : decode cX12_writesWord 156 = .ok (.getfield 17, 3) := dqV kk_180 (by decide +kernel)
theorem dX12_writesWord_159 : decode cX12_writesWord 159 = .ok (.bipush 25, 2) := dqS kk_16 (by decide +kernel)
theorem dX12_writesWord_161 : decode cX12_writesWord 161 = .ok (.iaload, 1) := dq0 kk_46 (by decide +kernel)
theorem dX12_writesWord_162 : decode cX12_writesWord 162 = .ok (.if_icmp .ge 56, 3) := dqT kk_162 (by decide +kernel)
theorem dX12_writesWord_218 : decode cX12_writesWord 218 = .ok (.iinc 2 1, 3) := dqI kk_132 (by decide +kernel)
theorem dX12_writesWord_221 : decode cX12_writesWord 221 = .ok (.goto (-79), 3) := dqT kk_167 (by decide +kernel)
theorem dX12_writesWord_165 : decode cX12_writesWord 165 = .ok (.aload_n 0, 1) := dq0 kk_42 (by decide +kernel)
theorem dX12_writesWord_166 : decode cX12_writesWord 166 = .ok (.getfield 17, 3) := dqV kk_180 (by decide +kernel)
theorem dX12_writesWord_169 : decode cX12_writesWord 169 = .ok (.bipush 13, 2) := dqS kk_16 (by decide +kernel)
theorem dX12_writesWord_171 : decode cX12_writesWord 171 = .ok (.iload_n 2, 1) := dq0 kk_28 (by decide +kernel)
theorem dX12_writesWord_172 : decode cX12_writesWord 172 = .ok (.iadd, 1) := dq0 kk_96 (by decide +kernel)
theorem dX12_writesWord_173 : decode cX12_writesWord 173 = .ok (.iaload, 1) := dq0 kk_46 (by decide +kernel)
theorem dX12_writesWord_174 : decode cX12_writesWord 174 = .ok (.iload_n 3, 1) := dq0 kk_29 (by decide +kernel)
theorem dX12_writesWord_175 : decode cX12_writesWord 175 = .ok (.invokestatic 51, 3) := dqV kk_184 (by decide +kernel)
theorem dX12_writesWord_178 : decode cX12_writesWord 178 = .ok (.ifCond .ne 6, 3) := dqT kk_154 (by decide +kernel)
theorem dX12_writesWord_184 : decode cX12_writesWord 184 = .ok (.iload_n 1, 1) := dq0 kk_27 (by decide +kernel)
theorem dX12_writesWord_185 : decode cX12_writesWord 185 = .ok (.ifCond .ne 9, 3) := dqT kk_154 (by decide +kernel)
theorem dX12_writesWord_194 : decode cX12_writesWord 194 = .ok (.aload_n 0, 1) := dq0 kk_42 (by decide +kernel)
theorem dX12_writesWord_195 : decode cX12_writesWord 195 = .ok (.iload_n 2, 1) := dq0 kk_28 (by decide +kernel)
theorem dX12_writesWord_196 : decode cX12_writesWord 196 = .ok (.invokevirtual 297, 3) := dqV kk_182 (by decide +kernel)
theorem tk_X12_writesNumber : Cond.code yX12_writesNumber cX12_writesNumber 2 none ∈ TB := tbm (tc6 (List.mem_of_getElem? (i := 224) rfl)) rfl
theorem gc_X12_writesNumber : GoodIn TB (cw yX12_writesNumber cX12_writesNumber 2 none) := goodIn_c2 tk_X12_writesNumber
theorem tb_702 : Cond.methodLink "ToneLinesModel" 297 yX12_writesNumber ∈ TB := tbm (tc6 (List.mem_of_getElem? (i := 221) rfl)) rfl
theorem tb_703 : Cond.instanceMethod yX12_writesNumber ∈ TB := tbm (tc6 (List.mem_of_getElem? (i := 223) rfl)) rfl
theorem tb_704 : Cond.selects "ToneLinesModel" yX12_writesNumber yX12_writesNumber ∈ TB := tbp (List.mem_of_getElem? (i := 84) rfl) rfl
theorem gv_X12_297 : GoodIn TB (wsV RX12 297 RX12 yX12_writesNumber (cw yX12_writesNumber cX12_writesNumber 2 none)) := goodIn_4 tb_702 tb_703 tb_704 tb_38 gc_X12_writesNumber
theorem hv_X12_writesNumber : yX12_writesNumber.cls = RX12 ∧ yX12_writesNumber.cls ≠ "java/lang/invoke/MethodHandle" ∧ yX12_writesNumber.cls ≠ "java/lang/invoke/VarHandle" ∧ (parseMethodDescriptor yX12_writesNumber.desc).map (fun d => d.parameters.length) = some 1 := by decide +kernel
theorem dX12_writesWord_199 : decode cX12_writesWord 199 = .ok (.aload_n 0, 1) := dq0 kk_42 (by decide +kernel)
theorem dX12_writesWord_200 : decode cX12_writesWord 200 = .ok (.bipush 58, 2) := dqS kk_16 (by decide +kernel)
theorem dX12_writesWord_202 : decode cX12_writesWord 202 = .ok (.invokevirtual 294, 3) := dqV kk_182 (by decide +kernel)
theorem dX12_writesWord_205 : decode cX12_writesWord 205 = .ok (.aload_n 0, 1) := dq0 kk_42 (by decide +kernel)
theorem dX12_writesWord_206 : decode cX12_writesWord 206 = .ok (.iload_n 3, 1) := dq0 kk_29 (by decide +kernel)
theorem dX12_writesWord_207 : decode cX12_writesWord 207 = .ok (.invokevirtual 297, 3) := dqV kk_182 (by decide +kernel)
theorem dX12_writesWord_210 : decode cX12_writesWord 210 = .ok (.iconst 0, 1) := dq0 kk_3 (by decide +kernel)
theorem dX12_writesWord_211 : decode cX12_writesWord 211 = .ok (.istore_n 1, 1) := dq0 kk_60 (by decide +kernel)
theorem dX12_writesWord_212 : decode cX12_writesWord 212 = .ok (.iinc 3 1, 3) := dqI kk_132 (by decide +kernel)
theorem dX12_writesWord_215 : decode cX12_writesWord 215 = .ok (.goto (-61), 3) := dqT kk_167 (by decide +kernel)
theorem dX12_writesWord_181 : decode cX12_writesWord 181 = .ok (.goto 31, 3) := dqT kk_167 (by decide +kernel)
theorem dX12_writesWord_188 : decode cX12_writesWord 188 = .ok (.aload_n 0, 1) := dq0 kk_42 (by decide +kernel)
theorem dX12_writesWord_189 : decode cX12_writesWord 189 = .ok (.bipush 32, 2) := dqS kk_16 (by decide +kernel)
theorem dX12_writesWord_191 : decode cX12_writesWord 191 = .ok (.invokevirtual 294, 3) := dqV kk_182 (by decide +kernel)
set_option maxHeartbeats 4000000 in
set_option maxRecDepth 4000 in
theorem q_X12_writesWord {l : Launch} {D : va_G} {B : Nat} {cy : Nat → ClassId} {M : Mem} {tm : Int} (hgtm : M.1 146 22 = zI tm) (htm : 0 ≤ tm ∧ tm ≤ 260) {nn : Int} (hgnn : M.1 148 0 = zI nn) (hnn : 0 ≤ nn ∧ nn ≤ 12) (hI : IvR M) : Cv l D B cy yX12_writesWord cX12_writesWord 4 2 42 [.ref (B + 146)] M (fun M1 => IvR M1 ∧ Fr (fun b9 k9 => (b9 = 146 ∧ k9 = 22) ∨ b9 = 156) M1 M) := by
  refine s_anyQ (by decide) (Nat.le_of_ble_eq_true rfl) ?_
  intro p e s m args below meth c ls Q F hr hlocks hQ w hl
  have F : CallFix p m c cX12_writesWord 4 s args TB RX12 := F
  have hx := F.1
  have hb := F.2.1
  have hl : lv_has ls 4 [(0, .ref (B + 146))] := hl
  have hF : Fr (fun b9 k9 => (b9 = 146 ∧ k9 = 22) ∨ b9 = 156) M M := Fr.rf
  refine lv_aload_n hx hb dX12_writesWord_0 rfl (lv_at hl 0 rfl) ?_
  refine lv_iconst (v := zI 0) hx hb dX12_writesWord_1 rfl ?_
  refine u_12_22 F w (a := 146) rfl tb_698 dX12_writesWord_2 (fun H locs w => ?_)
  refine lv_iconst (v := zI 0) hx hb dX12_writesWord_5 rfl ?_
  refine lv_istore_n (lv' := [(1, .int (zI 0)), (0, .ref (B + 146))]) hx hb dX12_writesWord_6 rfl hl (by decide) rfl (fun ls hl => ?_)
  have lp7 : ∀ (f : Nat) (v1_7 : Int) (g146_22_7 : Int) (NL7 : Mem), (0 ≤ v1_7 ∧ v1_7 ≤ 12) → (0 ≤ g146_22_7 ∧ g146_22_7 ≤ 260) → NL7.1 146 22 = zI g146_22_7 → NL7.1 148 0 = zI nn → (g146_22_7 ≤ v1_7) → IvR NL7 → Fr (fun b9 k9 => (b9 = 146 ∧ k9 = 22) ∨ b9 = 156) NL7 M → (Int.toNat (12 - v1_7) < f) → ∀ (H : Heap) (locs : List Loc) (ls : Array Slot), Wd D B cy s s.heap NL7 H locs → lv_has ls 4 [(1, .int (zI v1_7)), (0, .ref (B + 146))] → W p l e (rmm 2 42) s m args below meth c H locs 0 0 Q (F0 m 7 ls []) := by
    intro f
    induction f with
    | zero => intros; omega
    | succ f ih7 =>
      intro v1_7 g146_22_7 NL7 iv1_7 ig146_22_7 eg146_22_7 eg148_0_7 y7_0 hIL7 hFL7 hf7 H locs ls w hl
      refine lv_iload_n hx hb dX12_writesWord_7 rfl (lv_at hl 0 rfl) ?_
      refine lv_aload_n hx hb dX12_writesWord_8 rfl (lv_at hl 1 rfl) ?_
      refine f_12_2 F w (a := 146) rfl tb_45 dX12_writesWord_9 ?_
      refine lv_iconst (v := zI 0) hx hb dX12_writesWord_12 rfl ?_
      refine g_iald F w (a := 148) rfl (j := 0) ⟨by decide, by decide⟩ (by omega) dX12_writesWord_13 ?_
      refine r_val (v := zI nn) (eg148_0_7) ?_
      refine z_icmp_ge (tgt := 62) hx hb (by omega) (by omega) dX12_writesWord_14 (by decide) (fun c1 => ?_) (fun c1 => ?_)
      · refine lv_aload_n hx hb dX12_writesWord_62 rfl (lv_at hl 1 rfl) ?_
        refine lv_bipush (v := zI 47) hx hb dX12_writesWord_63 (by decide) ?_
        refine k_Vv F w (As := [.int (zI 47)]) (rest := []) (a := 146) (kd_lt (a := 146) (show kd 146 = (12, 0, 0) from rfl) (by decide)) (sh_12 rfl _ _) rfl (q_X12_writes (x := 47) ⟨by omega, by omega⟩ (tm := g146_22_7) (eg146_22_7) ⟨by omega, by omega⟩ (by omega) hIL7) gv_X12_294 hv_X12_writes ⟨(Nat.le_of_ble_eq_true rfl), (Nat.le_of_ble_eq_true rfl)⟩ hl.1 rfl (Nat.le_of_ble_eq_true rfl) ⟨Nat.zero_le _, Nat.zero_le _⟩ dX12_writesWord_65 (fun N3 H locs hp w => ?_)
        obtain ⟨⟨nz40, enz40, xz4⟩, hIN3, hFN3⟩ := hp
        have hGN3 := Fr.tr hFL7 hFN3 (S := (fun b9 k9 => (b9 = 146 ∧ k9 = 22) ∨ b9 = 156)) (fun b k h => by (try dsimp only at h ⊢); rcases h with ⟨rfl, rfl⟩ | rfl <;> first | decide | omega)
        have kn5 : N3.1 148 0 = zI nn := (hFN3 148 0 (by first | decide | (dsimp only; first | done | decide | omega) | omega)).trans (eg148_0_7)
        refine lv_iconst (v := zI 0) hx hb dX12_writesWord_68 rfl ?_
        refine lv_istore_n (lv' := [(1, .int (zI 0)), (0, .ref (B + 146))]) hx hb dX12_writesWord_69 rfl hl (by decide) rfl (fun ls hl => ?_)
        have lp70 : ∀ (f : Nat) (v1_70 : Int) (g146_22_70 : Int) (NL70 : Mem), (0 ≤ v1_70 ∧ v1_70 ≤ 12) → (0 ≤ g146_22_70 ∧ g146_22_70 ≤ 260) → NL70.1 146 22 = zI g146_22_70 → NL70.1 148 0 = zI nn → (g146_22_70 ≤ 13 + 2 * v1_70) → IvR NL70 → Fr (fun b9 k9 => (b9 = 146 ∧ k9 = 22) ∨ b9 = 156) NL70 M → (Int.toNat (12 - v1_70) < f) → ∀ (H : Heap) (locs : List Loc) (ls : Array Slot), Wd D B cy s s.heap NL70 H locs → lv_has ls 4 [(1, .int (zI v1_70)), (0, .ref (B + 146))] → W p l e (rmm 2 42) s m args below meth c H locs 0 0 Q (F0 m 70 ls []) := by
          intro f
          induction f with
          | zero => intros; omega
          | succ f ih70 =>
            intro v1_70 g146_22_70 NL70 iv1_70 ig146_22_70 eg146_22_70 eg148_0_70 y70_0 hIL70 hFL70 hf70 H locs ls w hl
            refine lv_iload_n hx hb dX12_writesWord_70 rfl (lv_at hl 0 rfl) ?_
            refine lv_aload_n hx hb dX12_writesWord_71 rfl (lv_at hl 1 rfl) ?_
            refine f_12_2 F w (a := 146) rfl tb_45 dX12_writesWord_72 ?_
            refine lv_bipush (v := zI 25) hx hb dX12_writesWord_75 (by decide) ?_
            refine g_iald F w (a := 148) rfl (j := 25) ⟨by decide, by decide⟩ (by omega) dX12_writesWord_77 ?_
            obtain ⟨z6, bz6, ez6⟩ := IvR.ld (k := 25) hIL70 (show ivr 148 25 = (0, 12) from rfl) (show 146 ≤ 148 ∧ 148 < 159 by decide)
            refine r_val ez6 ?_
            refine z_icmp_ge (tgt := 132) hx hb (by omega) (by omega) dX12_writesWord_78 (by decide) (fun c7 => ?_) (fun c7 => ?_)
            · refine lv_aload_n hx hb dX12_writesWord_132 rfl (lv_at hl 1 rfl) ?_
              refine lv_bipush (v := zI 47) hx hb dX12_writesWord_133 (by decide) ?_
              refine k_Vv F w (As := [.int (zI 47)]) (rest := []) (a := 146) (kd_lt (a := 146) (show kd 146 = (12, 0, 0) from rfl) (by decide)) (sh_12 rfl _ _) rfl (q_X12_writes (x := 47) ⟨by omega, by omega⟩ (tm := g146_22_70) (eg146_22_70) ⟨by omega, by omega⟩ (by omega) hIL70) gv_X12_294 hv_X12_writes ⟨(Nat.le_of_ble_eq_true rfl), (Nat.le_of_ble_eq_true rfl)⟩ hl.1 rfl (Nat.le_of_ble_eq_true rfl) ⟨Nat.zero_le _, Nat.zero_le _⟩ dX12_writesWord_135 (fun N9 H locs hp w => ?_)
              obtain ⟨⟨nz100, enz100, xz10⟩, hIN9, hFN9⟩ := hp
              have hGN9 := Fr.tr hFL70 hFN9 (S := (fun b9 k9 => (b9 = 146 ∧ k9 = 22) ∨ b9 = 156)) (fun b k h => by (try dsimp only at h ⊢); rcases h with ⟨rfl, rfl⟩ | rfl <;> first | decide | omega)
              have kn11 : N9.1 148 0 = zI nn := (hFN9 148 0 (by first | decide | (dsimp only; first | done | decide | omega) | omega)).trans (eg148_0_70)
              have kn12 : N9.1 148 25 = zI z6 := (hFN9 148 25 (by first | decide | (dsimp only; first | done | decide | omega) | omega)).trans (ez6)
              refine lv_iconst (v := zI 1) hx hb dX12_writesWord_138 rfl ?_
              refine lv_istore_n (lv' := [(1, .int (zI 1)), (0, .ref (B + 146))]) hx hb dX12_writesWord_139 rfl hl (by decide) rfl (fun ls hl => ?_)
              refine lv_iconst (v := zI 0) hx hb dX12_writesWord_140 rfl ?_
              refine lv_istore_n (lv' := [(2, .int (zI 0)), (1, .int (zI 1)), (0, .ref (B + 146))]) hx hb dX12_writesWord_141 rfl hl (by decide) rfl (fun ls hl => ?_)
              have lp142 : ∀ (f : Nat) (v2_142 : Int) (v1_142 : Int) (g146_22_142 : Int) (NL142 : Mem), (0 ≤ v2_142 ∧ v2_142 ≤ 12) → (0 ≤ v1_142 ∧ v1_142 ≤ 1) → (0 ≤ g146_22_142 ∧ g146_22_142 ≤ 260) → NL142.1 146 22 = zI g146_22_142 → NL142.1 148 0 = zI nn → NL142.1 148 25 = zI z6 → (∀ u j : Nat, v2_142 ≤ (u : Int) → (u : Int) < nn → j < 12 → bt (M.1 148 (13 + u)) j = true → g146_22_142 ≤ 38 + 6 * ((u : Int) + (j : Int))) → (g146_22_142 ≤ 176) → IvR NL142 → Fr (fun b9 k9 => (b9 = 146 ∧ k9 = 22) ∨ b9 = 156) NL142 M → (Int.toNat (12 - v2_142) < f) → ∀ (H : Heap) (locs : List Loc) (ls : Array Slot), Wd D B cy s s.heap NL142 H locs → lv_has ls 4 [(2, .int (zI v2_142)), (1, .int (zI v1_142)), (0, .ref (B + 146))] → W p l e (rmm 2 42) s m args below meth c H locs 0 0 Q (F0 m 142 ls []) := by
                intro f
                induction f with
                | zero => intros; omega
                | succ f ih142 =>
                  intro v2_142 v1_142 g146_22_142 NL142 iv2_142 iv1_142 ig146_22_142 eg146_22_142 eg148_0_142 eg148_25_142 y142_0 y142_1 hIL142 hFL142 hf142 H locs ls w hl
                  refine lv_iload_n hx hb dX12_writesWord_142 rfl (lv_at hl 0 rfl) ?_
                  refine lv_aload_n hx hb dX12_writesWord_143 rfl (lv_at hl 2 rfl) ?_
                  refine f_12_2 F w (a := 146) rfl tb_45 dX12_writesWord_144 ?_
                  refine lv_iconst (v := zI 0) hx hb dX12_writesWord_147 rfl ?_
                  refine g_iald F w (a := 148) rfl (j := 0) ⟨by decide, by decide⟩ (by omega) dX12_writesWord_148 ?_
                  refine r_val (v := zI nn) (eg148_0_142) ?_
                  refine z_icmp_ge (tgt := 224) hx hb (by omega) (by omega) dX12_writesWord_149 (by decide) (fun c13 => ?_) (fun c13 => ?_)
                  · rw [hQ]
                    exact e_v F w hr hlocks ⟨hIL142, hFL142⟩ dX12_writesWord_224
                  · refine lv_iconst (v := zI 0) hx hb dX12_writesWord_152 rfl ?_
                    refine lv_istore_n (lv' := [(3, .int (zI 0)), (2, .int (zI v2_142)), (1, .int (zI v1_142)), (0, .ref (B + 146))]) hx hb dX12_writesWord_153 rfl hl (by decide) rfl (fun ls hl => ?_)
                    have lp154 : ∀ (f : Nat) (v3_154 : Int) (v1_154 : Int) (g146_22_154 : Int) (NL154 : Mem), (0 ≤ v3_154 ∧ v3_154 ≤ 12) → (0 ≤ v1_154 ∧ v1_154 ≤ 1) → (0 ≤ g146_22_154 ∧ g146_22_154 ≤ 260) → NL154.1 146 22 = zI g146_22_154 → NL154.1 148 0 = zI nn → NL154.1 148 25 = zI z6 → (∀ u j : Nat, (v2_142 < (u : Int) ∨ (v2_142 = (u : Int) ∧ v3_154 ≤ (j : Int))) → (u : Int) < nn → j < 12 → bt (M.1 148 (13 + u)) j = true → g146_22_154 ≤ 38 + 6 * ((u : Int) + (j : Int))) → (g146_22_154 ≤ 176) → IvR NL154 → Fr (fun b9 k9 => (b9 = 146 ∧ k9 = 22) ∨ b9 = 156) NL154 M → (Int.toNat (12 - v3_154) < f) → ∀ (H : Heap) (locs : List Loc) (ls : Array Slot), Wd D B cy s s.heap NL154 H locs → lv_has ls 4 [(3, .int (zI v3_154)), (2, .int (zI v2_142)), (1, .int (zI v1_154)), (0, .ref (B + 146))] → W p l e (rmm 2 42) s m args below meth c H locs 0 0 Q (F0 m 154 ls []) := by
                      intro f
                      induction f with
                      | zero => intros; omega
                      | succ f ih154 =>
                        intro v3_154 v1_154 g146_22_154 NL154 iv3_154 iv1_154 ig146_22_154 eg146_22_154 eg148_0_154 eg148_25_154 y154_0 y154_1 hIL154 hFL154 hf154 H locs ls w hl
                        refine lv_iload_n hx hb dX12_writesWord_154 rfl (lv_at hl 0 rfl) ?_
                        refine lv_aload_n hx hb dX12_writesWord_155 rfl (lv_at hl 3 rfl) ?_
                        refine f_12_2 F w (a := 146) rfl tb_45 dX12_writesWord_156 ?_
                        refine lv_bipush (v := zI 25) hx hb dX12_writesWord_159 (by decide) ?_
                        refine g_iald F w (a := 148) rfl (j := 25) ⟨by decide, by decide⟩ (by omega) dX12_writesWord_161 ?_
                        refine r_val (v := zI z6) (eg148_25_154) ?_
                        refine z_icmp_ge (tgt := 218) hx hb (by omega) (by omega) dX12_writesWord_162 (by decide) (fun c14 => ?_) (fun c14 => ?_)
                        · refine z_iinc (v := (v2_142 + 1)) (lv' := [(2, .int (zI (v2_142 + 1))), (3, .int (zI v3_154)), (1, .int (zI v1_154)), (0, .ref (B + 146))]) hx hb dX12_writesWord_218 hl (k := 1) rfl (by omega) (by decide) rfl (fun ls hl => ?_)
                          refine lv_goto (tgt := 142) hx hb dX12_writesWord_221 (by decide) ?_
                          exact ih142 (v2_142 + 1) v1_154 g146_22_154 NL154 (by omega) (by omega) (by omega) (eg146_22_154) (eg148_0_154) (eg148_25_154) (fun u j h1 h2 h3 h4 => y154_0 u j (by omega) h2 h3 h4) (by omega) hIL154 hFL154 (by omega) _ _ _ w (lv_sub hl [0, 2, 3] rfl)
                        · refine lv_aload_n hx hb dX12_writesWord_165 rfl (lv_at hl 3 rfl) ?_
                          refine f_12_2 F w (a := 146) rfl tb_45 dX12_writesWord_166 ?_
                          refine lv_bipush (v := zI 13) hx hb dX12_writesWord_169 (by decide) ?_
                          refine lv_iload_n hx hb dX12_writesWord_171 rfl (lv_at hl 1 rfl) ?_
                          refine z_iadd (z := (v2_142 + 13)) hx hb dX12_writesWord_172 (by omega) ?_
                          refine g_iald F w (a := 148) rfl (j := (13 + Int.toNat v2_142)) (ix_l (t := v2_142) (by omega) (by omega)) (by omega) dX12_writesWord_173 ?_
                          obtain ⟨z15, bz15, ez15⟩ := IvR.ld (k := (13 + Int.toNat v2_142)) hIL154 (wiv_l (a := 148) (k := (13 + Int.toNat v2_142)) (by omega) (by omega)) (show 146 ≤ 148 ∧ 148 < 159 by decide)
                          refine r_val ez15 ?_
                          refine lv_iload_n hx hb dX12_writesWord_174 rfl (lv_at hl 0 rfl) ?_
                          refine k_Si F w (As := [.int (zI z15), .int (zI v3_154)]) (rest := []) (q_isInB (x := z15) ⟨by omega, by omega⟩ (x1 := v3_154) ⟨by omega, by omega⟩ ) gs_X12_51 hs_X12_isIn ⟨(Nat.le_of_ble_eq_true rfl), (Nat.le_of_ble_eq_true rfl)⟩ hl.1 rfl (Nat.le_of_ble_eq_true rfl) ⟨Nat.zero_le _, Nat.zero_le _⟩ dX12_writesWord_175 (fun r16 N17 H locs hp w => ?_)
                          obtain ⟨z18, rfl, bz18, xz18, hMN17⟩ := hp
                          rw [hMN17] at w
                          refine z_if_ne (tgt := 184) hx hb (by omega) dX12_writesWord_178 (by decide) (fun c19 => ?_) (fun c19 => ?_)
                          · refine lv_iload_n hx hb dX12_writesWord_184 rfl (lv_at hl 2 rfl) ?_
                            have hbt9 : bt (M.1 148 (13 + Int.toNat v2_142)) (Int.toNat v3_154) = true := by
                              have q9 := Or.resolve_left xz18 (by omega)
                              rw [← ez15, hFL154 148 _ (by first | decide | (dsimp only; first | done | decide | omega) | omega)] at q9
                              exact q9
                            have hwm9 := y154_0 (Int.toNat v2_142) (Int.toNat v3_154) (by omega) (by omega) (by omega) hbt9
                            refine z_if_ne (tgt := 194) hx hb (by omega) dX12_writesWord_185 (by decide) (fun c20 => ?_) (fun c20 => ?_)
                            · refine lv_aload_n hx hb dX12_writesWord_194 rfl (lv_at hl 3 rfl) ?_
                              refine lv_iload_n hx hb dX12_writesWord_195 rfl (lv_at hl 1 rfl) ?_
                              refine k_Vv F w (As := [.int (zI v2_142)]) (rest := []) (a := 146) (kd_lt (a := 146) (show kd 146 = (12, 0, 0) from rfl) (by decide)) (sh_12 rfl _ _) rfl (q_X12_writesNumber (x := v2_142) ⟨by omega, by omega⟩ (tm := g146_22_154) (eg146_22_154) ⟨by omega, by omega⟩ (by omega) hIL154) gv_X12_297 hv_X12_writesNumber ⟨(Nat.le_of_ble_eq_true rfl), (Nat.le_of_ble_eq_true rfl)⟩ hl.1 rfl (Nat.le_of_ble_eq_true rfl) ⟨Nat.zero_le _, Nat.zero_le _⟩ dX12_writesWord_196 (fun N22 H locs hp w => ?_)
                              obtain ⟨⟨nz230, enz230, xz23⟩, hIN22, hFN22⟩ := hp
                              have hGN22 := Fr.tr hFL154 hFN22 (S := (fun b9 k9 => (b9 = 146 ∧ k9 = 22) ∨ b9 = 156)) (fun b k h => by (try dsimp only at h ⊢); rcases h with ⟨rfl, rfl⟩ | rfl <;> first | decide | omega)
                              have kn24 : N22.1 148 0 = zI nn := (hFN22 148 0 (by first | decide | (dsimp only; first | done | decide | omega) | omega)).trans (eg148_0_154)
                              have kn25 : N22.1 148 25 = zI z6 := (hFN22 148 25 (by first | decide | (dsimp only; first | done | decide | omega) | omega)).trans (eg148_25_154)
                              refine lv_aload_n hx hb dX12_writesWord_199 rfl (lv_at hl 3 rfl) ?_
                              refine lv_bipush (v := zI 58) hx hb dX12_writesWord_200 (by decide) ?_
                              refine k_Vv F w (As := [.int (zI 58)]) (rest := []) (a := 146) (kd_lt (a := 146) (show kd 146 = (12, 0, 0) from rfl) (by decide)) (sh_12 rfl _ _) rfl (q_X12_writes (x := 58) ⟨by omega, by omega⟩ (tm := nz230) (enz230) ⟨by omega, by omega⟩ (by omega) hIN22) gv_X12_294 hv_X12_writes ⟨(Nat.le_of_ble_eq_true rfl), (Nat.le_of_ble_eq_true rfl)⟩ hl.1 rfl (Nat.le_of_ble_eq_true rfl) ⟨Nat.zero_le _, Nat.zero_le _⟩ dX12_writesWord_202 (fun N27 H locs hp w => ?_)
                              obtain ⟨⟨nz280, enz280, xz28⟩, hIN27, hFN27⟩ := hp
                              have hGN27 := Fr.tr hGN22 hFN27 (S := (fun b9 k9 => (b9 = 146 ∧ k9 = 22) ∨ b9 = 156)) (fun b k h => by (try dsimp only at h ⊢); rcases h with ⟨rfl, rfl⟩ | rfl <;> first | decide | omega)
                              have kn29 : N27.1 148 0 = zI nn := (hFN27 148 0 (by first | decide | (dsimp only; first | done | decide | omega) | omega)).trans (kn24)
                              have kn30 : N27.1 148 25 = zI z6 := (hFN27 148 25 (by first | decide | (dsimp only; first | done | decide | omega) | omega)).trans (kn25)
                              refine lv_aload_n hx hb dX12_writesWord_205 rfl (lv_at hl 3 rfl) ?_
                              refine lv_iload_n hx hb dX12_writesWord_206 rfl (lv_at hl 0 rfl) ?_
                              refine k_Vv F w (As := [.int (zI v3_154)]) (rest := []) (a := 146) (kd_lt (a := 146) (show kd 146 = (12, 0, 0) from rfl) (by decide)) (sh_12 rfl _ _) rfl (q_X12_writesNumber (x := v3_154) ⟨by omega, by omega⟩ (tm := nz280) (enz280) ⟨by omega, by omega⟩ (by omega) hIN27) gv_X12_297 hv_X12_writesNumber ⟨(Nat.le_of_ble_eq_true rfl), (Nat.le_of_ble_eq_true rfl)⟩ hl.1 rfl (Nat.le_of_ble_eq_true rfl) ⟨Nat.zero_le _, Nat.zero_le _⟩ dX12_writesWord_207 (fun N32 H locs hp w => ?_)
                              obtain ⟨⟨nz330, enz330, xz33⟩, hIN32, hFN32⟩ := hp
                              have hGN32 := Fr.tr hGN27 hFN32 (S := (fun b9 k9 => (b9 = 146 ∧ k9 = 22) ∨ b9 = 156)) (fun b k h => by (try dsimp only at h ⊢); rcases h with ⟨rfl, rfl⟩ | rfl <;> first | decide | omega)
                              have kn34 : N32.1 148 0 = zI nn := (hFN32 148 0 (by first | decide | (dsimp only; first | done | decide | omega) | omega)).trans (kn29)
                              have kn35 : N32.1 148 25 = zI z6 := (hFN32 148 25 (by first | decide | (dsimp only; first | done | decide | omega) | omega)).trans (kn30)
                              refine lv_iconst (v := zI 0) hx hb dX12_writesWord_210 rfl ?_
                              refine lv_istore_n (lv' := [(1, .int (zI 0)), (3, .int (zI v3_154)), (2, .int (zI v2_142)), (0, .ref (B + 146))]) hx hb dX12_writesWord_211 rfl hl (by decide) rfl (fun ls hl => ?_)
                              refine z_iinc (v := (v3_154 + 1)) (lv' := [(3, .int (zI (v3_154 + 1))), (1, .int (zI 0)), (2, .int (zI v2_142)), (0, .ref (B + 146))]) hx hb dX12_writesWord_212 hl (k := 1) rfl (by omega) (by decide) rfl (fun ls hl => ?_)
                              refine lv_goto (tgt := 154) hx hb dX12_writesWord_215 (by decide) ?_
                              exact ih154 (v3_154 + 1) 0 nz330 N32 (by omega) (by omega) (by omega) (enz330) (kn34) (kn35) (fun u j h1 h2 h3 h4 => by have h5 : v2_142 < (u : Int) → v3_154 ≤ (j : Int) := (fun h6 => wr_nc hI hgnn hnn (by omega) (by omega) h6 h2 h3 hbt9 h4); omega) (by omega) hIN32 hGN32 (by omega) _ _ _ w (lv_sub hl [0, 2, 1, 3] rfl)
                            · refine lv_aload_n hx hb dX12_writesWord_188 rfl (lv_at hl 3 rfl) ?_
                              refine lv_bipush (v := zI 32) hx hb dX12_writesWord_189 (by decide) ?_
                              refine k_Vv F w (As := [.int (zI 32)]) (rest := []) (a := 146) (kd_lt (a := 146) (show kd 146 = (12, 0, 0) from rfl) (by decide)) (sh_12 rfl _ _) rfl (q_X12_writes (x := 32) ⟨by omega, by omega⟩ (tm := g146_22_154) (eg146_22_154) ⟨by omega, by omega⟩ (by omega) hIL154) gv_X12_294 hv_X12_writes ⟨(Nat.le_of_ble_eq_true rfl), (Nat.le_of_ble_eq_true rfl)⟩ hl.1 rfl (Nat.le_of_ble_eq_true rfl) ⟨Nat.zero_le _, Nat.zero_le _⟩ dX12_writesWord_191 (fun N37 H locs hp w => ?_)
                              obtain ⟨⟨nz380, enz380, xz38⟩, hIN37, hFN37⟩ := hp
                              have hGN37 := Fr.tr hFL154 hFN37 (S := (fun b9 k9 => (b9 = 146 ∧ k9 = 22) ∨ b9 = 156)) (fun b k h => by (try dsimp only at h ⊢); rcases h with ⟨rfl, rfl⟩ | rfl <;> first | decide | omega)
                              have kn39 : N37.1 148 0 = zI nn := (hFN37 148 0 (by first | decide | (dsimp only; first | done | decide | omega) | omega)).trans (eg148_0_154)
                              have kn40 : N37.1 148 25 = zI z6 := (hFN37 148 25 (by first | decide | (dsimp only; first | done | decide | omega) | omega)).trans (eg148_25_154)
                              refine lv_aload_n hx hb dX12_writesWord_194 rfl (lv_at hl 3 rfl) ?_
                              refine lv_iload_n hx hb dX12_writesWord_195 rfl (lv_at hl 1 rfl) ?_
                              refine k_Vv F w (As := [.int (zI v2_142)]) (rest := []) (a := 146) (kd_lt (a := 146) (show kd 146 = (12, 0, 0) from rfl) (by decide)) (sh_12 rfl _ _) rfl (q_X12_writesNumber (x := v2_142) ⟨by omega, by omega⟩ (tm := nz380) (enz380) ⟨by omega, by omega⟩ (by omega) hIN37) gv_X12_297 hv_X12_writesNumber ⟨(Nat.le_of_ble_eq_true rfl), (Nat.le_of_ble_eq_true rfl)⟩ hl.1 rfl (Nat.le_of_ble_eq_true rfl) ⟨Nat.zero_le _, Nat.zero_le _⟩ dX12_writesWord_196 (fun N42 H locs hp w => ?_)
                              obtain ⟨⟨nz430, enz430, xz43⟩, hIN42, hFN42⟩ := hp
                              have hGN42 := Fr.tr hGN37 hFN42 (S := (fun b9 k9 => (b9 = 146 ∧ k9 = 22) ∨ b9 = 156)) (fun b k h => by (try dsimp only at h ⊢); rcases h with ⟨rfl, rfl⟩ | rfl <;> first | decide | omega)
                              have kn44 : N42.1 148 0 = zI nn := (hFN42 148 0 (by first | decide | (dsimp only; first | done | decide | omega) | omega)).trans (kn39)
                              have kn45 : N42.1 148 25 = zI z6 := (hFN42 148 25 (by first | decide | (dsimp only; first | done | decide | omega) | omega)).trans (kn40)
                              refine lv_aload_n hx hb dX12_writesWord_199 rfl (lv_at hl 3 rfl) ?_
                              refine lv_bipush (v := zI 58) hx hb dX12_writesWord_200 (by decide) ?_
                              refine k_Vv F w (As := [.int (zI 58)]) (rest := []) (a := 146) (kd_lt (a := 146) (show kd 146 = (12, 0, 0) from rfl) (by decide)) (sh_12 rfl _ _) rfl (q_X12_writes (x := 58) ⟨by omega, by omega⟩ (tm := nz430) (enz430) ⟨by omega, by omega⟩ (by omega) hIN42) gv_X12_294 hv_X12_writes ⟨(Nat.le_of_ble_eq_true rfl), (Nat.le_of_ble_eq_true rfl)⟩ hl.1 rfl (Nat.le_of_ble_eq_true rfl) ⟨Nat.zero_le _, Nat.zero_le _⟩ dX12_writesWord_202 (fun N47 H locs hp w => ?_)
                              obtain ⟨⟨nz480, enz480, xz48⟩, hIN47, hFN47⟩ := hp
                              have hGN47 := Fr.tr hGN42 hFN47 (S := (fun b9 k9 => (b9 = 146 ∧ k9 = 22) ∨ b9 = 156)) (fun b k h => by (try dsimp only at h ⊢); rcases h with ⟨rfl, rfl⟩ | rfl <;> first | decide | omega)
                              have kn49 : N47.1 148 0 = zI nn := (hFN47 148 0 (by first | decide | (dsimp only; first | done | decide | omega) | omega)).trans (kn44)
                              have kn50 : N47.1 148 25 = zI z6 := (hFN47 148 25 (by first | decide | (dsimp only; first | done | decide | omega) | omega)).trans (kn45)
                              refine lv_aload_n hx hb dX12_writesWord_205 rfl (lv_at hl 3 rfl) ?_
                              refine lv_iload_n hx hb dX12_writesWord_206 rfl (lv_at hl 0 rfl) ?_
                              refine k_Vv F w (As := [.int (zI v3_154)]) (rest := []) (a := 146) (kd_lt (a := 146) (show kd 146 = (12, 0, 0) from rfl) (by decide)) (sh_12 rfl _ _) rfl (q_X12_writesNumber (x := v3_154) ⟨by omega, by omega⟩ (tm := nz480) (enz480) ⟨by omega, by omega⟩ (by omega) hIN47) gv_X12_297 hv_X12_writesNumber ⟨(Nat.le_of_ble_eq_true rfl), (Nat.le_of_ble_eq_true rfl)⟩ hl.1 rfl (Nat.le_of_ble_eq_true rfl) ⟨Nat.zero_le _, Nat.zero_le _⟩ dX12_writesWord_207 (fun N52 H locs hp w => ?_)
                              obtain ⟨⟨nz530, enz530, xz53⟩, hIN52, hFN52⟩ := hp
                              have hGN52 := Fr.tr hGN47 hFN52 (S := (fun b9 k9 => (b9 = 146 ∧ k9 = 22) ∨ b9 = 156)) (fun b k h => by (try dsimp only at h ⊢); rcases h with ⟨rfl, rfl⟩ | rfl <;> first | decide | omega)
                              have kn54 : N52.1 148 0 = zI nn := (hFN52 148 0 (by first | decide | (dsimp only; first | done | decide | omega) | omega)).trans (kn49)
                              have kn55 : N52.1 148 25 = zI z6 := (hFN52 148 25 (by first | decide | (dsimp only; first | done | decide | omega) | omega)).trans (kn50)
                              refine lv_iconst (v := zI 0) hx hb dX12_writesWord_210 rfl ?_
                              refine lv_istore_n (lv' := [(1, .int (zI 0)), (3, .int (zI v3_154)), (2, .int (zI v2_142)), (0, .ref (B + 146))]) hx hb dX12_writesWord_211 rfl hl (by decide) rfl (fun ls hl => ?_)
                              refine z_iinc (v := (v3_154 + 1)) (lv' := [(3, .int (zI (v3_154 + 1))), (1, .int (zI 0)), (2, .int (zI v2_142)), (0, .ref (B + 146))]) hx hb dX12_writesWord_212 hl (k := 1) rfl (by omega) (by decide) rfl (fun ls hl => ?_)
                              refine lv_goto (tgt := 154) hx hb dX12_writesWord_215 (by decide) ?_
                              exact ih154 (v3_154 + 1) 0 nz530 N52 (by omega) (by omega) (by omega) (enz530) (kn54) (kn55) (fun u j h1 h2 h3 h4 => by have h5 : v2_142 < (u : Int) → v3_154 ≤ (j : Int) := (fun h6 => wr_nc hI hgnn hnn (by omega) (by omega) h6 h2 h3 hbt9 h4); omega) (by omega) hIN52 hGN52 (by omega) _ _ _ w (lv_sub hl [0, 2, 1, 3] rfl)
                          · refine lv_goto (tgt := 212) hx hb dX12_writesWord_181 (by decide) ?_
                            refine z_iinc (v := (v3_154 + 1)) (lv' := [(3, .int (zI (v3_154 + 1))), (2, .int (zI v2_142)), (1, .int (zI v1_154)), (0, .ref (B + 146))]) hx hb dX12_writesWord_212 hl (k := 0) rfl (by omega) (by decide) rfl (fun ls hl => ?_)
                            refine lv_goto (tgt := 154) hx hb dX12_writesWord_215 (by decide) ?_
                            exact ih154 (v3_154 + 1) v1_154 g146_22_154 NL154 (by omega) (by omega) (by omega) (eg146_22_154) (eg148_0_154) (eg148_25_154) (fun u j h1 h2 h3 h4 => y154_0 u j (by omega) h2 h3 h4) (by omega) hIL154 hFL154 (by omega) _ _ _ w (lv_sub hl [0, 1, 2, 3] rfl)
                    exact lp154 _ 0 v1_142 g146_22_142 NL142 (by omega) (by omega) (by omega) (eg146_22_142) (eg148_0_142) (eg148_25_142) (fun u j h1 h2 h3 h4 => y142_0 u j (by omega) h2 h3 h4) (by omega) hIL142 hFL142 (Nat.lt_succ_self _) _ _ _ w (lv_sub hl [0, 1, 2, 3] rfl)
              exact lp142 _ 0 1 nz100 N9 (by omega) (by omega) (by omega) (enz100) (kn11) (kn12) (fun u j h1 h2 h3 h4 => by omega) (by omega) hIN9 hGN9 (Nat.lt_succ_self _) _ _ _ w (lv_sub hl [0, 1, 2] rfl)
            · refine lv_aload_n hx hb dX12_writesWord_81 rfl (lv_at hl 1 rfl) ?_
              refine f_12_2 F w (a := 146) rfl tb_45 dX12_writesWord_82 ?_
              refine lv_bipush (v := zI 27) hx hb dX12_writesWord_85 (by decide) ?_
              refine g_iald F w (a := 148) rfl (j := 27) ⟨by decide, by decide⟩ (by omega) dX12_writesWord_87 ?_
              obtain ⟨z56, bz56, ez56⟩ := IvR.ld (k := 27) hIL70 (show ivr 148 27 = (0, 4095) from rfl) (show 146 ≤ 148 ∧ 148 < 159 by decide)
              refine r_val ez56 ?_
              refine lv_iload_n hx hb dX12_writesWord_88 rfl (lv_at hl 0 rfl) ?_
              refine k_Si F w (As := [.int (zI z56), .int (zI v1_70)]) (rest := []) (q_X12_isIn (x := z56) ⟨by omega, by omega⟩ (x1 := v1_70) ⟨by omega, by omega⟩  hIL70) gs_X12_51 hs_X12_isIn ⟨(Nat.le_of_ble_eq_true rfl), (Nat.le_of_ble_eq_true rfl)⟩ hl.1 rfl (Nat.le_of_ble_eq_true rfl) ⟨Nat.zero_le _, Nat.zero_le _⟩ dX12_writesWord_89 (fun r57 N58 H locs hp w => ?_)
              obtain ⟨z59, rfl, bz59, hMN58⟩ := hp
              rw [hMN58] at w
              refine z_if_eq (tgt := 101) hx hb (by omega) dX12_writesWord_92 (by decide) (fun c60 => ?_) (fun c60 => ?_)
              · refine lv_aload_n hx hb dX12_writesWord_101 rfl (lv_at hl 1 rfl) ?_
                refine lv_aload_n hx hb dX12_writesWord_102 rfl (lv_at hl 1 rfl) ?_
                refine f_12_2 F w (a := 146) rfl tb_45 dX12_writesWord_103 ?_
                refine lv_bipush (v := zI 26) hx hb dX12_writesWord_106 (by decide) ?_
                refine g_iald F w (a := 148) rfl (j := 26) ⟨by decide, by decide⟩ (by omega) dX12_writesWord_108 ?_
                obtain ⟨z61, bz61, ez61⟩ := IvR.ld (k := 26) hIL70 (show ivr 148 26 = (0, 4095) from rfl) (show 146 ≤ 148 ∧ 148 < 159 by decide)
                refine r_val ez61 ?_
                refine lv_iload_n hx hb dX12_writesWord_109 rfl (lv_at hl 0 rfl) ?_
                refine k_Si F w (As := [.int (zI z61), .int (zI v1_70)]) (rest := [.ref (B + 146)]) (q_X12_isIn (x := z61) ⟨by omega, by omega⟩ (x1 := v1_70) ⟨by omega, by omega⟩  hIL70) gs_X12_51 hs_X12_isIn ⟨(Nat.le_of_ble_eq_true rfl), (Nat.le_of_ble_eq_true rfl)⟩ hl.1 rfl (Nat.le_of_ble_eq_true rfl) ⟨Nat.zero_le _, Nat.zero_le _⟩ dX12_writesWord_110 (fun r62 N63 H locs hp w => ?_)
                obtain ⟨z64, rfl, bz64, hMN63⟩ := hp
                rw [hMN63] at w
                refine z_if_eq (tgt := 121) hx hb (by omega) dX12_writesWord_113 (by decide) (fun c65 => ?_) (fun c65 => ?_)
                · refine lv_bipush (v := zI 111) hx hb dX12_writesWord_121 (by decide) ?_
                  refine k_Vv F w (As := [.int (zI 111)]) (rest := []) (a := 146) (kd_lt (a := 146) (show kd 146 = (12, 0, 0) from rfl) (by decide)) (sh_12 rfl _ _) rfl (q_X12_writes (x := 111) ⟨by omega, by omega⟩ (tm := g146_22_70) (eg146_22_70) ⟨by omega, by omega⟩ (by omega) hIL70) gv_X12_294 hv_X12_writes ⟨(Nat.le_of_ble_eq_true rfl), (Nat.le_of_ble_eq_true rfl)⟩ hl.1 rfl (Nat.le_of_ble_eq_true rfl) ⟨Nat.zero_le _, Nat.zero_le _⟩ dX12_writesWord_123 (fun N67 H locs hp w => ?_)
                  obtain ⟨⟨nz680, enz680, xz68⟩, hIN67, hFN67⟩ := hp
                  have hGN67 := Fr.tr hFL70 hFN67 (S := (fun b9 k9 => (b9 = 146 ∧ k9 = 22) ∨ b9 = 156)) (fun b k h => by (try dsimp only at h ⊢); rcases h with ⟨rfl, rfl⟩ | rfl <;> first | decide | omega)
                  have kn69 : N67.1 148 0 = zI nn := (hFN67 148 0 (by first | decide | (dsimp only; first | done | decide | omega) | omega)).trans (eg148_0_70)
                  have kn70 : N67.1 148 25 = zI z6 := (hFN67 148 25 (by first | decide | (dsimp only; first | done | decide | omega) | omega)).trans (ez6)
                  have kn71 : N67.1 148 27 = zI z56 := (hFN67 148 27 (by first | decide | (dsimp only; first | done | decide | omega) | omega)).trans (ez56)
                  have kn72 : N67.1 148 26 = zI z61 := (hFN67 148 26 (by first | decide | (dsimp only; first | done | decide | omega) | omega)).trans (ez61)
                  refine z_iinc (v := (v1_70 + 1)) (lv' := [(1, .int (zI (v1_70 + 1))), (0, .ref (B + 146))]) hx hb dX12_writesWord_126 hl (k := 0) rfl (by omega) (by decide) rfl (fun ls hl => ?_)
                  refine lv_goto (tgt := 70) hx hb dX12_writesWord_129 (by decide) ?_
                  exact ih70 (v1_70 + 1) nz680 N67 (by omega) (by omega) (enz680) (kn69) (by omega) hIN67 hGN67 (by omega) _ _ _ w (lv_sub hl [0, 1] rfl)
                · refine lv_bipush (v := zI 79) hx hb dX12_writesWord_116 (by decide) ?_
                  refine lv_goto (tgt := 123) hx hb dX12_writesWord_118 (by decide) ?_
                  refine k_Vv F w (As := [.int (zI 79)]) (rest := []) (a := 146) (kd_lt (a := 146) (show kd 146 = (12, 0, 0) from rfl) (by decide)) (sh_12 rfl _ _) rfl (q_X12_writes (x := 79) ⟨by omega, by omega⟩ (tm := g146_22_70) (eg146_22_70) ⟨by omega, by omega⟩ (by omega) hIL70) gv_X12_294 hv_X12_writes ⟨(Nat.le_of_ble_eq_true rfl), (Nat.le_of_ble_eq_true rfl)⟩ hl.1 rfl (Nat.le_of_ble_eq_true rfl) ⟨Nat.zero_le _, Nat.zero_le _⟩ dX12_writesWord_123 (fun N74 H locs hp w => ?_)
                  obtain ⟨⟨nz750, enz750, xz75⟩, hIN74, hFN74⟩ := hp
                  have hGN74 := Fr.tr hFL70 hFN74 (S := (fun b9 k9 => (b9 = 146 ∧ k9 = 22) ∨ b9 = 156)) (fun b k h => by (try dsimp only at h ⊢); rcases h with ⟨rfl, rfl⟩ | rfl <;> first | decide | omega)
                  have kn76 : N74.1 148 0 = zI nn := (hFN74 148 0 (by first | decide | (dsimp only; first | done | decide | omega) | omega)).trans (eg148_0_70)
                  have kn77 : N74.1 148 25 = zI z6 := (hFN74 148 25 (by first | decide | (dsimp only; first | done | decide | omega) | omega)).trans (ez6)
                  have kn78 : N74.1 148 27 = zI z56 := (hFN74 148 27 (by first | decide | (dsimp only; first | done | decide | omega) | omega)).trans (ez56)
                  have kn79 : N74.1 148 26 = zI z61 := (hFN74 148 26 (by first | decide | (dsimp only; first | done | decide | omega) | omega)).trans (ez61)
                  refine z_iinc (v := (v1_70 + 1)) (lv' := [(1, .int (zI (v1_70 + 1))), (0, .ref (B + 146))]) hx hb dX12_writesWord_126 hl (k := 0) rfl (by omega) (by decide) rfl (fun ls hl => ?_)
                  refine lv_goto (tgt := 70) hx hb dX12_writesWord_129 (by decide) ?_
                  exact ih70 (v1_70 + 1) nz750 N74 (by omega) (by omega) (enz750) (kn76) (by omega) hIN74 hGN74 (by omega) _ _ _ w (lv_sub hl [0, 1] rfl)
              · refine lv_aload_n hx hb dX12_writesWord_95 rfl (lv_at hl 1 rfl) ?_
                refine lv_bipush (v := zI 45) hx hb dX12_writesWord_96 (by decide) ?_
                refine k_Vv F w (As := [.int (zI 45)]) (rest := []) (a := 146) (kd_lt (a := 146) (show kd 146 = (12, 0, 0) from rfl) (by decide)) (sh_12 rfl _ _) rfl (q_X12_writes (x := 45) ⟨by omega, by omega⟩ (tm := g146_22_70) (eg146_22_70) ⟨by omega, by omega⟩ (by omega) hIL70) gv_X12_294 hv_X12_writes ⟨(Nat.le_of_ble_eq_true rfl), (Nat.le_of_ble_eq_true rfl)⟩ hl.1 rfl (Nat.le_of_ble_eq_true rfl) ⟨Nat.zero_le _, Nat.zero_le _⟩ dX12_writesWord_98 (fun N81 H locs hp w => ?_)
                obtain ⟨⟨nz820, enz820, xz82⟩, hIN81, hFN81⟩ := hp
                have hGN81 := Fr.tr hFL70 hFN81 (S := (fun b9 k9 => (b9 = 146 ∧ k9 = 22) ∨ b9 = 156)) (fun b k h => by (try dsimp only at h ⊢); rcases h with ⟨rfl, rfl⟩ | rfl <;> first | decide | omega)
                have kn83 : N81.1 148 0 = zI nn := (hFN81 148 0 (by first | decide | (dsimp only; first | done | decide | omega) | omega)).trans (eg148_0_70)
                have kn84 : N81.1 148 25 = zI z6 := (hFN81 148 25 (by first | decide | (dsimp only; first | done | decide | omega) | omega)).trans (ez6)
                have kn85 : N81.1 148 27 = zI z56 := (hFN81 148 27 (by first | decide | (dsimp only; first | done | decide | omega) | omega)).trans (ez56)
                refine lv_aload_n hx hb dX12_writesWord_101 rfl (lv_at hl 1 rfl) ?_
                refine lv_aload_n hx hb dX12_writesWord_102 rfl (lv_at hl 1 rfl) ?_
                refine f_12_2 F w (a := 146) rfl tb_45 dX12_writesWord_103 ?_
                refine lv_bipush (v := zI 26) hx hb dX12_writesWord_106 (by decide) ?_
                refine g_iald F w (a := 148) rfl (j := 26) ⟨by decide, by decide⟩ (by omega) dX12_writesWord_108 ?_
                obtain ⟨z86, bz86, ez86⟩ := IvR.ld (k := 26) hIN81 (show ivr 148 26 = (0, 4095) from rfl) (show 146 ≤ 148 ∧ 148 < 159 by decide)
                refine r_val ez86 ?_
                refine lv_iload_n hx hb dX12_writesWord_109 rfl (lv_at hl 0 rfl) ?_
                refine k_Si F w (As := [.int (zI z86), .int (zI v1_70)]) (rest := [.ref (B + 146)]) (q_X12_isIn (x := z86) ⟨by omega, by omega⟩ (x1 := v1_70) ⟨by omega, by omega⟩  hIN81) gs_X12_51 hs_X12_isIn ⟨(Nat.le_of_ble_eq_true rfl), (Nat.le_of_ble_eq_true rfl)⟩ hl.1 rfl (Nat.le_of_ble_eq_true rfl) ⟨Nat.zero_le _, Nat.zero_le _⟩ dX12_writesWord_110 (fun r87 N88 H locs hp w => ?_)
                obtain ⟨z89, rfl, bz89, hMN88⟩ := hp
                rw [hMN88] at w
                refine z_if_eq (tgt := 121) hx hb (by omega) dX12_writesWord_113 (by decide) (fun c90 => ?_) (fun c90 => ?_)
                · refine lv_bipush (v := zI 111) hx hb dX12_writesWord_121 (by decide) ?_
                  refine k_Vv F w (As := [.int (zI 111)]) (rest := []) (a := 146) (kd_lt (a := 146) (show kd 146 = (12, 0, 0) from rfl) (by decide)) (sh_12 rfl _ _) rfl (q_X12_writes (x := 111) ⟨by omega, by omega⟩ (tm := nz820) (enz820) ⟨by omega, by omega⟩ (by omega) hIN81) gv_X12_294 hv_X12_writes ⟨(Nat.le_of_ble_eq_true rfl), (Nat.le_of_ble_eq_true rfl)⟩ hl.1 rfl (Nat.le_of_ble_eq_true rfl) ⟨Nat.zero_le _, Nat.zero_le _⟩ dX12_writesWord_123 (fun N92 H locs hp w => ?_)
                  obtain ⟨⟨nz930, enz930, xz93⟩, hIN92, hFN92⟩ := hp
                  have hGN92 := Fr.tr hGN81 hFN92 (S := (fun b9 k9 => (b9 = 146 ∧ k9 = 22) ∨ b9 = 156)) (fun b k h => by (try dsimp only at h ⊢); rcases h with ⟨rfl, rfl⟩ | rfl <;> first | decide | omega)
                  have kn94 : N92.1 148 0 = zI nn := (hFN92 148 0 (by first | decide | (dsimp only; first | done | decide | omega) | omega)).trans (kn83)
                  have kn95 : N92.1 148 25 = zI z6 := (hFN92 148 25 (by first | decide | (dsimp only; first | done | decide | omega) | omega)).trans (kn84)
                  have kn96 : N92.1 148 27 = zI z56 := (hFN92 148 27 (by first | decide | (dsimp only; first | done | decide | omega) | omega)).trans (kn85)
                  have kn97 : N92.1 148 26 = zI z86 := (hFN92 148 26 (by first | decide | (dsimp only; first | done | decide | omega) | omega)).trans (ez86)
                  refine z_iinc (v := (v1_70 + 1)) (lv' := [(1, .int (zI (v1_70 + 1))), (0, .ref (B + 146))]) hx hb dX12_writesWord_126 hl (k := 0) rfl (by omega) (by decide) rfl (fun ls hl => ?_)
                  refine lv_goto (tgt := 70) hx hb dX12_writesWord_129 (by decide) ?_
                  exact ih70 (v1_70 + 1) nz930 N92 (by omega) (by omega) (enz930) (kn94) (by omega) hIN92 hGN92 (by omega) _ _ _ w (lv_sub hl [0, 1] rfl)
                · refine lv_bipush (v := zI 79) hx hb dX12_writesWord_116 (by decide) ?_
                  refine lv_goto (tgt := 123) hx hb dX12_writesWord_118 (by decide) ?_
                  refine k_Vv F w (As := [.int (zI 79)]) (rest := []) (a := 146) (kd_lt (a := 146) (show kd 146 = (12, 0, 0) from rfl) (by decide)) (sh_12 rfl _ _) rfl (q_X12_writes (x := 79) ⟨by omega, by omega⟩ (tm := nz820) (enz820) ⟨by omega, by omega⟩ (by omega) hIN81) gv_X12_294 hv_X12_writes ⟨(Nat.le_of_ble_eq_true rfl), (Nat.le_of_ble_eq_true rfl)⟩ hl.1 rfl (Nat.le_of_ble_eq_true rfl) ⟨Nat.zero_le _, Nat.zero_le _⟩ dX12_writesWord_123 (fun N99 H locs hp w => ?_)
                  obtain ⟨⟨nz1000, enz1000, xz100⟩, hIN99, hFN99⟩ := hp
                  have hGN99 := Fr.tr hGN81 hFN99 (S := (fun b9 k9 => (b9 = 146 ∧ k9 = 22) ∨ b9 = 156)) (fun b k h => by (try dsimp only at h ⊢); rcases h with ⟨rfl, rfl⟩ | rfl <;> first | decide | omega)
                  have kn101 : N99.1 148 0 = zI nn := (hFN99 148 0 (by first | decide | (dsimp only; first | done | decide | omega) | omega)).trans (kn83)
                  have kn102 : N99.1 148 25 = zI z6 := (hFN99 148 25 (by first | decide | (dsimp only; first | done | decide | omega) | omega)).trans (kn84)
                  have kn103 : N99.1 148 27 = zI z56 := (hFN99 148 27 (by first | decide | (dsimp only; first | done | decide | omega) | omega)).trans (kn85)
                  have kn104 : N99.1 148 26 = zI z86 := (hFN99 148 26 (by first | decide | (dsimp only; first | done | decide | omega) | omega)).trans (ez86)
                  refine z_iinc (v := (v1_70 + 1)) (lv' := [(1, .int (zI (v1_70 + 1))), (0, .ref (B + 146))]) hx hb dX12_writesWord_126 hl (k := 0) rfl (by omega) (by decide) rfl (fun ls hl => ?_)
                  refine lv_goto (tgt := 70) hx hb dX12_writesWord_129 (by decide) ?_
                  exact ih70 (v1_70 + 1) nz1000 N99 (by omega) (by omega) (enz1000) (kn101) (by omega) hIN99 hGN99 (by omega) _ _ _ w (lv_sub hl [0, 1] rfl)
        exact lp70 _ 0 nz40 N3 (by omega) (by omega) (enz40) (kn5) (by omega) hIN3 hGN3 (Nat.lt_succ_self _) _ _ _ w (lv_sub hl [0, 1] rfl)
      · refine lv_aload_n hx hb dX12_writesWord_17 rfl (lv_at hl 1 rfl) ?_
        refine lv_aload_n hx hb dX12_writesWord_18 rfl (lv_at hl 1 rfl) ?_
        refine f_12_2 F w (a := 146) rfl tb_45 dX12_writesWord_19 ?_
        refine lv_iconst (v := zI 1) hx hb dX12_writesWord_22 rfl ?_
        refine lv_iload_n hx hb dX12_writesWord_23 rfl (lv_at hl 0 rfl) ?_
        refine z_iadd (z := (v1_7 + 1)) hx hb dX12_writesWord_24 (by omega) ?_
        refine g_iald F w (a := 148) rfl (j := (Int.toNat (v1_7 + 1))) (ix_z (by omega) (by omega)) (by omega) dX12_writesWord_25 ?_
        obtain ⟨z105, bz105, ez105⟩ := IvR.ld (k := (Int.toNat (v1_7 + 1))) hIL7 (wiv_k (a := 148) (k := (Int.toNat (v1_7 + 1))) (by omega) (by omega)) (show 146 ≤ 148 ∧ 148 < 159 by decide)
        refine r_val ez105 ?_
        refine z_if_ne (tgt := 34) hx hb (by omega) dX12_writesWord_26 (by decide) (fun c106 => ?_) (fun c106 => ?_)
        · refine lv_aload_n hx hb dX12_writesWord_34 rfl (lv_at hl 1 rfl) ?_
          refine f_12_2 F w (a := 146) rfl tb_45 dX12_writesWord_35 ?_
          refine lv_iconst (v := zI 1) hx hb dX12_writesWord_38 rfl ?_
          refine lv_iload_n hx hb dX12_writesWord_39 rfl (lv_at hl 0 rfl) ?_
          refine z_iadd (z := (v1_7 + 1)) hx hb dX12_writesWord_40 (by omega) ?_
          refine g_iald F w (a := 148) rfl (j := (Int.toNat (v1_7 + 1))) (ix_z (by omega) (by omega)) (by omega) dX12_writesWord_41 ?_
          refine r_val (v := zI z105) (ez105) ?_
          refine lv_iconst (v := zI 2) hx hb dX12_writesWord_42 rfl ?_
          refine z_icmp_ne (tgt := 51) hx hb (by omega) (by omega) dX12_writesWord_43 (by decide) (fun c107 => ?_) (fun c107 => ?_)
          · refine lv_bipush (v := zI 109) hx hb dX12_writesWord_51 (by decide) ?_
            refine k_Vv F w (As := [.int (zI 109)]) (rest := []) (a := 146) (kd_lt (a := 146) (show kd 146 = (12, 0, 0) from rfl) (by decide)) (sh_12 rfl _ _) rfl (q_X12_writes (x := 109) ⟨by omega, by omega⟩ (tm := g146_22_7) (eg146_22_7) ⟨by omega, by omega⟩ (by omega) hIL7) gv_X12_294 hv_X12_writes ⟨(Nat.le_of_ble_eq_true rfl), (Nat.le_of_ble_eq_true rfl)⟩ hl.1 rfl (Nat.le_of_ble_eq_true rfl) ⟨Nat.zero_le _, Nat.zero_le _⟩ dX12_writesWord_53 (fun N109 H locs hp w => ?_)
            obtain ⟨⟨nz1100, enz1100, xz110⟩, hIN109, hFN109⟩ := hp
            have hGN109 := Fr.tr hFL7 hFN109 (S := (fun b9 k9 => (b9 = 146 ∧ k9 = 22) ∨ b9 = 156)) (fun b k h => by (try dsimp only at h ⊢); rcases h with ⟨rfl, rfl⟩ | rfl <;> first | decide | omega)
            have kn111 : N109.1 148 0 = zI nn := (hFN109 148 0 (by first | decide | (dsimp only; first | done | decide | omega) | omega)).trans (eg148_0_7)
            refine z_iinc (v := (v1_7 + 1)) (lv' := [(1, .int (zI (v1_7 + 1))), (0, .ref (B + 146))]) hx hb dX12_writesWord_56 hl (k := 0) rfl (by omega) (by decide) rfl (fun ls hl => ?_)
            refine lv_goto (tgt := 7) hx hb dX12_writesWord_59 (by decide) ?_
            exact ih7 (v1_7 + 1) nz1100 N109 (by omega) (by omega) (enz1100) (kn111) (by omega) hIN109 hGN109 (by omega) _ _ _ w (lv_sub hl [0, 1] rfl)
          · refine lv_bipush (v := zI 104) hx hb dX12_writesWord_46 (by decide) ?_
            refine lv_goto (tgt := 53) hx hb dX12_writesWord_48 (by decide) ?_
            refine k_Vv F w (As := [.int (zI 104)]) (rest := []) (a := 146) (kd_lt (a := 146) (show kd 146 = (12, 0, 0) from rfl) (by decide)) (sh_12 rfl _ _) rfl (q_X12_writes (x := 104) ⟨by omega, by omega⟩ (tm := g146_22_7) (eg146_22_7) ⟨by omega, by omega⟩ (by omega) hIL7) gv_X12_294 hv_X12_writes ⟨(Nat.le_of_ble_eq_true rfl), (Nat.le_of_ble_eq_true rfl)⟩ hl.1 rfl (Nat.le_of_ble_eq_true rfl) ⟨Nat.zero_le _, Nat.zero_le _⟩ dX12_writesWord_53 (fun N113 H locs hp w => ?_)
            obtain ⟨⟨nz1140, enz1140, xz114⟩, hIN113, hFN113⟩ := hp
            have hGN113 := Fr.tr hFL7 hFN113 (S := (fun b9 k9 => (b9 = 146 ∧ k9 = 22) ∨ b9 = 156)) (fun b k h => by (try dsimp only at h ⊢); rcases h with ⟨rfl, rfl⟩ | rfl <;> first | decide | omega)
            have kn115 : N113.1 148 0 = zI nn := (hFN113 148 0 (by first | decide | (dsimp only; first | done | decide | omega) | omega)).trans (eg148_0_7)
            refine z_iinc (v := (v1_7 + 1)) (lv' := [(1, .int (zI (v1_7 + 1))), (0, .ref (B + 146))]) hx hb dX12_writesWord_56 hl (k := 0) rfl (by omega) (by decide) rfl (fun ls hl => ?_)
            refine lv_goto (tgt := 7) hx hb dX12_writesWord_59 (by decide) ?_
            exact ih7 (v1_7 + 1) nz1140 N113 (by omega) (by omega) (enz1140) (kn115) (by omega) hIN113 hGN113 (by omega) _ _ _ w (lv_sub hl [0, 1] rfl)
        · refine lv_bipush (v := zI 108) hx hb dX12_writesWord_29 (by decide) ?_
          refine lv_goto (tgt := 53) hx hb dX12_writesWord_31 (by decide) ?_
          refine k_Vv F w (As := [.int (zI 108)]) (rest := []) (a := 146) (kd_lt (a := 146) (show kd 146 = (12, 0, 0) from rfl) (by decide)) (sh_12 rfl _ _) rfl (q_X12_writes (x := 108) ⟨by omega, by omega⟩ (tm := g146_22_7) (eg146_22_7) ⟨by omega, by omega⟩ (by omega) hIL7) gv_X12_294 hv_X12_writes ⟨(Nat.le_of_ble_eq_true rfl), (Nat.le_of_ble_eq_true rfl)⟩ hl.1 rfl (Nat.le_of_ble_eq_true rfl) ⟨Nat.zero_le _, Nat.zero_le _⟩ dX12_writesWord_53 (fun N117 H locs hp w => ?_)
          obtain ⟨⟨nz1180, enz1180, xz118⟩, hIN117, hFN117⟩ := hp
          have hGN117 := Fr.tr hFL7 hFN117 (S := (fun b9 k9 => (b9 = 146 ∧ k9 = 22) ∨ b9 = 156)) (fun b k h => by (try dsimp only at h ⊢); rcases h with ⟨rfl, rfl⟩ | rfl <;> first | decide | omega)
          have kn119 : N117.1 148 0 = zI nn := (hFN117 148 0 (by first | decide | (dsimp only; first | done | decide | omega) | omega)).trans (eg148_0_7)
          refine z_iinc (v := (v1_7 + 1)) (lv' := [(1, .int (zI (v1_7 + 1))), (0, .ref (B + 146))]) hx hb dX12_writesWord_56 hl (k := 0) rfl (by omega) (by decide) rfl (fun ls hl => ?_)
          refine lv_goto (tgt := 7) hx hb dX12_writesWord_59 (by decide) ?_
          exact ih7 (v1_7 + 1) nz1180 N117 (by omega) (by omega) (enz1180) (kn119) (by omega) hIN117 hGN117 (by omega) _ _ _ w (lv_sub hl [0, 1] rfl)
  exact lp7 _ 0 0 (st M 146 22 (zI 0)) (by omega) (by omega) (st_at) ((st_ne (Or.inl (by decide))).trans hgnn) (by omega) (IvR.to hI (a := 146) (k := 22) (x := 0) (show ivr 146 22 = (0, 260) from rfl) ⟨by omega, by omega⟩ ⟨by decide, by decide, by decide, fun q9 => absurd q9 (by decide)⟩) (Fr.to hF (by first | decide | (dsimp only; first | done | decide | omega) | omega)) (Nat.lt_succ_self _) _ _ _ w (lv_sub hl [0, 1] rfl)
theorem dX12_spell_0 : decode cX12_spell 0 = .ok (.aload_n 0, 1) := dq0 kk_42 (by decide +kernel)
theorem dX12_spell_1 : decode cX12_spell 1 = .ok (.iload_n 1, 1) := dq0 kk_27 (by decide +kernel)
theorem dX12_spell_2 : decode cX12_spell 2 = .ok (.invokevirtual 261, 3) := dqV kk_182 (by decide +kernel)
theorem dX12_spell_5 : decode cX12_spell 5 = .ok (.ifCond .eq 8, 3) := dqT kk_153 (by decide +kernel)
theorem dX12_spell_13 : decode cX12_spell 13 = .ok (.iconst (-1), 1) := dq0 kk_2 (by decide +kernel)
theorem dX12_spell_14 : decode cX12_spell 14 = .ok (.ireturn, 1) := dq0 kk_172 (by decide +kernel)
theorem dX12_spell_8 : decode cX12_spell 8 = .ok (.iload_n 2, 1) := dq0 kk_28 (by decide +kernel)
theorem dX12_spell_9 : decode cX12_spell 9 = .ok (.iconst (-1), 1) := dq0 kk_2 (by decide +kernel)
theorem dX12_spell_10 : decode cX12_spell 10 = .ok (.if_icmp .ge 5, 3) := dqT kk_162 (by decide +kernel)
theorem dX12_spell_15 : decode cX12_spell 15 = .ok (.aload_n 0, 1) := dq0 kk_42 (by decide +kernel)
theorem dX12_spell_16 : decode cX12_spell 16 = .ok (.invokevirtual 300, 3) := dqV kk_182 (by decide +kernel)
theorem tk_X12_writesWord : Cond.code yX12_writesWord cX12_writesWord 4 none ∈ TB := tbm (tc6 (List.mem_of_getElem? (i := 216) rfl)) rfl
theorem gc_X12_writesWord : GoodIn TB (cw yX12_writesWord cX12_writesWord 4 none) := goodIn_c2 tk_X12_writesWord
theorem tb_705 : Cond.methodLink "ToneLinesModel" 300 yX12_writesWord ∈ TB := tbm (tc6 (List.mem_of_getElem? (i := 213) rfl)) rfl
theorem tb_706 : Cond.instanceMethod yX12_writesWord ∈ TB := tbm (tc6 (List.mem_of_getElem? (i := 215) rfl)) rfl
theorem tb_707 : Cond.selects "ToneLinesModel" yX12_writesWord yX12_writesWord ∈ TB := tbp (List.mem_of_getElem? (i := 82) rfl) rfl
theorem gv_X12_300 : GoodIn TB (wsV RX12 300 RX12 yX12_writesWord (cw yX12_writesWord cX12_writesWord 4 none)) := goodIn_4 tb_705 tb_706 tb_707 tb_38 gc_X12_writesWord
theorem hv_X12_writesWord : yX12_writesWord.cls = RX12 ∧ yX12_writesWord.cls ≠ "java/lang/invoke/MethodHandle" ∧ yX12_writesWord.cls ≠ "java/lang/invoke/VarHandle" ∧ (parseMethodDescriptor yX12_writesWord.desc).map (fun d => d.parameters.length) = some 0 := by decide +kernel
theorem dX12_spell_19 : decode cX12_spell 19 = .ok (.iload_n 2, 1) := dq0 kk_28 (by decide +kernel)
theorem dX12_spell_20 : decode cX12_spell 20 = .ok (.iconst (-1), 1) := dq0 kk_2 (by decide +kernel)
theorem dX12_spell_21 : decode cX12_spell 21 = .ok (.if_icmp .ne 10, 3) := dqT kk_160 (by decide +kernel)
theorem dX12_spell_31 : decode cX12_spell 31 = .ok (.iload_n 2, 1) := dq0 kk_28 (by decide +kernel)
theorem dX12_spell_32 : decode cX12_spell 32 = .ok (.aload_n 0, 1) := dq0 kk_42 (by decide +kernel)
theorem dX12_spell_33 : decode cX12_spell 33 = .ok (.getfield 291, 3) := dqV kk_180 (by decide +kernel)
theorem dX12_spell_36 : decode cX12_spell 36 = .ok (.if_icmp .ge 12, 3) := dqT kk_162 (by decide +kernel)
theorem dX12_spell_48 : decode cX12_spell 48 = .ok (.iconst (-1), 1) := dq0 kk_2 (by decide +kernel)
theorem dX12_spell_49 : decode cX12_spell 49 = .ok (.ireturn, 1) := dq0 kk_172 (by decide +kernel)
theorem dX12_spell_39 : decode cX12_spell 39 = .ok (.aload_n 0, 1) := dq0 kk_42 (by decide +kernel)
theorem dX12_spell_40 : decode cX12_spell 40 = .ok (.getfield 42, 3) := dqV kk_180 (by decide +kernel)
theorem dX12_spell_43 : decode cX12_spell 43 = .ok (.iload_n 2, 1) := dq0 kk_28 (by decide +kernel)
theorem dX12_spell_44 : decode cX12_spell 44 = .ok (.iaload, 1) := dq0 kk_46 (by decide +kernel)
theorem dX12_spell_45 : decode cX12_spell 45 = .ok (.goto 4, 3) := dqT kk_167 (by decide +kernel)
theorem dX12_spell_24 : decode cX12_spell 24 = .ok (.aload_n 0, 1) := dq0 kk_42 (by decide +kernel)
theorem dX12_spell_25 : decode cX12_spell 25 = .ok (.getfield 291, 3) := dqV kk_180 (by decide +kernel)
theorem dX12_spell_28 : decode cX12_spell 28 = .ok (.goto 21, 3) := dqT kk_167 (by decide +kernel)
set_option maxRecDepth 4000 in
theorem q_X12_spell {l : Launch} {D : va_G} {B : Nat} {cy : Nat → ClassId} {M : Mem} {x : Int} (hx : (-2147483648) ≤ x ∧ x ≤ 2147483647) {x1 : Int} (hx1 : (-2147483648) ≤ x1 ∧ x1 ≤ 2147483647) (hI : IvR M) : Ci l D B cy yX12_spell cX12_spell 3 (some .int) 10 233 [.ref (B + 146), .int (zI x), .int (zI x1)] M (fun r M1 => ∃ z : Int, r = zI z ∧ ((-2147483648) ≤ z ∧ z ≤ 2147483647) ∧ IvR M1 ∧ Fr (fun b9 k9 => (b9 = 146 ∧ k9 = 22) ∨ (b9 = 146 ∧ k9 = 3) ∨ (b9 = 146 ∧ k9 = 6) ∨ b9 = 148 ∨ b9 = 156) M1 M) := by
  refine s_anyQ (by decide) (Nat.le_of_ble_eq_true rfl) ?_
  intro p e s m args below meth c ls Q F hr hlocks hQ w hl
  have F : CallFix p m c cX12_spell 3 s args TB RX12 := F
  have hx := F.1
  have hb := F.2.1
  have hl : lv_has ls 3 [(0, .ref (B + 146)), (1, .int (zI x)), (2, .int (zI x1))] := hl
  have hF : Fr (fun b9 k9 => (b9 = 146 ∧ k9 = 22) ∨ (b9 = 146 ∧ k9 = 3) ∨ (b9 = 146 ∧ k9 = 6) ∨ b9 = 148 ∨ b9 = 156) M M := Fr.rf
  refine lv_aload_n hx hb dX12_spell_0 rfl (lv_at hl 0 rfl) ?_
  refine lv_iload_n hx hb dX12_spell_1 rfl (lv_at hl 1 rfl) ?_
  refine k_Vi F w (As := [.int (zI x)]) (rest := []) (a := 146) (kd_lt (a := 146) (show kd 146 = (12, 0, 0) from rfl) (by decide)) (sh_12 rfl _ _) rfl (q_X12_lays (x := x) ⟨by omega, by omega⟩  hI) gv_X12_261 hv_X12_lays ⟨(Nat.le_of_ble_eq_true rfl), (Nat.le_of_ble_eq_true rfl)⟩ hl.1 rfl (Nat.le_of_ble_eq_true rfl) ⟨Nat.zero_le _, Nat.zero_le _⟩ dX12_spell_2 (fun r1 N2 H locs hp w => ?_)
  obtain ⟨z3, rfl, bz3, hIN2, hFN2⟩ := hp
  have hGN2 := Fr.tr hF hFN2 (S := (fun b9 k9 => (b9 = 146 ∧ k9 = 22) ∨ (b9 = 146 ∧ k9 = 3) ∨ (b9 = 146 ∧ k9 = 6) ∨ b9 = 148 ∨ b9 = 156)) (fun b k h => by (try dsimp only at h ⊢); rcases h with ⟨rfl, rfl⟩ | ⟨rfl, rfl⟩ | rfl <;> first | decide | omega)
  refine z_if_eq (tgt := 13) hx hb (by omega) dX12_spell_5 (by decide) (fun c4 => ?_) (fun c4 => ?_)
  · refine lv_iconst (v := zI (-1)) hx hb dX12_spell_13 rfl ?_
    rw [hQ]
    exact e_i F w hr hlocks ⟨_, rfl, ⟨by omega, by omega⟩, hIN2, hGN2⟩ dX12_spell_14
  · refine lv_iload_n hx hb dX12_spell_8 rfl (lv_at hl 2 rfl) ?_
    refine lv_iconst (v := zI (-1)) hx hb dX12_spell_9 rfl ?_
    refine z_icmp_ge (tgt := 15) hx hb (by omega) (by omega) dX12_spell_10 (by decide) (fun c5 => ?_) (fun c5 => ?_)
    · refine lv_aload_n hx hb dX12_spell_15 rfl (lv_at hl 0 rfl) ?_
      obtain ⟨z6, bz6, ez6⟩ := IvR.ld (k := 22) hIN2 (show ivr 146 22 = (0, 260) from rfl) (show 146 ≤ 146 ∧ 146 < 159 by decide)
      obtain ⟨z7, bz7, ez7⟩ := IvR.ld (k := 0) hIN2 (show ivr 148 0 = (0, 12) from rfl) (show 146 ≤ 148 ∧ 148 < 159 by decide)
      refine k_Vv F w (As := []) (rest := []) (a := 146) (kd_lt (a := 146) (show kd 146 = (12, 0, 0) from rfl) (by decide)) (sh_12 rfl _ _) rfl (q_X12_writesWord (tm := z6) (ez6) ⟨by omega, by omega⟩ (nn := z7) (ez7) ⟨by omega, by omega⟩  hIN2) gv_X12_300 hv_X12_writesWord ⟨(Nat.le_of_ble_eq_true rfl), (Nat.le_of_ble_eq_true rfl)⟩ hl.1 rfl (Nat.le_of_ble_eq_true rfl) ⟨Nat.zero_le _, Nat.zero_le _⟩ dX12_spell_16 (fun N9 H locs hp w => ?_)
      obtain ⟨hIN9, hFN9⟩ := hp
      have hGN9 := Fr.tr hGN2 hFN9 (S := (fun b9 k9 => (b9 = 146 ∧ k9 = 22) ∨ (b9 = 146 ∧ k9 = 3) ∨ (b9 = 146 ∧ k9 = 6) ∨ b9 = 148 ∨ b9 = 156)) (fun b k h => by (try dsimp only at h ⊢); rcases h with ⟨rfl, rfl⟩ | rfl <;> first | decide | omega)
      have kn11 : N9.1 148 0 = zI z7 := (hFN9 148 0 (by first | decide | (dsimp only; first | done | decide | omega) | omega)).trans (ez7)
      refine lv_iload_n hx hb dX12_spell_19 rfl (lv_at hl 2 rfl) ?_
      refine lv_iconst (v := zI (-1)) hx hb dX12_spell_20 rfl ?_
      refine z_icmp_ne (tgt := 31) hx hb (by omega) (by omega) dX12_spell_21 (by decide) (fun c12 => ?_) (fun c12 => ?_)
      · refine lv_iload_n hx hb dX12_spell_31 rfl (lv_at hl 2 rfl) ?_
        refine lv_aload_n hx hb dX12_spell_32 rfl (lv_at hl 0 rfl) ?_
        refine f_12_22 F w (a := 146) rfl tb_698 dX12_spell_33 ?_
        obtain ⟨z13, bz13, ez13⟩ := IvR.ld (k := 22) hIN9 (show ivr 146 22 = (0, 260) from rfl) (show 146 ≤ 146 ∧ 146 < 159 by decide)
        refine r_val ez13 ?_
        refine z_icmp_ge (tgt := 48) hx hb (by omega) (by omega) dX12_spell_36 (by decide) (fun c14 => ?_) (fun c14 => ?_)
        · refine lv_iconst (v := zI (-1)) hx hb dX12_spell_48 rfl ?_
          rw [hQ]
          exact e_i F w hr hlocks ⟨_, rfl, ⟨by omega, by omega⟩, hIN9, hGN9⟩ dX12_spell_49
        · refine lv_aload_n hx hb dX12_spell_39 rfl (lv_at hl 0 rfl) ?_
          refine f_12_21 F w (a := 146) rfl tb_697 dX12_spell_40 ?_
          refine lv_iload_n hx hb dX12_spell_43 rfl (lv_at hl 2 rfl) ?_
          refine g_iald F w (a := 156) rfl (j := (Int.toNat x1)) (ix_z (by omega) (by omega)) (by omega) dX12_spell_44 ?_
          obtain ⟨z15, bz15, ez15⟩ := IvR.ld (k := (Int.toNat x1)) hIN9 (show ivr 156 (Int.toNat x1) = ((-2147483648), 2147483647) from rfl) (show 146 ≤ 156 ∧ 156 < 159 by decide)
          refine r_val ez15 ?_
          refine lv_goto (tgt := 49) hx hb dX12_spell_45 (by decide) ?_
          rw [hQ]
          exact e_i F w hr hlocks ⟨_, rfl, ⟨by omega, by omega⟩, hIN9, hGN9⟩ dX12_spell_49
      · refine lv_aload_n hx hb dX12_spell_24 rfl (lv_at hl 0 rfl) ?_
        refine f_12_22 F w (a := 146) rfl tb_698 dX12_spell_25 ?_
        obtain ⟨z16, bz16, ez16⟩ := IvR.ld (k := 22) hIN9 (show ivr 146 22 = (0, 260) from rfl) (show 146 ≤ 146 ∧ 146 < 159 by decide)
        refine r_val ez16 ?_
        refine lv_goto (tgt := 49) hx hb dX12_spell_28 (by decide) ?_
        rw [hQ]
        exact e_i F w hr hlocks ⟨_, rfl, ⟨by omega, by omega⟩, hIN9, hGN9⟩ dX12_spell_49
    · refine lv_iconst (v := zI (-1)) hx hb dX12_spell_13 rfl ?_
      rw [hQ]
      exact e_i F w hr hlocks ⟨_, rfl, ⟨by omega, by omega⟩, hIN2, hGN2⟩ dX12_spell_14
