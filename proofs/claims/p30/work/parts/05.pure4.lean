def Fr3 (M1 M : Mem) (a : Nat) : Prop := (∀ b, b ≠ a → b ≠ a + 1 → b ≠ a + 2 → M1.1 b = M.1 b) ∧ M1.2 = M.2
theorem Fr3.rf {M : Mem} {a : Nat} : Fr3 M M a := ⟨fun _ _ _ _ => rfl, rfl⟩
theorem Fr3.tr {M M1 M2 : Mem} {a : Nat} (h1 : Fr3 M1 M a) (h2 : Fr3 M2 M1 a) : Fr3 M2 M a := ⟨fun b x y z => (h2.1 b x y z).trans (h1.1 b x y z), h2.2.trans h1.2⟩
theorem isW_fr {M M1 : Mem} {a b n q hv ed : Nat} {K L : Nat → Nat} (hf : Fr3 M1 M b) (h : isW M a n q hv ed K L) (h1 : a ≠ b) (h2 : a ≠ b + 1) (h3 : a ≠ b + 2) (h4 : a + 1 ≠ b) (h5 : a + 2 ≠ b) (h6 : a + 2 ≠ b + 1) (h7 : a + 1 ≠ b + 2) : isW M1 a n q hv ed K L := by
  have e0 := hf.1 a h1 h2 h3
  have e1 := hf.1 (a + 1) h4 (by omega) h7
  have e2 := hf.1 (a + 2) h5 h6 (by omega)
  unfold isW
  rw [e0, e1, e2]
  exact h
theorem isW_ext {M M1 : Mem} {a n q hv ed : Nat} {K L K1 L1 : Nat → Nat} (h : isW M a n q hv ed K L) (hK : ∀ k, k < n → K k = K1 k) (hL : ∀ k, k < n → L k = L1 k) : isW M a n q hv ed K1 L1 := ⟨h.1, h.2.1, h.2.2.1, h.2.2.2.1, fun k hk => by rw [← hK k hk]; exact h.2.2.2.2.1 k hk, fun k hk => by rw [← hL k hk]; exact h.2.2.2.2.2 k hk⟩
def sbit (m j : Nat) (x : Nat) : Nat := if x = 0 then andn m (2 ^ j) else m ||| 2 ^ j
def insF (F : Nat → Nat) (t x : Nat) : Nat → Nat := fun k => if k < t then F k else if k = t then x else F (k - 1)
def remF (F : Nat → Nat) (t : Nat) : Nat → Nat := fun k => if k < t then F k else F (k + 1)
def shf (f : Nat → Int32) (n u : Nat) : Nat → Int32 := fun k => if u < k ∧ k ≤ n then f (k - 1) else f k
def insM (M : Mem) (a n u : Nat) : Mem := sA (sA M (a + 1) (shf (M.1 (a + 1)) n u)) (a + 2) (shf (M.1 (a + 2)) n u)
theorem shf_n (f : Nat → Int32) (n : Nat) : shf f n n = f := by
  funext k
  simp only [shf]
  rw [if_neg (by omega)]
theorem sA_self (M : Mem) (a : Nat) : sA M a (M.1 a) = M := by
  refine Prod.ext (funext fun b => ?_) rfl
  show (if b = a then M.1 a else M.1 b) = M.1 b
  by_cases h : b = a
  · subst h; simp
  · simp [h]
theorem insM_n (M : Mem) (a n : Nat) : insM M a n n = M := by
  unfold insM
  rw [shf_n, shf_n, sA_self, sA_self]
theorem insM_0 {M : Mem} {a n u k : Nat} : (insM M a n u).1 a k = M.1 a k := by simp [insM, sA]
theorem insM_1 {M : Mem} {a n u k : Nat} (h : k ≤ u) : (insM M a n u).1 (a + 1) k = M.1 (a + 1) k := by
  have e : ∀ f : Nat → Int32, shf f n u k = f k := fun f => by simp only [shf]; rw [if_neg (by omega)]
  simp [insM, sA, e]
theorem insM_2 {M : Mem} {a n u k : Nat} (h : k ≤ u) : (insM M a n u).1 (a + 2) k = M.1 (a + 2) k := by
  have e : ∀ f : Nat → Int32, shf f n u k = f k := fun f => by simp only [shf]; rw [if_neg (by omega)]
  simp [insM, sA, e]
theorem shf_step {f : Nat → Int32} {n u : Nat} (hu : 1 ≤ u) (hn : u ≤ n) : upd (shf f n u) u (f (u - 1)) = shf f n (u - 1) := by
  funext k
  simp only [upd, shf]
  by_cases h : k = u
  · subst h
    rw [if_pos rfl, if_pos (by omega)]
  · rw [if_neg h]
    by_cases h2 : u < k ∧ k ≤ n
    · rw [if_pos h2, if_pos (by omega)]
    · rw [if_neg h2, if_neg (by omega)]
theorem insM_step {M : Mem} {a n u : Nat} (hu : 1 ≤ u) (hn : u ≤ n) : st (st (insM M a n u) (a + 1) u (M.1 (a + 1) (u - 1))) (a + 2) u (M.1 (a + 2) (u - 1)) = insM M a n (u - 1) := by
  refine Prod.ext (funext fun b => ?_) rfl
  by_cases h2 : b = a + 2
  · subst h2
    simp only [st, insM, sA]
    simp [shf_step hu hn]
  · by_cases h1 : b = a + 1
    · subst h1
      simp only [st, insM, sA]
      simp [shf_step hu hn]
    · simp [st, insM, sA, h1, h2]
theorem insM_end {M : Mem} {a n q hv ed t x : Nat} {K L : Nat → Nat} (hW : isW M a n q hv ed K L) (ht : t ≤ n) : isW (st (st (st (insM M a n t) (a + 1) t (zI (x : Int))) (a + 2) t (zI 0)) a 0 (zI ((n + 1 : Nat) : Int))) a (n + 1) q hv ed (insF K t x) (insF L t 0) := by
  obtain ⟨w0, w1, w2, w3, w4, w5⟩ := hW
  refine ⟨by simp [st, sA, upd], by simp [st, sA, upd, insM, w1], by simp [st, sA, upd, insM, w2], by simp [st, sA, upd, insM, w3], fun k hk => ?_, fun k hk => ?_⟩
  · simp only [st, sA, insM, insF]
    simp
    simp only [upd, shf]
    by_cases h1 : k = t
    · simp [h1]
    · by_cases h2 : k < t
      · rw [if_neg h1, if_pos h2, if_neg (by omega)]
        exact w4 k (by omega)
      · rw [if_neg h1, if_neg h2, if_pos (by omega), if_neg h1]
        exact w4 (k - 1) (by omega)
  · simp only [st, sA, insM, insF]
    simp
    simp only [upd, shf]
    by_cases h1 : k = t
    · simp [h1]
    · by_cases h2 : k < t
      · rw [if_neg h1, if_pos h2, if_neg (by omega)]
        exact w5 k (by omega)
      · rw [if_neg h1, if_neg h2, if_pos (by omega), if_neg h1]
        exact w5 (k - 1) (by omega)
theorem insM_fr {M : Mem} {a n t : Nat} {x y z : Int32} : Fr3 (st (st (st (insM M a n t) (a + 1) t x) (a + 2) t y) a 0 z) M a := ⟨fun b h1 h2 h3 => by simp [st, sA, insM, h1, h2, h3], rfl⟩
theorem sbit_0 {m j x : Nat} (h : x = 0) : sbit m j x = andn m (2 ^ j) := by simp [sbit, h]
theorem sbit_1 {m j x : Nat} (h : x ≠ 0) : sbit m j x = m ||| 2 ^ j := by simp [sbit, h]
def shd (f : Nat → Int32) (t u : Nat) : Nat → Int32 := fun k => if t ≤ k ∧ k < u then f (k + 1) else f k
def remM (M : Mem) (a t u : Nat) : Mem := sA (sA M (a + 1) (shd (M.1 (a + 1)) t u)) (a + 2) (shd (M.1 (a + 2)) t u)
theorem shd_t (f : Nat → Int32) (t : Nat) : shd f t t = f := by
  funext k
  simp only [shd]
  rw [if_neg (by omega)]
theorem remM_t (M : Mem) (a t : Nat) : remM M a t t = M := by
  unfold remM
  rw [shd_t, shd_t, sA_self, sA_self]
theorem remM_0 {M : Mem} {a t u k : Nat} : (remM M a t u).1 a k = M.1 a k := by simp [remM, sA]
theorem remM_1 {M : Mem} {a t u k : Nat} (h : u ≤ k) : (remM M a t u).1 (a + 1) k = M.1 (a + 1) k := by
  have e : ∀ f : Nat → Int32, shd f t u k = f k := fun f => by simp only [shd]; rw [if_neg (by omega)]
  simp [remM, sA, e]
theorem remM_2 {M : Mem} {a t u k : Nat} (h : u ≤ k) : (remM M a t u).1 (a + 2) k = M.1 (a + 2) k := by
  have e : ∀ f : Nat → Int32, shd f t u k = f k := fun f => by simp only [shd]; rw [if_neg (by omega)]
  simp [remM, sA, e]
theorem shd_step {f : Nat → Int32} {t u : Nat} (h : t ≤ u) : upd (shd f t u) u (f (u + 1)) = shd f t (u + 1) := by
  funext k
  simp only [upd, shd]
  by_cases h1 : k = u
  · subst h1
    rw [if_pos rfl, if_pos (by omega)]
  · rw [if_neg h1]
    by_cases h2 : t ≤ k ∧ k < u
    · rw [if_pos h2, if_pos (by omega)]
    · rw [if_neg h2, if_neg (by omega)]
theorem remM_step {M : Mem} {a t u : Nat} (h : t ≤ u) : st (st (remM M a t u) (a + 1) u (M.1 (a + 1) (u + 1))) (a + 2) u (M.1 (a + 2) (u + 1)) = remM M a t (u + 1) := by
  refine Prod.ext (funext fun b => ?_) rfl
  by_cases h2 : b = a + 2
  · subst h2
    simp only [st, remM, sA]
    simp [shd_step h]
  · by_cases h1 : b = a + 1
    · subst h1
      simp only [st, remM, sA]
      simp [shd_step h]
    · simp [st, remM, sA, h1, h2]
theorem remM_end {M : Mem} {a n q hv ed t : Nat} {K L : Nat → Nat} (hW : isW M a n q hv ed K L) (ht : t < n) : isW (st (remM M a t (n - 1)) a 0 (zI ((n : Int) - 1))) a (n - 1) q hv ed (remF K t) (remF L t) := by
  obtain ⟨w0, w1, w2, w3, w4, w5⟩ := hW
  refine ⟨by simp [st, sA, upd]; exact congrArg zI (by omega), by simp [st, sA, upd, remM, w1], by simp [st, sA, upd, remM, w2], by simp [st, sA, upd, remM, w3], fun k hk => ?_, fun k hk => ?_⟩
  · simp only [st, sA, remM, remF]
    simp
    simp only [upd, shd]
    by_cases h2 : k < t
    · rw [if_pos h2, if_neg (by omega)]
      exact w4 k (by omega)
    · rw [if_neg h2, if_pos (by omega)]
      exact w4 (k + 1) (by omega)
  · simp only [st, sA, remM, remF]
    simp
    simp only [upd, shd]
    by_cases h2 : k < t
    · rw [if_pos h2, if_neg (by omega)]
      exact w5 k (by omega)
    · rw [if_neg h2, if_pos (by omega)]
      exact w5 (k + 1) (by omega)
theorem remM_fr {M : Mem} {a t u : Nat} {z : Int32} : Fr3 (st (remM M a t u) a 0 z) M a := ⟨fun b h1 h2 h3 => by simp [st, sA, remM, h1, h2, h3], rfl⟩
def cpT (M : Mem) (a b : Nat) (x0 x1 x2 x3 : Int32) : Mem :=
  sA (sA (st (st (st (st M a 1 x1) a 2 x2) a 3 x3) a 0 x0) (a + 1) (va_cpy ((st (st (st (st M a 1 x1) a 2 x2) a 3 x3) a 0 x0).1 (b + 1)) ((st (st (st (st M a 1 x1) a 2 x2) a 3 x3) a 0 x0).1 (a + 1)) (zI 0).toNatClampNeg (zI 0).toNatClampNeg (zI 12).toNatClampNeg)) (a + 2) (va_cpy ((sA (st (st (st (st M a 1 x1) a 2 x2) a 3 x3) a 0 x0) (a + 1) (va_cpy ((st (st (st (st M a 1 x1) a 2 x2) a 3 x3) a 0 x0).1 (b + 1)) ((st (st (st (st M a 1 x1) a 2 x2) a 3 x3) a 0 x0).1 (a + 1)) (zI 0).toNatClampNeg (zI 0).toNatClampNeg (zI 12).toNatClampNeg)).1 (b + 2)) ((sA (st (st (st (st M a 1 x1) a 2 x2) a 3 x3) a 0 x0) (a + 1) (va_cpy ((st (st (st (st M a 1 x1) a 2 x2) a 3 x3) a 0 x0).1 (b + 1)) ((st (st (st (st M a 1 x1) a 2 x2) a 3 x3) a 0 x0).1 (a + 1)) (zI 0).toNatClampNeg (zI 0).toNatClampNeg (zI 12).toNatClampNeg)).1 (a + 2)) (zI 0).toNatClampNeg (zI 0).toNatClampNeg (zI 12).toNatClampNeg)
theorem cpW {M : Mem} {a b n2 q2 hv2 ed2 : Nat} {K2 L2 : Nat → Nat} (hW2 : isW M b n2 q2 hv2 ed2 K2 L2) (hab : a + 2 < b ∨ b + 2 < a) (hn9 : n2 ≤ 12) : isW (cpT M a b (zI (n2 : Int)) (zI (q2 : Int)) (zI (hv2 : Int)) (zI (ed2 : Int))) a n2 q2 hv2 ed2 K2 L2 ∧ Fr3 (cpT M a b (zI (n2 : Int)) (zI (q2 : Int)) (zI (hv2 : Int)) (zI (ed2 : Int))) M a := by
  have c0 : (zI 0).toNatClampNeg = 0 := by decide
  have c1 : (zI 12).toNatClampNeg = 12 := by decide
  obtain ⟨w0, w1, w2, w3, w4, w5⟩ := hW2
  have n1 : ¬ b + 1 = a := by omega
  have n2' : ¬ b + 2 = a := by omega
  have n3 : ¬ b + 2 = a + 1 := by omega
  have n4 : ¬ b = a := by omega
  unfold cpT
  rw [c0, c1]
  refine ⟨⟨by simp [sA, st, upd], by simp [sA, st, upd], by simp [sA, st, upd], by simp [sA, st, upd], fun k hk => ?_, fun k hk => ?_⟩, ⟨fun b9 h1 h2 h3 => by simp [sA, st, h1, h2, h3], rfl⟩⟩
  · have hk2 : k < 12 := by omega
    have h := w4 k hk
    simp [sA, st, upd, va_cpy, hk2, n1, h]
  · have hk2 : k < 12 := by omega
    have h := w5 k hk
    simp [sA, st, upd, va_cpy, hk2, n2', n3, n4, h]
