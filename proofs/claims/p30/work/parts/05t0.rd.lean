/-- a rule: its parts -/
def isU (M : Mem) (r : Nat) (P : Nat → Int) : Prop := ∀ k, k < 8 → M.1 (r + 1) k = zI (P k)
def okP (P : Nat → Int) : Prop := ∀ k, k < 8 → rg (P k)
theorem kd_r1 {a : Nat} (hk : kd a = (4, 0, 0)) : kd (a + 1) = (22, 8, 0) := by
  have h : ∀ a, a < 159 → kd a = (4, 0, 0) → kd (a + 1) = (22, 8, 0) := by decide +kernel
  exact h a (kd_lt hk (by decide)) hk
-- the tape as numbers, pieces of it, words
def sb (v : Nat) : Int := if v < 128 then (v : Int) else (v : Int) - 256
def isTc (M : Mem) (T : Nat → Nat) (N : Nat) : Prop := M.1 1 1 = zI (N : Int) ∧ ∀ i, i < N → M.1 2 i = zI (sb (T i))
def isTr (M : Mem) (T : Nat → Nat) (N : Nat) : Prop := M.1 146 8 = zI (N : Int) ∧ ∀ i, i < N → M.1 150 i = zI ((T i : Nat) : Int)
def okT (T : Nat → Nat) (N : Nat) : Prop := N ≤ 300 ∧ ∀ i, T i < 256
theorem sb_255k : ∀ v, v < 256 → zI (sb v) &&& zI 255 = zI (v : Int) := by decide +kernel
theorem sb_255 {v : Nat} (h : v < 256) : zI (sb v) &&& zI 255 = zI (v : Int) := sb_255k v h
theorem sb_rg {v : Nat} (h : v < 256) : -128 ≤ sb v ∧ sb v ≤ 127 ∧ (sb v = 32 ↔ v = 32) := by
  unfold sb
  by_cases h1 : v < 128
  · rw [if_pos h1]; omega
  · rw [if_neg h1]; omega
/-- the sign at a place -/
def sg (T : Nat → Nat) (N : Nat) (z : Int) : Int := if 0 ≤ z ∧ z < (N : Int) then (T z.toNat : Int) else -1
theorem sg_y {T : Nat → Nat} {N i : Nat} (h : i < N) : sg T N (i : Int) = (T i : Int) := by
  unfold sg
  rw [if_pos (by omega), Int.toNat_natCast]
theorem sg_n {T : Nat → Nat} {N : Nat} {z : Int} (h : z < 0 ∨ (N : Int) ≤ z) : sg T N z = -1 := by
  unfold sg
  rw [if_neg (by omega)]
theorem sg_rg {T : Nat → Nat} {N : Nat} (hT : okT T N) (z : Int) : -1 ≤ sg T N z ∧ sg T N z ≤ 255 := by
  unfold sg
  have := hT.2 z.toNat
  by_cases h : 0 ≤ z ∧ z < (N : Int)
  · rw [if_pos h]; omega
  · rw [if_neg h]; omega
/-- behind the blanks -/
def skF (T : Nat → Nat) (N : Nat) : Nat → Nat → Nat
  | 0, i => i
  | f + 1, i => if i < N ∧ T i = 32 then skF T N f (i + 1) else i
def sk (T : Nat → Nat) (N i : Nat) : Nat := skF T N (N - i) i
theorem sk_s {T : Nat → Nat} {N i : Nat} (h : i < N) (h1 : T i = 32) : sk T N i = sk T N (i + 1) := by
  unfold sk
  rw [show N - i = (N - (i + 1)) + 1 by omega, skF, if_pos ⟨h, h1⟩]
theorem sk_e {T : Nat → Nat} {N i : Nat} (h : ¬ (i < N ∧ T i = 32)) : sk T N i = i := by
  unfold sk
  cases hk : N - i with
  | zero => rfl
  | succ k => rw [skF, if_neg h]
theorem skF_le {T : Nat → Nat} {N : Nat} : ∀ (f i : Nat), i ≤ N → i ≤ skF T N f i ∧ skF T N f i ≤ N
  | 0, i, h => ⟨Nat.le_refl _, h⟩
  | f + 1, i, h => by
    rw [skF]
    by_cases h1 : i < N ∧ T i = 32
    · rw [if_pos h1]
      have := skF_le (T := T) (N := N) f (i + 1) (by omega)
      omega
    · rw [if_neg h1]
      exact ⟨Nat.le_refl _, h⟩
theorem sk_le {T : Nat → Nat} {N i : Nat} (h : i ≤ N) : i ≤ sk T N i ∧ sk T N i ≤ N := skF_le _ i h
theorem skF_no {T : Nat → Nat} {N : Nat} : ∀ (f i : Nat), N ≤ i + f → ¬ (skF T N f i < N ∧ T (skF T N f i) = 32)
  | 0, i, h => by rw [skF]; omega
  | f + 1, i, h => by
    rw [skF]
    by_cases h1 : i < N ∧ T i = 32
    · rw [if_pos h1]
      exact skF_no f (i + 1) (by omega)
    · rw [if_neg h1]
      exact h1
theorem sk_no {T : Nat → Nat} {N i : Nat} : ¬ (sk T N i < N ∧ T (sk T N i) = 32) := skF_no _ i (by omega)
def isL (v : Nat) : Prop := 97 ≤ v ∧ v ≤ 122
/-- behind the letters -/
noncomputable def lxF (T : Nat → Nat) (N : Nat) : Nat → Nat → Nat
  | 0, i => i
  | f + 1, i => if i < N ∧ 97 ≤ T i ∧ T i ≤ 122 then lxF T N f (i + 1) else i
noncomputable def lx (T : Nat → Nat) (N i : Nat) : Nat := lxF T N (N - i) i
theorem lx_s {T : Nat → Nat} {N i : Nat} (h : i < N) (h1 : 97 ≤ T i) (h2 : T i ≤ 122) : lx T N i = lx T N (i + 1) := by
  unfold lx
  rw [show N - i = (N - (i + 1)) + 1 by omega, lxF, if_pos ⟨h, h1, h2⟩]
theorem lx_e {T : Nat → Nat} {N i : Nat} (h : ¬ (i < N ∧ 97 ≤ T i ∧ T i ≤ 122)) : lx T N i = i := by
  unfold lx
  cases hk : N - i with
  | zero => rfl
  | succ k => rw [lxF, if_neg h]
theorem lxF_le {T : Nat → Nat} {N : Nat} : ∀ (f i : Nat), i ≤ N → i ≤ lxF T N f i ∧ lxF T N f i ≤ N ∧ ∀ k, i ≤ k → k < lxF T N f i → 97 ≤ T k ∧ T k ≤ 122
  | 0, i, h => ⟨Nat.le_refl _, h, fun k h1 h2 => by rw [lxF] at h2; omega⟩
  | f + 1, i, h => by
    rw [lxF]
    by_cases h1 : i < N ∧ 97 ≤ T i ∧ T i ≤ 122
    · rw [if_pos h1]
      have h2 := lxF_le (T := T) (N := N) f (i + 1) (by omega)
      refine ⟨by omega, h2.2.1, fun k h3 h4 => ?_⟩
      by_cases h5 : k = i
      · subst h5; exact h1.2
      · exact h2.2.2 k (by omega) h4
    · rw [if_neg h1]
      exact ⟨Nat.le_refl _, h, fun k h2 h3 => by omega⟩
theorem lx_le {T : Nat → Nat} {N i : Nat} (h : i ≤ N) : i ≤ lx T N i ∧ lx T N i ≤ N ∧ ∀ k, i ≤ k → k < lx T N i → 97 ≤ T k ∧ T k ≤ 122 := lxF_le _ i h
/-- the end of the piece that begins behind b's blanks -/
noncomputable def en (T : Nat → Nat) (N b : Nat) : Nat := if sk T N b < N then (if 97 ≤ T (sk T N b) ∧ T (sk T N b) ≤ 122 then lx T N (sk T N b) else sk T N b + 1) else sk T N b
theorem en_l {T : Nat → Nat} {N b : Nat} (h : sk T N b < N) (h1 : 97 ≤ T (sk T N b)) (h2 : T (sk T N b) ≤ 122) : en T N b = lx T N (sk T N b) := by
  unfold en
  rw [if_pos h, if_pos ⟨h1, h2⟩]
theorem en_o {T : Nat → Nat} {N b : Nat} (h : sk T N b < N) (h1 : ¬ (97 ≤ T (sk T N b) ∧ T (sk T N b) ≤ 122)) : en T N b = sk T N b + 1 := by
  unfold en
  rw [if_pos h, if_neg h1]
theorem en_e {T : Nat → Nat} {N b : Nat} (h : ¬ sk T N b < N) : en T N b = sk T N b := by
  unfold en
  rw [if_neg h]
theorem en_le {T : Nat → Nat} {N b : Nat} (h : b ≤ N) : sk T N b ≤ en T N b ∧ en T N b ≤ N ∧ (sk T N b < N → sk T N b < en T N b) := by
  have h1 := sk_le (T := T) h
  by_cases h2 : sk T N b < N
  · by_cases h3 : 97 ≤ T (sk T N b) ∧ T (sk T N b) ≤ 122
    · have h4 := lx_le (T := T) (i := sk T N b + 1) (N := N) (by omega)
      rw [en_l h2 h3.1 h3.2, lx_s h2 h3.1 h3.2]
      omega
    · rw [en_o h2 h3]; omega
  · rw [en_e h2]; omega
def nbl (v : Nat) : Prop := (97 ≤ v ∧ v ≤ 122) ∨ (48 ≤ v ∧ v ≤ 57)
/-- whether the piece lacks the blank ahead of it -/
def jnP (T : Nat → Nat) (N b : Nat) : Prop := sk T N b = b ∧ 0 < b ∧ nbl (T (b - 1)) ∧ b < N ∧ nbl (T b)
noncomputable def jn (T : Nat → Nat) (N b : Nat) : Nat := @ite Nat (jnP T N b) (Classical.propDecidable _) 1 0
theorem jn_1 {T : Nat → Nat} {N b : Nat} (h : jnP T N b) : jn T N b = 1 := by unfold jn; exact @if_pos _ (Classical.propDecidable _) h _ _ _
theorem jn_0 {T : Nat → Nat} {N b : Nat} (h : ¬ jnP T N b) : jn T N b = 0 := by unfold jn; exact @if_neg _ (Classical.propDecidable _) h _ _ _
theorem jn_01 (T : Nat → Nat) (N b : Nat) : jn T N b = 0 ∨ jn T N b = 1 := by
  by_cases h : jnP T N b
  · exact Or.inr (jn_1 h)
  · exact Or.inl (jn_0 h)
/-- the piece's signs -/
def pl (T : Nat → Nat) (s e : Nat) : List Nat := (List.range (e - s)).map (fun i => T (s + i))
theorem pl_cons {T : Nat → Nat} {s e : Nat} (h : s < e) : pl T s e = T s :: pl T (s + 1) e := by
  unfold pl
  rw [show e - s = (e - (s + 1)) + 1 by omega, List.range_succ_eq_map, List.map_cons, List.map_map]
  refine congrArg (List.cons (T s)) (List.map_congr_left (fun i _ => ?_))
  show T (s + (i + 1)) = T (s + 1 + i)
  rw [show s + (i + 1) = s + 1 + i by omega]
theorem pl_nil {T : Nat → Nat} {s e : Nat} (h : e ≤ s) : pl T s e = [] := by
  unfold pl
  rw [show e - s = 0 by omega]
  rfl
/-- which of the words, each with a sep behind it, the piece is -/
def mtL (T : Nat → Nat) (s e k0 sep : Nat) : List Nat → Nat → Nat → Nat → Option Nat
  | [], _, _, _ => none
  | x :: X, c, a, k => if x = sep then (if k = 1 ∧ a = e then some c else mtL T s e k0 sep X (c + 1) s k0) else mtL T s e k0 sep X c (a + 1) (if k = 1 ∧ a < e ∧ T a = x then 1 else 0)
theorem mtL_w {T : Nat → Nat} {s e k0 sep : Nat} {X : List Nat} {c : Nat} : ∀ (w : List Nat) (a k : Nat), (∀ x ∈ w, x ≠ sep) → a ≤ e ∨ k = 0 → mtL T s e k0 sep (w ++ sep :: X) c a k = if k = 1 ∧ pl T a e = w then some c else mtL T s e k0 sep X (c + 1) s k0
  | [], a, k, hw, ha => by
    rw [List.nil_append, mtL, if_pos rfl]
    by_cases h : k = 1 ∧ a = e
    · rw [if_pos h, if_pos ⟨h.1, pl_nil (by omega)⟩]
    · rw [if_neg h, if_neg (fun q => h ⟨q.1, ?_⟩)]
      rcases ha with ha | ha
      · by_cases h2 : a < e
        · rw [pl_cons h2] at q; cases q.2
        · omega
      · omega
  | x :: w, a, k, hw, ha => by
    rw [List.cons_append, mtL, if_neg (hw x List.mem_cons_self)]
    by_cases h : k = 1 ∧ a < e ∧ T a = x
    · rw [if_pos h, mtL_w w (a + 1) 1 (fun y hy => hw y (List.mem_cons_of_mem _ hy)) (Or.inl h.2.1), pl_cons h.2.1, h.2.2]
      by_cases h2 : pl T (a + 1) e = w
      · rw [if_pos ⟨rfl, h2⟩, if_pos ⟨h.1, by rw [h2]⟩]
      · rw [if_neg (fun q => h2 q.2), if_neg (fun q => h2 (List.cons.inj q.2).2)]
    · rw [if_neg h, mtL_w w (a + 1) 0 (fun y hy => hw y (List.mem_cons_of_mem _ hy)) (Or.inr rfl), if_neg (fun q => absurd q.1 (by decide)), if_neg (fun q => h ⟨q.1, ?_⟩)]
      by_cases h2 : a < e
      · rw [pl_cons h2] at q
        exact ⟨h2, (List.cons.inj q.2).1⟩
      · rw [pl_nil (by omega)] at q; cases q.2
def flw (sep : Nat) (ws : List (List Nat)) : List Nat := ws.flatMap (fun w => w ++ [sep])
theorem mtL_f {T : Nat → Nat} {s e k0 sep : Nat} (hse : s ≤ e) : ∀ (ws : List (List Nat)) (c : Nat), (∀ w ∈ ws, ∀ x ∈ w, x ≠ sep) → mtL T s e k0 sep (flw sep ws) c s k0 = if k0 = 1 ∧ pl T s e ∈ ws then some (c + ws.idxOf (pl T s e)) else none
  | [], c, _ => by
    rw [if_neg (fun q => absurd q.2 List.not_mem_nil)]
    rfl
  | w :: ws, c, h => by
    have e1 : flw sep (w :: ws) = w ++ sep :: flw sep ws := by
      unfold flw
      rw [List.flatMap_cons, List.append_assoc]
      rfl
    rw [e1, mtL_w w s k0 (h w List.mem_cons_self) (Or.inl hse), mtL_f hse ws (c + 1) (fun v hv => h v (List.mem_cons_of_mem _ hv))]
    by_cases h1 : k0 = 1
    · by_cases h2 : pl T s e = w
      · rw [if_pos ⟨h1, h2⟩, if_pos ⟨h1, by rw [h2]; exact List.mem_cons_self⟩, h2, List.idxOf_cons_self]
        rfl
      · rw [if_neg (fun q => h2 q.2)]
        by_cases h3 : pl T s e ∈ ws
        · rw [if_pos ⟨h1, h3⟩, if_pos ⟨h1, List.mem_cons_of_mem _ h3⟩, List.idxOf_cons, show (w == pl T s e) = false from beq_eq_false_iff_ne.mpr (fun q => h2 q.symm)]
          exact congrArg some (by show c + 1 + _ = c + (_ + 1); omega)
        · rw [if_neg (fun q => h3 q.2), if_neg (fun q => (List.mem_cons.mp q.2).elim h2 h3)]
    · rw [if_neg (fun q => h1 q.1), if_neg (fun q => h1 q.1), if_neg (fun q => h1 q.1)]
def WDS : List (List Nat) := [[97, 103, 97, 105, 110], [108, 105, 110, 107], [115, 112, 114, 101, 97, 100], [115, 104, 105, 102, 116], [99, 117, 116], [100, 111, 99, 107], [100, 114, 111, 112], [102, 117, 115, 101], [116, 117, 114, 110], [102, 108, 97, 116], [102, 105, 108, 108], [108, 111, 119], [109, 105, 100], [104, 105, 103, 104], [97, 110, 121], [114, 105, 103, 104, 116], [108, 101, 102, 116], [102, 105, 114, 115, 116], [108, 97, 115, 116], [116, 111], [105, 102], [110, 111, 116], [98, 101, 103, 105, 110], [101, 110, 100], [104, 101, 97, 118, 121], [109, 97, 110, 121], [102, 108, 111, 97, 116], [98, 101, 102, 111, 114, 101], [97, 102, 116, 101, 114]]
/-- which word the piece behind b is; 29: none -/
noncomputable def sp (T : Nat → Nat) (N b : Nat) : Nat := WDS.idxOf (pl T (sk T N b) (en T N b))
theorem sp_le (T : Nat → Nat) (N b : Nat) : sp T N b ≤ 29 := List.idxOf_le_length (l := WDS)
theorem WDS_l : ∀ w ∈ WDS, (w.headD 0 ≠ 0 ∧ ∀ x ∈ w, 97 ≤ x ∧ x ≤ 122) := by decide +kernel
/-- what choice is read behind b, of the words from lo to hi; -1: none -/
noncomputable def tk (T : Nat → Nat) (N b lo hi : Nat) : Int := if jn T N b = 0 ∧ lo ≤ sp T N b ∧ sp T N b ≤ hi then (sp T N b : Int) - (lo : Int) else -1
theorem tk_rg (T : Nat → Nat) (N b lo hi : Nat) : -1 ≤ tk T N b lo hi ∧ tk T N b lo hi ≤ 29 := by
  have := sp_le T N b
  unfold tk
  by_cases h : jn T N b = 0 ∧ lo ≤ sp T N b ∧ sp T N b ≤ hi
  · rw [if_pos h]; omega
  · rw [if_neg h]; omega
theorem sp_l {T : Nat → Nat} {N b : Nat} (hb : b ≤ N) (h : sp T N b < 29) : sk T N b < N ∧ 97 ≤ T (sk T N b) ∧ T (sk T N b) ≤ 122 := by
  have h1 : pl T (sk T N b) (en T N b) ∈ WDS := List.idxOf_lt_length_iff.mp h
  have h2 := WDS_l _ h1
  have h3 := en_le (T := T) hb
  by_cases h4 : sk T N b < N
  · rw [pl_cons (h3.2.2 h4)] at h2
    exact ⟨h4, h2.2 _ List.mem_cons_self⟩
  · rw [pl_nil (by have := en_e h4; omega)] at h2
    exact absurd rfl h2.1
theorem sp_o {T : Nat → Nat} {N b : Nat} (hb : b ≤ N) (h : ¬ (sk T N b < N ∧ 97 ≤ T (sk T N b) ∧ T (sk T N b) ≤ 122)) : sp T N b = 29 := by
  have h1 := sp_le T N b
  by_cases h2 : sp T N b < 29
  · exact absurd (sp_l hb h2) h
  · omega
theorem sg_p {T : Nat → Nat} {N : Nat} {z : Int} (h : 0 ≤ z ∧ z < (N : Int)) : sg T N z = (T z.toNat : Int) := by
  unfold sg
  rw [if_pos h]
theorem st_o {M : Mem} {a k b : Nat} {x : Int32} (h : b ≠ a) : (st M a k x).1 b = M.1 b := by simp [st, sA, h]
theorem st_k {M : Mem} {a k j : Nat} {x : Int32} (h : j ≠ k) : (st M a k x).1 a j = M.1 a j := by simp [st, sA, upd, h]
theorem isTc.o {M : Mem} {T : Nat → Nat} {N a k : Nat} {x : Int32} (h : isTc M T N) (h1 : a ≠ 1) (h2 : a ≠ 2) : isTc (st M a k x) T N := ⟨by rw [st_o (fun q => h1 q.symm)]; exact h.1, fun i hi => by rw [st_o (fun q => h2 q.symm)]; exact h.2 i hi⟩
theorem isTr.o {M : Mem} {T : Nat → Nat} {N a k : Nat} {x : Int32} (h : isTr M T N) (h1 : a ≠ 146 ∨ k ≠ 8) (h2 : a ≠ 150) : isTr (st M a k x) T N := ⟨(st_ne (by rcases h1 with h1 | h1; exact Or.inl (fun q => h1 q.symm); exact Or.inr (fun q => h1 q.symm))).trans h.1, fun i hi => by rw [st_o (fun q => h2 q.symm)]; exact h.2 i hi⟩
/-- the reader's cell alone has changed, and of it not how many were read -/
def FrQ (M1 M : Mem) : Prop := (∀ a, a ≠ 4 → M1.1 a = M.1 a) ∧ M1.1 4 2 = M.1 4 2 ∧ M1.2 = M.2
theorem FrQ.rf {M : Mem} : FrQ M M := ⟨fun _ _ => rfl, rfl, rfl⟩
theorem FrQ.tr {M M1 M2 : Mem} (h : FrQ M1 M) (h1 : FrQ M2 M1) : FrQ M2 M := ⟨fun a ha => (h1.1 a ha).trans (h.1 a ha), h1.2.1.trans h.2.1, h1.2.2.trans h.2.2⟩
theorem FrQ.to {M M1 : Mem} {k : Nat} {x : Int32} (h : FrQ M1 M) (hk : k ≠ 2) : FrQ (st M1 4 k x) M := ⟨fun a ha => (st_o ha).trans (h.1 a ha), (st_k (fun q => hk q.symm)).trans h.2.1, h.2.2⟩
theorem isTc.q {M M1 : Mem} {T : Nat → Nat} {N : Nat} (h : isTc M T N) (hf : FrQ M1 M) : isTc M1 T N := ⟨by rw [hf.1 1 (by decide)]; exact h.1, fun i hi => by rw [hf.1 2 (by decide)]; exact h.2 i hi⟩
/-- the reader stands behind b -/
def RS (M : Mem) (T : Nat → Nat) (N b : Nat) : Prop := b ≤ N ∧ M.1 4 3 = zI ((sk T N b : Nat) : Int) ∧ M.1 4 4 = zI ((en T N b : Nat) : Int) ∧ M.1 4 5 = zI ((jn T N b : Nat) : Int)
theorem RS.fr {M M1 : Mem} {T : Nat → Nat} {N b : Nat} (h : RS M T N b) (hf : M1.1 4 = M.1 4) : RS M1 T N b := by unfold RS; rw [hf]; exact h
theorem step_j {T : Nat → Nat} {N b : Nat} (h1 : sk T N b = b) (h2 : nbl (T (b - 1))) (h3 : 0 < b) (h4 : b < N) (h5 : nbl (T b)) : jn T N b = 1 := jn_1 ⟨h1, h3, h2, h4, h5⟩
/-- rows of a rule's parts -/
def updI (P : Nat → Int) (k : Nat) (x : Int) : Nat → Int := fun j => if j = k then x else P j
theorem updI_t {P : Nat → Int} {k : Nat} {x : Int} : updI P k x k = x := by simp [updI]
theorem updI_o {P : Nat → Int} {k j : Nat} {x : Int} (h : j ≠ k) : updI P k x j = P j := by simp [updI, h]
theorem isU.to {M : Mem} {ru k : Nat} {P : Nat → Int} {x : Int} (h : isU M ru P) : isU (st M (ru + 1) k (zI x)) ru (updI P k x) := fun j hj => by
  by_cases h1 : j = k
  · subst h1; rw [updI_t]; exact st_at
  · rw [updI_o h1, st_k h1]; exact h j hj
theorem isU.fr {M M1 : Mem} {ru : Nat} {P : Nat → Int} (h : isU M ru P) (hf : M1.1 (ru + 1) = M.1 (ru + 1)) : isU M1 ru P := fun j hj => by rw [hf]; exact h j hj
/-- the reader and one rule alone have changed -/
def FrU (M1 M : Mem) (ru : Nat) : Prop := (∀ a, a ≠ 4 → a ≠ ru + 1 → M1.1 a = M.1 a) ∧ M1.1 4 2 = M.1 4 2 ∧ M1.2 = M.2
theorem FrU.rf {M : Mem} {ru : Nat} : FrU M M ru := ⟨fun _ _ _ => rfl, rfl, rfl⟩
theorem FrU.tr {M M1 M2 : Mem} {ru : Nat} (h : FrU M1 M ru) (h1 : FrU M2 M1 ru) : FrU M2 M ru := ⟨fun a ha hb => (h1.1 a ha hb).trans (h.1 a ha hb), h1.2.1.trans h.2.1, h1.2.2.trans h.2.2⟩
theorem FrU.q {M M1 : Mem} {ru : Nat} (h : FrQ M1 M) : FrU M1 M ru := ⟨fun a ha _ => h.1 a ha, h.2.1, h.2.2⟩
theorem FrU.to {M M1 : Mem} {ru k : Nat} {x : Int32} (h : FrU M1 M ru) (h4 : ru ≠ 3) : FrU (st M1 (ru + 1) k x) M ru := ⟨fun a ha hb => (st_o hb).trans (h.1 a ha hb), by rw [st_o (show 4 ≠ ru + 1 by omega)]; exact h.2.1, h.2.2⟩
theorem isTc.u {M M1 : Mem} {T : Nat → Nat} {N ru : Nat} (h : isTc M T N) (hf : FrU M1 M ru) (h6 : 6 ≤ ru) : isTc M1 T N := ⟨by rw [hf.1 1 (by decide) (by omega)]; exact h.1, fun i hi => by rw [hf.1 2 (by decide) (by omega)]; exact h.2 i hi⟩
theorem ru_6 {a : Nat} (hk : kd a = (4, 0, 0)) : 6 ≤ a := (by decide +kernel : ∀ a, a < 159 → kd a = (4, 0, 0) → 6 ≤ a) a (kd_lt hk (by decide)) hk
-- written texts, exactly
def slx (i j : Nat) : Int := ((slB.getD i []).getD j 0).toInt
theorem slx_b {i : Nat} (hi : i < NSL) {j : Nat} (hj : (j : Int) < slN i) : 32 ≤ slx i j ∧ slx i j ≤ 122 := by
  obtain ⟨z, h1, h2⟩ := sl_ex hi hj
  unfold slx
  rw [h2, zI_toInt (by constructor <;> omega)]
  exact h1
theorem slx_e {i : Nat} (hi : i < NSL) {j : Nat} (hj : (j : Int) < slN i) : (slB.getD i []).getD j 0 = zI (slx i j) := zI_of _
theorem and_255 {z : Int} (h : 0 ≤ z ∧ z ≤ 255) : zI z &&& zI 255 = zI z := by
  have h1 : ∀ k : Nat, k < 256 → zI (k : Int) &&& zI 255 = zI (k : Int) := by decide +kernel
  have h2 := h1 z.toNat (by omega)
  rwa [show ((z.toNat : Nat) : Int) = z by omega] at h2
theorem i2c_z {z : Int} (h : 0 ≤ z ∧ z ≤ 65535) : ((zI z).toUInt32 % 65536).toInt32 = zI z := nar_c h
/-- the written texts' signs -/
def slW (i : Nat) : List Nat := (slB.getD i []).map (fun x => x.toInt.toNat)
theorem slW_len (i : Nat) : ((slW i).length : Int) = slN i := by unfold slW slN; rw [List.length_map]
theorem slW_d {i j : Nat} (hi : i < NSL) (hj : (j : Int) < slN i) : (slW i).drop j = (slx i j).toNat :: (slW i).drop (j + 1) := by
  have hl := slW_len i
  have h1 : j < (slW i).length := by omega
  rw [List.drop_eq_getElem_cons h1]
  refine congrArg (fun z => z :: (slW i).drop (j + 1)) ?_
  have h3 : j < (slB.getD i []).length := by unfold slN at hj; omega
  have h2 : (slW i)[j]? = some (slx i j).toNat := by
    unfold slW slx
    generalize slB.getD i [] = q at h3 ⊢
    rw [List.getElem?_map, List.getElem?_eq_getElem h3, List.getD_eq_getElem?_getD, List.getElem?_eq_getElem h3]
    rfl
  exact (List.getElem?_eq_some_iff.mp h2).2
theorem slW_e {i j : Nat} (hj : slN i ≤ (j : Int)) : (slW i).drop j = [] := List.drop_eq_nil_of_le (by have := slW_len i; omega)
/-- the words of a written text stand side by side among all words -/
def slLo (i : Nat) : Nat := [0, 0, 1, 17, 11, 11, 15, 19, 20, 21, 22].getD i 0
def slHi (i : Nat) : Nat := [0, 0, 10, 18, 13, 14, 16, 19, 20, 21, 28].getD i 0
def slWs (i : Nat) : List (List Nat) := (WDS.drop (slLo i)).take (slHi i + 1 - slLo i)
theorem slW_f : ∀ i, i < 11 → 0 < i → slW i ++ [32] = flw 32 (slWs i) ∧ (∀ w ∈ slWs i, ∀ x ∈ w, x ≠ 32) := by decide +kernel
theorem slWs_i : ∀ i, i < 11 → ∀ w ∈ WDS, (w ∈ slWs i ↔ (slLo i ≤ WDS.idxOf w ∧ WDS.idxOf w ≤ slHi i)) ∧ (w ∈ slWs i → WDS.idxOf w = slLo i + (slWs i).idxOf w) := by decide +kernel
theorem slWs_s : ∀ i, i < 11 → (∀ w ∈ slWs i, w ∈ WDS) ∧ slHi i < 29 := by decide +kernel
/-- what the search of a text's words gives -/
theorem ch_tk {T : Nat → Nat} {N b i : Nat} (hb : b ≤ N) (hi : i < 11) (h0 : 0 < i) {k0 : Nat} (hk : k0 = 1 - jn T N b) {r : Int} (hr : r = (mtL T (sk T N b) (en T N b) k0 32 (slW i ++ [32]) 0 (sk T N b) k0).elim (-1) (fun c => (c : Int))) : r = tk T N b (slLo i) (slHi i) := by
  have hse := (en_le (T := T) hb).1
  have hf := slW_f i hi h0
  rw [hf.1, mtL_f hse (slWs i) 0 hf.2] at hr
  have hs := slWs_s i hi
  have hj := jn_01 T N b
  unfold tk
  have esp : sp T N b = WDS.idxOf (pl T (sk T N b) (en T N b)) := rfl
  by_cases h1 : pl T (sk T N b) (en T N b) ∈ WDS
  · have h2 := slWs_i i hi _ h1
    rw [← esp] at h2
    by_cases h3 : k0 = 1 ∧ pl T (sk T N b) (en T N b) ∈ slWs i
    · rw [if_pos h3] at hr
      have h4 := h2.1.mp h3.2
      have h5 := h2.2 h3.2
      rw [if_pos ⟨by omega, h4⟩, hr]
      show ((0 + _ : Nat) : Int) = _
      omega
    · rw [if_neg h3] at hr
      rw [if_neg (fun q => h3 ⟨by omega, h2.1.mpr q.2⟩), hr]
      rfl
  · have h2 : sp T N b = 29 := List.idxOf_eq_length h1
    rw [if_neg (fun q => h1 (hs.1 _ q.2))] at hr
    rw [if_neg (by omega), hr]
    rfl
theorem sg_c {T : Nat → Nat} {N : Nat} (i : Nat) : (i < N ∧ sg T N (i : Int) = (T i : Int)) ∨ (N ≤ i ∧ sg T N (i : Int) = -1) := by
  by_cases h : i < N
  · exact Or.inl ⟨h, sg_y h⟩
  · exact Or.inr ⟨by omega, sg_n (by omega)⟩
theorem sg_m {T : Nat → Nat} {N E : Nat} (hE : E ≤ N) : (0 < E ∧ sg T N ((E : Int) - 1) = (T (E - 1) : Int)) ∨ (E = 0 ∧ sg T N ((E : Int) - 1) = -1) := by
  by_cases h : E = 0
  · exact Or.inr ⟨h, sg_n (by omega)⟩
  · refine Or.inl ⟨by omega, ?_⟩
    have h1 := sg_y (T := T) (N := N) (i := E - 1) (by omega)
    rwa [show ((E - 1 : Nat) : Int) = (E : Int) - 1 by omega] at h1
theorem en_of {T : Nat → Nat} {N b k : Nat} (hb : b ≤ N) (hk : k = lx T N (sk T N b)) : (k = sk T N b ∧ sk T N b < N ∧ en T N b = sk T N b + 1) ∨ ((k ≠ sk T N b ∨ N ≤ sk T N b) ∧ en T N b = k) := by
  by_cases h2 : sk T N b < N
  · by_cases h3 : 97 ≤ T (sk T N b) ∧ T (sk T N b) ≤ 122
    · have h4 := lx_le (T := T) (i := sk T N b + 1) (N := N) (by omega)
      have h5 := lx_s h2 h3.1 h3.2
      exact Or.inr ⟨Or.inl (by omega), by rw [en_l h2 h3.1 h3.2, hk]⟩
    · have h4 := lx_e (T := T) (N := N) (i := sk T N b) (fun q => h3 q.2)
      exact Or.inl ⟨by omega, h2, en_o h2 h3⟩
  · have h4 := lx_e (T := T) (N := N) (i := sk T N b) (fun q => h2 q.1)
    exact Or.inr ⟨Or.inr (by omega), by rw [en_e h2]; omega⟩
-- the search of a piece among a text's words
def rst (i j : Nat) : List Nat := if (j : Int) ≤ slN i then (slW i).drop j ++ [32] else []
theorem rst_0 (i : Nat) : rst i 0 = slW i ++ [32] := by
  unfold rst
  rw [if_pos (by have := slW_len i; omega)]
  rfl
theorem rst_e {i j : Nat} (h : (j : Int) = slN i) : rst i j = [32] := by
  unfold rst
  rw [if_pos (by omega), slW_e (by omega)]
  rfl
theorem rst_c {i j : Nat} (hi : i < NSL) (h : (j : Int) < slN i) : rst i j = (slx i j).toNat :: rst i (j + 1) := by
  unfold rst
  rw [if_pos (by omega), if_pos (by omega), slW_d hi h]
  rfl
theorem rst_n {i j : Nat} (h : slN i < (j : Int)) : rst i j = [] := by
  unfold rst
  rw [if_neg (by omega)]
theorem rst_e1 {i j : Nat} (h : (j : Int) = slN i) : rst i j = 32 :: rst i (j + 1) := by rw [rst_e h, rst_n (by omega)]
theorem mt_c0 {T : Nat → Nat} {s e k0 sep x c a k : Nat} {X : List Nat} {R : Option Nat} (h : mtL T s e k0 sep (x :: X) c a k = R) (hx : x = sep) (hn : ¬ (k = 1 ∧ a = e)) : mtL T s e k0 sep X (c + 1) s k0 = R := by
  rw [mtL, if_pos hx, if_neg hn] at h
  exact h
theorem mt_c1 {T : Nat → Nat} {s e k0 sep x c a k : Nat} {X : List Nat} {R : Option Nat} (h : mtL T s e k0 sep (x :: X) c a k = R) (hx : x = sep) (hy : k = 1 ∧ a = e) : R = some c := by
  rw [mtL, if_pos hx, if_pos hy] at h
  exact h.symm
theorem mt_y {T : Nat → Nat} {s e k0 sep x c a k : Nat} {X : List Nat} {R : Option Nat} (h : mtL T s e k0 sep (x :: X) c a k = R) (hx : x ≠ sep) (hk : k = 1 ∧ a < e ∧ T a = x) : mtL T s e k0 sep X c (a + 1) 1 = R := by
  rw [mtL, if_neg hx, if_pos hk] at h
  exact h
theorem mt_n {T : Nat → Nat} {s e k0 sep x c a k : Nat} {X : List Nat} {R : Option Nat} (h : mtL T s e k0 sep (x :: X) c a k = R) (hx : x ≠ sep) (hk : ¬ (k = 1 ∧ a < e ∧ T a = x)) : mtL T s e k0 sep X c (a + 1) 0 = R := by
  rw [mtL, if_neg hx, if_neg hk] at h
  exact h
/-- what is found in the whole text of names -/
noncomputable def fnd (T : Nat → Nat) (N b i : Nat) : Option Nat := mtL T (sk T N b) (en T N b) (1 - jn T N b) 32 (slW i ++ [32]) 0 (sk T N b) (1 - jn T N b)
theorem fnd_s {T : Nat → Nat} {N b i c : Nat} (hb : b ≤ N) (hi : i < NSL) (h0 : 0 < i) (h : fnd T N b i = some c) : (c : Int) = tk T N b (slLo i) (slHi i) := ch_tk hb hi h0 rfl (by unfold fnd at h; rw [h]; rfl)
theorem fnd_n {T : Nat → Nat} {N b i : Nat} (hb : b ≤ N) (hi : i < NSL) (h0 : 0 < i) (h : fnd T N b i = none) : -1 = tk T N b (slLo i) (slHi i) := ch_tk hb hi h0 rfl (by unfold fnd at h; rw [h]; rfl)
/-- 'i' of choiceOf: what is left to be searched gives what the whole does -/
def srI (T : Nat → Nat) (N b i j c a k : Nat) : Prop := mtL T (sk T N b) (en T N b) (1 - jn T N b) 32 (rst i j) c a k = fnd T N b i
theorem srI_0 {T : Nat → Nat} {N b i k : Nat} (hk : k = 1 - jn T N b) : srI T N b i 0 0 (sk T N b) k := by unfold srI fnd; rw [rst_0, hk]
theorem srI_r {T : Nat → Nat} {N b i j c a k : Nat} (hi : i < NSL) (h : srI T N b i j c a k) (hx : (j : Int) = slN i ∨ ((j : Int) < slN i ∧ slx i j = 32)) (h1 : k = 1) (h2 : a = en T N b) : fnd T N b i = some c := by
  unfold srI at h
  rcases hx with hx | hx
  · rw [rst_e1 hx] at h; exact mt_c1 h rfl ⟨h1, h2⟩
  · rw [rst_c hi hx.1] at h; exact mt_c1 h (by omega) ⟨h1, h2⟩
theorem srI_w {T : Nat → Nat} {N b i j c a k k1 : Nat} (hi : i < NSL) (h : srI T N b i j c a k) (hx : (j : Int) = slN i ∨ ((j : Int) < slN i ∧ slx i j = 32)) (h1 : ¬ (k = 1 ∧ a = en T N b)) (hk : k1 = 1 - jn T N b) : srI T N b i (j + 1) (c + 1) (sk T N b) k1 := by
  unfold srI at *
  rw [hk]
  rcases hx with hx | hx
  · rw [rst_e1 hx] at h; exact mt_c0 h rfl h1
  · rw [rst_c hi hx.1] at h; exact mt_c0 h (by omega) h1
theorem srI_y {T : Nat → Nat} {N b i j c a k : Nat} (hi : i < NSL) (h : srI T N b i j c a k) (hx : (j : Int) < slN i) (h32 : slx i j ≠ 32) (h1 : k = 1) (h2 : a < en T N b) (h3 : (T a : Int) = slx i j) : srI T N b i (j + 1) c (a + 1) 1 := by
  unfold srI at *
  rw [rst_c hi hx] at h
  have hb := slx_b hi hx
  exact mt_y h (by omega) ⟨h1, h2, by omega⟩
theorem srI_n {T : Nat → Nat} {N b i j c a k : Nat} (hi : i < NSL) (h : srI T N b i j c a k) (hx : (j : Int) < slN i) (h32 : slx i j ≠ 32) (h1 : ¬ (k = 1 ∧ a < en T N b ∧ (T a : Int) = slx i j)) : srI T N b i (j + 1) c (a + 1) 0 := by
  unfold srI at *
  rw [rst_c hi hx] at h
  have hb := slx_b hi hx
  exact mt_n h (by omega) (fun q => h1 ⟨q.1, q.2.1, by omega⟩)
theorem srI_e {T : Nat → Nat} {N b i j c a k : Nat} (h : srI T N b i j c a k) (hx : slN i < (j : Int)) : fnd T N b i = none := by
  unfold srI at h
  rw [rst_n hx] at h
  exact h.symm
-- a rule is read: whether all was right so far, behind what the reader stands, the parts
noncomputable def dgt (T : Nat → Nat) (N b : Nat) : Int := if jn T N b = 0 ∧ sk T N b < N ∧ 49 ≤ T (sk T N b) ∧ T (sk T N b) ≤ 57 then (T (sk T N b) : Int) - 48 else -1
theorem dgt_rg (T : Nat → Nat) (N b : Nat) : dgt T N b = -1 ∨ (1 ≤ dgt T N b ∧ dgt T N b ≤ 9) := by
  unfold dgt
  by_cases h : jn T N b = 0 ∧ sk T N b < N ∧ 49 ≤ T (sk T N b) ∧ T (sk T N b) ≤ 57
  · rw [if_pos h]; omega
  · rw [if_neg h]; omega
def P0 : Nat → Int := fun k => if k = 1 ∨ k = 6 then 0 else -2
noncomputable def rdC (T : Nat → Nat) (N lo hi k : Nat) (x : Nat × Nat × (Nat → Int)) : Nat × Nat × (Nat → Int) := if x.1 = 1 then (if tk T N x.2.1 lo hi = -1 then (0, x.2.1, x.2.2) else (1, en T N x.2.1, updI x.2.2 k (tk T N x.2.1 lo hi))) else x
noncomputable def rdN (T : Nat → Nat) (N : Nat) (x : Nat × Nat × (Nat → Int)) : Nat × Nat × (Nat → Int) := if x.1 = 1 then (if dgt T N x.2.1 = -1 then (0, x.2.1, x.2.2) else (1, en T N x.2.1, updI x.2.2 3 (dgt T N x.2.1))) else x
noncomputable def rdW (T : Nat → Nat) (N lo : Nat) (x : Nat × Nat × (Nat → Int)) : Nat × Nat × (Nat → Int) := if x.1 = 1 then (if tk T N x.2.1 lo lo = 0 then (1, en T N x.2.1, x.2.2) else (0, x.2.1, x.2.2)) else x
noncomputable def rdO (T : Nat → Nat) (N lo k : Nat) (x : Nat × Nat × (Nat → Int)) : Nat × Nat × (Nat → Int) := if x.1 = 1 ∧ tk T N x.2.1 lo lo = 0 then (1, en T N x.2.1, updI x.2.2 k 1) else x
noncomputable def rdK (T : Nat → Nat) (N : Nat) (v : Int) (x : Nat × Nat × (Nat → Int)) : Nat × Nat × (Nat → Int) := if v = 0 then x else rdC T N 11 (if v = 9 then 13 else 14) 2 x
noncomputable def rdP (T : Nat → Nat) (N : Nat) (v : Int) (x : Nat × Nat × (Nat → Int)) : Nat × Nat × (Nat → Int) :=
  if v = 8 then rdC T N 17 18 4 (rdN T N x) else
  if v = 0 ∨ v = 2 ∨ v = 4 then rdC T N 15 16 4 (rdK T N v x) else
  if v = 1 then rdN T N (rdC T N 15 16 4 (rdK T N v x)) else
  if v = 3 then rdC T N 17 18 4 (rdK T N v x) else
  if v = 7 then rdC T N 11 13 3 (rdW T N 19 (rdK T N v x)) else rdK T N v x
noncomputable def rdT (T : Nat → Nat) (N : Nat) (x : Nat × Nat × (Nat → Int)) : Nat × Nat × (Nat → Int) := if (rdC T N 22 28 5 (rdO T N 21 6 x)).1 = 1 ∧ 5 ≤ (rdC T N 22 28 5 (rdO T N 21 6 x)).2.2 5 then rdC T N 11 14 7 (rdC T N 22 28 5 (rdO T N 21 6 x)) else rdC T N 22 28 5 (rdO T N 21 6 x)
noncomputable def rdV (T : Nat → Nat) (N b : Nat) : Nat × Nat × (Nat → Int) := rdC T N 1 10 0 (rdO T N 0 1 (1, b, P0))
noncomputable def rdQ (T : Nat → Nat) (N : Nat) (x : Nat × Nat × (Nat → Int)) : Nat × Nat × (Nat → Int) := if x.1 = 1 then rdP T N (x.2.2 0) x else x
noncomputable def rdI (T : Nat → Nat) (N : Nat) (v : Int) (x : Nat × Nat × (Nat → Int)) : Nat × Nat × (Nat → Int) := if x.1 = 1 ∧ ¬ (v = 0 ∨ v = 8 ∨ v = 9) ∧ tk T N x.2.1 20 20 = 0 then rdT T N (1, en T N x.2.1, x.2.2) else x
noncomputable def rdS (T : Nat → Nat) (N : Nat) (x : Nat × Nat × (Nat → Int)) : Nat × Nat × (Nat → Int) := if x.1 = 1 then (if sk T N x.2.1 < N ∧ T (sk T N x.2.1) = 59 then (1, en T N x.2.1, x.2.2) else (0, x.2.1, x.2.2)) else x
/-- a rule, read behind b -/
noncomputable def rdR (T : Nat → Nat) (N b : Nat) : Nat × Nat × (Nat → Int) := rdS T N (rdI T N ((rdV T N b).2.2 0) (rdQ T N (rdV T N b)))
-- what is kept: nothing but 0, 1; behind the tape's end never; parts stay what they were where nothing was read
def rdG (N : Nat) (x : Nat × Nat × (Nat → Int)) : Prop := (x.1 = 0 ∨ x.1 = 1) ∧ x.2.1 ≤ N
theorem rdC_y {T : Nat → Nat} {N lo hi k : Nat} {x : Nat × Nat × (Nat → Int)} (h : x.1 = 1) (h1 : tk T N x.2.1 lo hi ≠ -1) : rdC T N lo hi k x = (1, en T N x.2.1, updI x.2.2 k (tk T N x.2.1 lo hi)) := by unfold rdC; rw [if_pos h, if_neg h1]
theorem rdC_n {T : Nat → Nat} {N lo hi k : Nat} {x : Nat × Nat × (Nat → Int)} (h : x.1 = 1) (h1 : tk T N x.2.1 lo hi = -1) : rdC T N lo hi k x = (0, x.2.1, x.2.2) := by unfold rdC; rw [if_pos h, if_pos h1]
theorem rdC_0 {T : Nat → Nat} {N lo hi k : Nat} {x : Nat × Nat × (Nat → Int)} (h : x.1 = 0) : rdC T N lo hi k x = x := by unfold rdC; rw [if_neg (by omega)]
theorem rdN_y {T : Nat → Nat} {N : Nat} {x : Nat × Nat × (Nat → Int)} (h : x.1 = 1) (h1 : dgt T N x.2.1 ≠ -1) : rdN T N x = (1, en T N x.2.1, updI x.2.2 3 (dgt T N x.2.1)) := by unfold rdN; rw [if_pos h, if_neg h1]
theorem rdN_n {T : Nat → Nat} {N : Nat} {x : Nat × Nat × (Nat → Int)} (h : x.1 = 1) (h1 : dgt T N x.2.1 = -1) : rdN T N x = (0, x.2.1, x.2.2) := by unfold rdN; rw [if_pos h, if_pos h1]
theorem rdN_0 {T : Nat → Nat} {N : Nat} {x : Nat × Nat × (Nat → Int)} (h : x.1 = 0) : rdN T N x = x := by unfold rdN; rw [if_neg (by omega)]
theorem rdW_y {T : Nat → Nat} {N lo : Nat} {x : Nat × Nat × (Nat → Int)} (h : x.1 = 1) (h1 : tk T N x.2.1 lo lo = 0) : rdW T N lo x = (1, en T N x.2.1, x.2.2) := by unfold rdW; rw [if_pos h, if_pos h1]
theorem rdW_n {T : Nat → Nat} {N lo : Nat} {x : Nat × Nat × (Nat → Int)} (h : x.1 = 1) (h1 : tk T N x.2.1 lo lo ≠ 0) : rdW T N lo x = (0, x.2.1, x.2.2) := by unfold rdW; rw [if_pos h, if_neg h1]
theorem rdW_0 {T : Nat → Nat} {N lo : Nat} {x : Nat × Nat × (Nat → Int)} (h : x.1 = 0) : rdW T N lo x = x := by unfold rdW; rw [if_neg (by omega)]
theorem rdO_y {T : Nat → Nat} {N lo k : Nat} {x : Nat × Nat × (Nat → Int)} (h : x.1 = 1) (h1 : tk T N x.2.1 lo lo = 0) : rdO T N lo k x = (1, en T N x.2.1, updI x.2.2 k 1) := by unfold rdO; rw [if_pos ⟨h, h1⟩]
theorem rdO_n {T : Nat → Nat} {N lo k : Nat} {x : Nat × Nat × (Nat → Int)} (h1 : tk T N x.2.1 lo lo ≠ 0) : rdO T N lo k x = x := by unfold rdO; rw [if_neg (fun q => h1 q.2)]
theorem rdS_y {T : Nat → Nat} {N : Nat} {x : Nat × Nat × (Nat → Int)} (h : x.1 = 1) (h1 : sk T N x.2.1 < N) (h2 : T (sk T N x.2.1) = 59) : rdS T N x = (1, en T N x.2.1, x.2.2) := by unfold rdS; rw [if_pos h, if_pos ⟨h1, h2⟩]
theorem rdS_n {T : Nat → Nat} {N : Nat} {x : Nat × Nat × (Nat → Int)} (h : x.1 = 1) (h1 : ¬ (sk T N x.2.1 < N ∧ T (sk T N x.2.1) = 59)) : rdS T N x = (0, x.2.1, x.2.2) := by unfold rdS; rw [if_pos h, if_neg h1]
theorem rdS_0 {T : Nat → Nat} {N : Nat} {x : Nat × Nat × (Nat → Int)} (h : x.1 = 0) : rdS T N x = x := by unfold rdS; rw [if_neg (by omega)]
theorem rdQ_1 {T : Nat → Nat} {N : Nat} {x : Nat × Nat × (Nat → Int)} (h : x.1 = 1) : rdQ T N x = rdP T N (x.2.2 0) x := by unfold rdQ; rw [if_pos h]
theorem rdQ_0 {T : Nat → Nat} {N : Nat} {x : Nat × Nat × (Nat → Int)} (h : x.1 = 0) : rdQ T N x = x := by unfold rdQ; rw [if_neg (by omega)]
theorem rdI_y {T : Nat → Nat} {N : Nat} {v : Int} {x : Nat × Nat × (Nat → Int)} (h : x.1 = 1) (h1 : ¬ (v = 0 ∨ v = 8 ∨ v = 9)) (h2 : tk T N x.2.1 20 20 = 0) : rdI T N v x = rdT T N (1, en T N x.2.1, x.2.2) := by unfold rdI; rw [if_pos ⟨h, h1, h2⟩]
theorem rdI_n {T : Nat → Nat} {N : Nat} {v : Int} {x : Nat × Nat × (Nat → Int)} (h : x.1 = 0 ∨ (v = 0 ∨ v = 8 ∨ v = 9) ∨ tk T N x.2.1 20 20 ≠ 0) : rdI T N v x = x := by
  unfold rdI
  rw [if_neg (fun q => by rcases h with h | h | h; omega; exact q.2.1 h; exact h q.2.2)]
theorem rdG_C {T : Nat → Nat} {N lo hi k : Nat} {x : Nat × Nat × (Nat → Int)} (h : rdG N x) : rdG N (rdC T N lo hi k x) := by
  rcases h.1 with h1 | h1
  · rw [rdC_0 h1]; exact h
  · by_cases h2 : tk T N x.2.1 lo hi = -1
    · rw [rdC_n h1 h2]; exact ⟨Or.inl rfl, h.2⟩
    · rw [rdC_y h1 h2]; exact ⟨Or.inr rfl, (en_le h.2).2.1⟩
theorem rdG_N {T : Nat → Nat} {N : Nat} {x : Nat × Nat × (Nat → Int)} (h : rdG N x) : rdG N (rdN T N x) := by
  rcases h.1 with h1 | h1
  · rw [rdN_0 h1]; exact h
  · by_cases h2 : dgt T N x.2.1 = -1
    · rw [rdN_n h1 h2]; exact ⟨Or.inl rfl, h.2⟩
    · rw [rdN_y h1 h2]; exact ⟨Or.inr rfl, (en_le h.2).2.1⟩
theorem rdG_W {T : Nat → Nat} {N lo : Nat} {x : Nat × Nat × (Nat → Int)} (h : rdG N x) : rdG N (rdW T N lo x) := by
  rcases h.1 with h1 | h1
  · rw [rdW_0 h1]; exact h
  · by_cases h2 : tk T N x.2.1 lo lo = 0
    · rw [rdW_y h1 h2]; exact ⟨Or.inr rfl, (en_le h.2).2.1⟩
    · rw [rdW_n h1 h2]; exact ⟨Or.inl rfl, h.2⟩
theorem rdG_O {T : Nat → Nat} {N lo k : Nat} {x : Nat × Nat × (Nat → Int)} (h : rdG N x) : rdG N (rdO T N lo k x) := by
  by_cases h2 : x.1 = 1 ∧ tk T N x.2.1 lo lo = 0
  · rw [rdO_y h2.1 h2.2]; exact ⟨Or.inr rfl, (en_le h.2).2.1⟩
  · unfold rdO; rw [if_neg h2]; exact h
def XQ (T : Nat → Nat) (N : Nat) (M : Mem) (ru : Nat) (y : Nat × Nat × (Nat → Int)) (r : Int32) (M1 : Mem) : Prop := rdG N y ∧ r = zI ((y.1 : Nat) : Int) ∧ RS M1 T N y.2.1 ∧ isU M1 ru y.2.2 ∧ FrU M1 M ru
theorem XQ.mk0 {T : Nat → Nat} {N ru b : Nat} {M M1 : Mem} {P : Nat → Int} {y : Nat × Nat × (Nat → Int)} (e : y = (0, b, P)) (hR : RS M1 T N b) (hU : isU M1 ru P) (hF : FrU M1 M ru) : XQ T N M ru y (zI 0) M1 := by
  subst e
  exact ⟨⟨Or.inl rfl, hR.1⟩, rfl, hR, hU, hF⟩
theorem XQ.mk1 {T : Nat → Nat} {N ru b : Nat} {M M1 : Mem} {P : Nat → Int} {y : Nat × Nat × (Nat → Int)} (e : y = (1, b, P)) (hR : RS M1 T N b) (hU : isU M1 ru P) (hF : FrU M1 M ru) : XQ T N M ru y (zI 1) M1 := by
  subst e
  exact ⟨⟨Or.inr rfl, hR.1⟩, rfl, hR, hU, hF⟩
theorem XQ.of {T : Nat → Nat} {N ru : Nat} {M M1 : Mem} {y z : Nat × Nat × (Nat → Int)} (e : y = z) (hG : rdG N z) (hR : RS M1 T N z.2.1) (hU : isU M1 ru z.2.2) (hF : FrU M1 M ru) {v : Int} (hv : ((z.1 : Nat) : Int) = v) : XQ T N M ru y (zI v) M1 := by
  subst e
  exact ⟨hG, congrArg zI hv.symm, hR, hU, hF⟩
theorem eta1 {x : Nat × Nat × (Nat → Int)} (h : x.1 = 1) : x = (1, x.2.1, x.2.2) := by
  obtain ⟨a, b⟩ := x
  cases h
  rfl
theorem rdP_8 {T : Nat → Nat} {N : Nat} {v : Int} {x : Nat × Nat × (Nat → Int)} (h : v = 8) : rdP T N v x = rdC T N 17 18 4 (rdN T N x) := by unfold rdP; rw [if_pos h]
theorem rdP_0 {T : Nat → Nat} {N : Nat} {v : Int} {x : Nat × Nat × (Nat → Int)} (h : v = 0 ∨ v = 2 ∨ v = 4) : rdP T N v x = rdC T N 15 16 4 (rdK T N v x) := by unfold rdP; rw [if_neg (by omega), if_pos h]
theorem rdP_1 {T : Nat → Nat} {N : Nat} {v : Int} {x : Nat × Nat × (Nat → Int)} (h : v = 1) : rdP T N v x = rdN T N (rdC T N 15 16 4 (rdK T N v x)) := by unfold rdP; rw [if_neg (by omega), if_neg (by omega), if_pos h]
theorem rdP_3 {T : Nat → Nat} {N : Nat} {v : Int} {x : Nat × Nat × (Nat → Int)} (h : v = 3) : rdP T N v x = rdC T N 17 18 4 (rdK T N v x) := by unfold rdP; rw [if_neg (by omega), if_neg (by omega), if_neg (by omega), if_pos h]
theorem rdP_7 {T : Nat → Nat} {N : Nat} {v : Int} {x : Nat × Nat × (Nat → Int)} (h : v = 7) : rdP T N v x = rdC T N 11 13 3 (rdW T N 19 (rdK T N v x)) := by unfold rdP; rw [if_neg (by omega), if_neg (by omega), if_neg (by omega), if_neg (by omega), if_pos h]
theorem rdP_o {T : Nat → Nat} {N : Nat} {v : Int} {x : Nat × Nat × (Nat → Int)} (h : v ≠ 0 ∧ v ≠ 1 ∧ v ≠ 2 ∧ v ≠ 3 ∧ v ≠ 4 ∧ v ≠ 7 ∧ v ≠ 8) : rdP T N v x = rdK T N v x := by unfold rdP; rw [if_neg (by omega), if_neg (by omega), if_neg (by omega), if_neg (by omega), if_neg (by omega)]
theorem rdK_0 {T : Nat → Nat} {N : Nat} {v : Int} {x : Nat × Nat × (Nat → Int)} (h : v = 0) : rdK T N v x = x := by unfold rdK; rw [if_pos h]
theorem rdK_9 {T : Nat → Nat} {N : Nat} {v : Int} {x : Nat × Nat × (Nat → Int)} (h : v = 9) : rdK T N v x = rdC T N 11 13 2 x := by unfold rdK; rw [if_neg (by omega), if_pos h]
theorem rdK_o {T : Nat → Nat} {N : Nat} {v : Int} {x : Nat × Nat × (Nat → Int)} (h : v ≠ 0) (h1 : v ≠ 9) : rdK T N v x = rdC T N 11 14 2 x := by unfold rdK; rw [if_neg h, if_neg h1]
theorem rdP_f {T : Nat → Nat} {N : Nat} {v : Int} {x : Nat × Nat × (Nat → Int)} (h8 : v ≠ 8) (h : (rdK T N v x).1 = 0) : rdP T N v x = rdK T N v x := by
  unfold rdP
  rw [if_neg h8]
  by_cases h1 : v = 0 ∨ v = 2 ∨ v = 4
  · rw [if_pos h1, rdC_0 h]
  · rw [if_neg h1]
    by_cases h2 : v = 1
    · rw [if_pos h2, rdC_0 h, rdN_0 h]
    · rw [if_neg h2]
      by_cases h3 : v = 3
      · rw [if_pos h3, rdC_0 h]
      · rw [if_neg h3]
        by_cases h4 : v = 7
        · rw [if_pos h4, rdW_0 h, rdC_0 h]
        · rw [if_neg h4]
theorem rdT_y {T : Nat → Nat} {N : Nat} {x : Nat × Nat × (Nat → Int)} (h : (rdC T N 22 28 5 (rdO T N 21 6 x)).1 = 1) (h5 : 5 ≤ (rdC T N 22 28 5 (rdO T N 21 6 x)).2.2 5) : rdT T N x = rdC T N 11 14 7 (rdC T N 22 28 5 (rdO T N 21 6 x)) := by unfold rdT; rw [if_pos ⟨h, h5⟩]
theorem rdT_n {T : Nat → Nat} {N : Nat} {x : Nat × Nat × (Nat → Int)} (h : (rdC T N 22 28 5 (rdO T N 21 6 x)).1 = 0 ∨ (rdC T N 22 28 5 (rdO T N 21 6 x)).2.2 5 < 5) : rdT T N x = rdC T N 22 28 5 (rdO T N 21 6 x) := by unfold rdT; rw [if_neg (by omega)]
/-- the parts are small -/
def okX (P : Nat → Int) : Prop := ∀ k, k < 8 → -2 ≤ P k ∧ P k ≤ 29
theorem okX_0 : okX P0 := fun k _ => by unfold P0; by_cases h : k = 1 ∨ k = 6; (rw [if_pos h]; omega); (rw [if_neg h]; omega)
theorem okX_u {P : Nat → Int} {k : Nat} {x : Int} (h : okX P) (hx : -2 ≤ x ∧ x ≤ 29) : okX (updI P k x) := fun j hj => by
  unfold updI
  by_cases h1 : j = k
  · rw [if_pos h1]; exact hx
  · rw [if_neg h1]; exact h j hj
theorem okX_C {T : Nat → Nat} {N lo hi k : Nat} {x : Nat × Nat × (Nat → Int)} (h : okX x.2.2) : okX (rdC T N lo hi k x).2.2 := by
  unfold rdC
  by_cases h1 : x.1 = 1
  · rw [if_pos h1]
    by_cases h2 : tk T N x.2.1 lo hi = -1
    · rw [if_pos h2]; exact h
    · rw [if_neg h2]; exact okX_u h (by have := tk_rg T N x.2.1 lo hi; omega)
  · rw [if_neg h1]; exact h
theorem okX_N {T : Nat → Nat} {N : Nat} {x : Nat × Nat × (Nat → Int)} (h : okX x.2.2) : okX (rdN T N x).2.2 := by
  unfold rdN
  by_cases h1 : x.1 = 1
  · rw [if_pos h1]
    by_cases h2 : dgt T N x.2.1 = -1
    · rw [if_pos h2]; exact h
    · rw [if_neg h2]; exact okX_u h (by have := dgt_rg T N x.2.1; omega)
  · rw [if_neg h1]; exact h
theorem okX_W {T : Nat → Nat} {N lo : Nat} {x : Nat × Nat × (Nat → Int)} (h : okX x.2.2) : okX (rdW T N lo x).2.2 := by
  unfold rdW
  by_cases h1 : x.1 = 1
  · rw [if_pos h1]
    by_cases h2 : tk T N x.2.1 lo lo = 0
    · rw [if_pos h2]; exact h
    · rw [if_neg h2]; exact h
  · rw [if_neg h1]; exact h
theorem okX_O {T : Nat → Nat} {N lo k : Nat} {x : Nat × Nat × (Nat → Int)} (h : okX x.2.2) : okX (rdO T N lo k x).2.2 := by
  unfold rdO
  by_cases h1 : x.1 = 1 ∧ tk T N x.2.1 lo lo = 0
  · rw [if_pos h1]; exact okX_u h (by omega)
  · rw [if_neg h1]; exact h
theorem rdC_v {T : Nat → Nat} {N lo hi k : Nat} {x : Nat × Nat × (Nat → Int)} (g : (rdC T N lo hi k x).1 = 1) : 0 ≤ (rdC T N lo hi k x).2.2 k ∧ (rdC T N lo hi k x).2.2 k ≤ (hi : Int) - (lo : Int) := by
  by_cases h1 : x.1 = 1
  · by_cases h2 : tk T N x.2.1 lo hi = -1
    · rw [rdC_n h1 h2] at g; cases g
    · rw [rdC_y h1 h2]
      dsimp only
      rw [updI_t]
      have h3 := h2
      unfold tk at h3 ⊢
      by_cases h4 : jn T N x.2.1 = 0 ∧ lo ≤ sp T N x.2.1 ∧ sp T N x.2.1 ≤ hi
      · rw [if_pos h4]; omega
      · rw [if_neg h4] at h3; exact absurd rfl h3
  · unfold rdC at g
    rw [if_neg h1] at g
    exact absurd g h1
-- a rule as a whole, rules one behind the other
theorem rdR_0 {T : Nat → Nat} {N b : Nat} (g : (rdV T N b).1 = 0) : rdR T N b = rdV T N b := by
  unfold rdR
  rw [rdQ_0 g, rdI_n (Or.inl g), rdS_0 g]
theorem rdR_1 {T : Nat → Nat} {N b : Nat} (g : (rdV T N b).1 = 1) (h : (rdP T N ((rdV T N b).2.2 0) (rdV T N b)).1 = 0) : rdR T N b = rdP T N ((rdV T N b).2.2 0) (rdV T N b) := by
  unfold rdR
  rw [rdQ_1 g, rdI_n (Or.inl h), rdS_0 h]
theorem rdC_p {T : Nat → Nat} {N lo hi k j : Nat} {x : Nat × Nat × (Nat → Int)} (h : j ≠ k) : (rdC T N lo hi k x).2.2 j = x.2.2 j := by
  unfold rdC
  by_cases h1 : x.1 = 1
  · rw [if_pos h1]
    by_cases h2 : tk T N x.2.1 lo hi = -1
    · rw [if_pos h2]
    · rw [if_neg h2]; exact updI_o h
  · rw [if_neg h1]
theorem rdN_p {T : Nat → Nat} {N j : Nat} {x : Nat × Nat × (Nat → Int)} (h : j ≠ 3) : (rdN T N x).2.2 j = x.2.2 j := by
  unfold rdN
  by_cases h1 : x.1 = 1
  · rw [if_pos h1]
    by_cases h2 : dgt T N x.2.1 = -1
    · rw [if_pos h2]
    · rw [if_neg h2]; exact updI_o h
  · rw [if_neg h1]
theorem rdW_p {T : Nat → Nat} {N lo j : Nat} {x : Nat × Nat × (Nat → Int)} : (rdW T N lo x).2.2 j = x.2.2 j := by
  unfold rdW
  by_cases h1 : x.1 = 1
  · rw [if_pos h1]
    by_cases h2 : tk T N x.2.1 lo lo = 0
    · rw [if_pos h2]
    · rw [if_neg h2]
  · rw [if_neg h1]
theorem rdK_p {T : Nat → Nat} {N j : Nat} {v : Int} {x : Nat × Nat × (Nat → Int)} (h : j ≠ 2) : (rdK T N v x).2.2 j = x.2.2 j := by
  unfold rdK
  by_cases h1 : v = 0
  · rw [if_pos h1]
  · rw [if_neg h1]; exact rdC_p h
theorem rdP_p {T : Nat → Nat} {N j : Nat} {v : Int} {x : Nat × Nat × (Nat → Int)} (h : j < 2) : (rdP T N v x).2.2 j = x.2.2 j := by
  unfold rdP
  by_cases h0 : v = 8
  · rw [if_pos h0, rdC_p (by omega), rdN_p (by omega)]
  · rw [if_neg h0]
    by_cases h1 : v = 0 ∨ v = 2 ∨ v = 4
    · rw [if_pos h1, rdC_p (by omega), rdK_p (by omega)]
    · rw [if_neg h1]
      by_cases h2 : v = 1
      · rw [if_pos h2, rdN_p (by omega), rdC_p (by omega), rdK_p (by omega)]
      · rw [if_neg h2]
        by_cases h3 : v = 3
        · rw [if_pos h3, rdC_p (by omega), rdK_p (by omega)]
        · rw [if_neg h3]
          by_cases h4 : v = 7
          · rw [if_pos h4, rdC_p (by omega), rdW_p, rdK_p (by omega)]
          · rw [if_neg h4, rdK_p (by omega)]
theorem rdV_v {T : Nat → Nat} {N b : Nat} (g : (rdV T N b).1 = 1) : 0 ≤ (rdV T N b).2.2 0 ∧ (rdV T N b).2.2 0 ≤ 9 := by
  unfold rdV at *
  by_cases h1 : (rdO T N 0 1 (1, b, P0)).1 = 1
  · by_cases h2 : tk T N (rdO T N 0 1 (1, b, P0)).2.1 1 10 = -1
    · rw [rdC_n h1 h2] at g; cases g
    · rw [rdC_y h1 h2]
      dsimp only
      rw [updI_t]
      have h3 := h2
      unfold tk at h3 ⊢
      by_cases h4 : jn T N (rdO T N 0 1 (1, b, P0)).2.1 = 0 ∧ 1 ≤ sp T N (rdO T N 0 1 (1, b, P0)).2.1 ∧ sp T N (rdO T N 0 1 (1, b, P0)).2.1 ≤ 10
      · rw [if_pos h4]; omega
      · rw [if_neg h4] at h3; exact absurd rfl h3
  · unfold rdC at g
    rw [if_neg h1] at g
    exact absurd g h1
theorem rdG_K {T : Nat → Nat} {N : Nat} {v : Int} {x : Nat × Nat × (Nat → Int)} (h : rdG N x) : rdG N (rdK T N v x) := by
  unfold rdK
  by_cases h1 : v = 0
  · rw [if_pos h1]; exact h
  · rw [if_neg h1]; exact rdG_C h
theorem okX_K {T : Nat → Nat} {N : Nat} {v : Int} {x : Nat × Nat × (Nat → Int)} (h : okX x.2.2) : okX (rdK T N v x).2.2 := by
  unfold rdK
  by_cases h1 : v = 0
  · rw [if_pos h1]; exact h
  · rw [if_neg h1]; exact okX_C h
theorem okX_P {T : Nat → Nat} {N : Nat} {v : Int} {x : Nat × Nat × (Nat → Int)} (h : okX x.2.2) : okX (rdP T N v x).2.2 := by
  unfold rdP
  by_cases h0 : v = 8
  · rw [if_pos h0]; exact okX_C (okX_N h)
  · rw [if_neg h0]
    by_cases h1 : v = 0 ∨ v = 2 ∨ v = 4
    · rw [if_pos h1]; exact okX_C (okX_K h)
    · rw [if_neg h1]
      by_cases h2 : v = 1
      · rw [if_pos h2]; exact okX_N (okX_C (okX_K h))
      · rw [if_neg h2]
        by_cases h3 : v = 3
        · rw [if_pos h3]; exact okX_C (okX_K h)
        · rw [if_neg h3]
          by_cases h4 : v = 7
          · rw [if_pos h4]; exact okX_C (okX_W (okX_K h))
          · rw [if_neg h4]; exact okX_K h
theorem okX_V (T : Nat → Nat) (N b : Nat) : okX (rdV T N b).2.2 := okX_C (okX_O okX_0)
theorem rdR_I {T : Nat → Nat} {N b : Nat} {y z : Nat × Nat × (Nat → Int)} (g : (rdV T N b).1 = 1) (e : rdI T N ((rdV T N b).2.2 0) (rdP T N ((rdV T N b).2.2 0) (rdV T N b)) = y) (e1 : rdS T N y = z) : rdR T N b = z := by
  unfold rdR
  rw [rdQ_1 g, e, e1]
theorem rdR_2 {T : Nat → Nat} {N b : Nat} {y : Nat × Nat × (Nat → Int)} (g : (rdV T N b).1 = 1) (e : rdI T N ((rdV T N b).2.2 0) (rdP T N ((rdV T N b).2.2 0) (rdV T N b)) = y) (h : y.1 = 0) : rdR T N b = y := rdR_I g e (rdS_0 h)
/-- behind the first i rules -/
noncomputable def bI (T : Nat → Nat) (N : Nat) : Nat → Nat
  | 0 => 0
  | i + 1 => (rdR T N (bI T N i)).2.1
def okI (T : Nat → Nat) (N i : Nat) : Prop := ∀ j, j < i → sk T N (bI T N j) < N ∧ (rdR T N (bI T N j)).1 = 1
theorem okI_s {T : Nat → Nat} {N i : Nat} (h : okI T N i) (h1 : sk T N (bI T N i) < N) (h2 : (rdR T N (bI T N i)).1 = 1) : okI T N (i + 1) := fun j hj => by
  by_cases h3 : j = i
  · subst h3; exact ⟨h1, h2⟩
  · exact h j (by omega)
theorem okI_0 {T : Nat → Nat} {N : Nat} : okI T N 0 := fun j hj => absurd hj (Nat.not_lt_zero j)
/-- what reading rules ends in: how many, or where it goes wrong -/
def rlE (T : Nat → Nat) (N m : Nat) : Prop := m ≤ 8 ∧ okI T N m ∧ N ≤ sk T N (bI T N m)
def rlF (T : Nat → Nat) (N m : Nat) (z : Int) : Prop := m ≤ 8 ∧ okI T N m ∧ sk T N (bI T N m) < N ∧ ((m = 8 ∧ z = (sk T N (bI T N m) : Int)) ∨ (m < 8 ∧ (rdR T N (bI T N m)).1 = 0 ∧ z = (sk T N (rdR T N (bI T N m)).2.1 : Int)))
theorem rl_u {T : Nat → Nat} {N m1 m2 : Nat} (h1 : okI T N m1) (h2 : okI T N m2) (e1 : ¬ (m1 < m2)) (e2 : ¬ (m2 < m1)) : m1 = m2 := by omega
theorem rlE_u {T : Nat → Nat} {N m1 m2 : Nat} (h1 : rlE T N m1) (h2 : rlE T N m2) : m1 = m2 := by
  rcases Nat.lt_trichotomy m1 m2 with h | h | h
  · have := (h2.2.1 m1 h).1; have := h1.2.2; omega
  · exact h
  · have := (h1.2.1 m2 h).1; have := h2.2.2; omega
theorem rlEF {T : Nat → Nat} {N m1 m2 : Nat} {z : Int} (h1 : rlE T N m1) (h2 : rlF T N m2 z) : False := by
  rcases Nat.lt_trichotomy m1 m2 with h | h | h
  · have := (h2.2.1 m1 h).1; have := h1.2.2; omega
  · subst h; have := h1.2.2; have := h2.2.2.1; omega
  · have h3 := (h1.2.1 m2 h).2
    have h4 := h1.1
    rcases h2.2.2.2 with h5 | h5
    · omega
    · rw [h5.2.1] at h3; cases h3
theorem rlF_u {T : Nat → Nat} {N m1 m2 : Nat} {z1 z2 : Int} (h1 : rlF T N m1 z1) (h2 : rlF T N m2 z2) : z1 = z2 := by
  have hm : m1 = m2 := by
    rcases Nat.lt_trichotomy m1 m2 with h | h | h
    · have h3 := (h2.2.1 m1 h).2
      have h4 := h2.1
      rcases h1.2.2.2 with h5 | h5
      · omega
      · rw [h5.2.1] at h3; cases h3
    · exact h
    · have h3 := (h1.2.1 m2 h).2
      have h4 := h1.1
      rcases h2.2.2.2 with h5 | h5
      · omega
      · rw [h5.2.1] at h3; cases h3
  subst hm
  rcases h1.2.2.2 with h5 | h5
  · rcases h2.2.2.2 with h6 | h6
    · rw [h5.2, h6.2]
    · omega
  · rcases h2.2.2.2 with h6 | h6
    · omega
    · rw [h5.2.2, h6.2.2]
/-- the readers' cells and the rules that are read alone have changed -/
def FrT (M1 M : Mem) : Prop := (∀ a, (a < 4 ∨ 22 ≤ a) → M1.1 a = M.1 a) ∧ M1.2 = M.2
theorem FrT.rf {M : Mem} : FrT M M := ⟨fun _ _ => rfl, rfl⟩
theorem FrT.tr {M M1 M2 : Mem} (h : FrT M1 M) (h1 : FrT M2 M1) : FrT M2 M := ⟨fun a ha => (h1.1 a ha).trans (h.1 a ha), h1.2.trans h.2⟩
theorem FrT.q {M M1 : Mem} (h : FrQ M1 M) : FrT M1 M := ⟨fun a ha => h.1 a (by omega), h.2.2⟩
theorem FrT.u {M M1 : Mem} {ru : Nat} (h : FrU M1 M ru) (h1 : 6 ≤ ru ∧ ru ≤ 20) : FrT M1 M := ⟨fun a ha => h.1 a (by omega) (by omega), h.2.2⟩
theorem FrT.to {M M1 : Mem} {a k : Nat} {x : Int32} (h : FrT M1 M) (ha : 4 ≤ a ∧ a < 22) : FrT (st M1 a k x) M := ⟨fun b hb => (st_o (by omega)).trans (h.1 b hb), h.2⟩
theorem clear_U {M1 : Mem} {ru : Nat} (h : ∀ k, k < 8 → M1.1 (ru + 1) k = zI (-2)) : isU (st (st M1 (ru + 1) 1 (zI 0)) (ru + 1) 6 (zI 0)) ru P0 := by
  have h1 : isU M1 ru (fun _ => -2) := h
  have h2 := isU.to (k := 6) (x := 0) (isU.to (k := 1) (x := 0) h1)
  have e : updI (updI (fun _ => -2) 1 0) 6 0 = P0 := by
    funext k
    unfold updI P0
    by_cases h6 : k = 6
    · simp [h6]
    · by_cases h7 : k = 1
      · simp [h7]
      · simp [h6, h7]
  rwa [e] at h2
theorem bI_le {T : Nat → Nat} {N b : Nat} (h : rdG N (rdR T N b)) : (rdR T N b).2.1 ≤ N := h.2
def isD (M : Mem) (T : Nat → Nat) (N m : Nat) : Prop := ∀ j, j < m → isU M (6 + 2 * j) (rdR T N (bI T N j)).2.2
theorem isD_0 {M : Mem} {T : Nat → Nat} {N : Nat} : isD M T N 0 := fun j hj => absurd hj (Nat.not_lt_zero j)
theorem isD_s {M M1 : Mem} {T : Nat → Nat} {N i : Nat} (h : isD M T N i) (hf : FrU M1 M (6 + 2 * i)) (hu : isU M1 (6 + 2 * i) (rdR T N (bI T N i)).2.2) : isD M1 T N (i + 1) := fun j hj => by
  by_cases h1 : j = i
  · subst h1; exact hu
  · exact isU.fr (h j (by omega)) (hf.1 _ (by omega) (by omega))
theorem isD_fr {M M1 : Mem} {T : Nat → Nat} {N i : Nat} (h : isD M T N i) (hi : i ≤ 8) (hf : ∀ a, 6 ≤ a → a < 22 → M1.1 a = M.1 a) : isD M1 T N i := fun j hj => isU.fr (h j hj) (hf _ (by omega) (by omega))
/-- the rules as they are kept -/
def isK (M : Mem) (Ps : Nat → Nat → Int) (m : Nat) : Prop := M.1 22 2 = zI (m : Int) ∧ ∀ j, j < m → isU M (28 + 2 * j) (Ps j)
def FrK (M1 M : Mem) : Prop := (∀ a, a ≠ 22 → (a < 28 ∨ 44 ≤ a) → M1.1 a = M.1 a) ∧ M1.2 = M.2
theorem FrK.rf {M : Mem} : FrK M M := ⟨fun _ _ _ => rfl, rfl⟩
theorem RS.fr2 {M : Mem} {T : Nat → Nat} {N b : Nat} {x : Int32} (h : RS M T N b) : RS (st M 4 2 x) T N b := ⟨h.1, (st_k (by decide)).trans h.2.1, (st_k (by decide)).trans h.2.2.1, (st_k (by decide)).trans h.2.2.2⟩
def cpX (M : Mem) (ru rb : Nat) : Mem := sA M (ru + 1) (va_cpy (M.1 (rb + 1)) (M.1 (ru + 1)) (zI 0).toNatClampNeg (zI 0).toNatClampNeg (zI 8).toNatClampNeg)
theorem cpU {M : Mem} {ru rb : Nat} {P : Nat → Int} (h : isU M rb P) : isU (cpX M ru rb) ru P ∧ (∀ a, a ≠ ru + 1 → (cpX M ru rb).1 a = M.1 a) ∧ (cpX M ru rb).2 = M.2 := by
  have c0 : (zI 0).toNatClampNeg = 0 := by decide
  have c1 : (zI 8).toNatClampNeg = 8 := by decide
  unfold cpX
  rw [c0, c1]
  refine ⟨fun k hk => ?_, fun a ha => by simp [sA, ha], rfl⟩
  have := h k hk
  simp [sA, va_cpy, hk, this]
theorem min_z {x y : Int} (hx : rg x) (hy : rg y) (h : x ≤ y) : (if zI y < zI x then zI y else zI x) = zI x := if_neg (fun q => by have := (zI_lt hy hx).mp q; omega)
def FrO (M1 M : Mem) : Prop := (∀ a, a ≠ 22 → a ≠ 109 → a ≠ 135 → M1.1 a = M.1 a) ∧ (∀ k, k ≠ 7 → M1.1 22 k = M.1 22 k) ∧ M1.2 = M.2
/-- what rules ends in, on both sides -/
def rlQ (T : Nat → Nat) (N : Nat) (z : Int) : Prop := (∃ m9 : Nat, rlE T N m9 ∧ z = (m9 : Int)) ∨ (∃ (m9 : Nat) (z9 : Int), rlF T N m9 z9 ∧ z = -4 - z9)
theorem rlQ_u {T : Nat → Nat} {N : Nat} {x y : Int} (h1 : rlQ T N x) (h2 : rlQ T N y) : x = y := by
  rcases h1 with ⟨m1, a1, e1⟩ | ⟨m1, z1, a1, e1⟩ <;> rcases h2 with ⟨m2, a2, e2⟩ | ⟨m2, z2, a2, e2⟩
  · have := rlE_u a1 a2; omega
  · exact (rlEF a1 a2).elim
  · exact (rlEF a2 a1).elim
  · have := rlF_u a1 a2; omega
theorem rdS_g {T : Nat → Nat} {N : Nat} {x : Nat × Nat × (Nat → Int)} (h : rdG N x) : rdG N (rdS T N x) := by
  rcases h.1 with h1 | h1
  · rw [rdS_0 h1]; exact h
  · by_cases h2 : sk T N x.2.1 < N ∧ T (sk T N x.2.1) = 59
    · rw [rdS_y h1 h2.1 h2.2]; exact ⟨Or.inr rfl, (en_le h.2).2.1⟩
    · rw [rdS_n h1 h2]; exact ⟨Or.inl rfl, h.2⟩
theorem rdG_P {T : Nat → Nat} {N : Nat} {v : Int} {x : Nat × Nat × (Nat → Int)} (h : rdG N x) : rdG N (rdP T N v x) := by
  unfold rdP
  by_cases h0 : v = 8
  · rw [if_pos h0]; exact rdG_C (rdG_N h)
  · rw [if_neg h0]
    by_cases h1 : v = 0 ∨ v = 2 ∨ v = 4
    · rw [if_pos h1]; exact rdG_C (rdG_K h)
    · rw [if_neg h1]
      by_cases h2 : v = 1
      · rw [if_pos h2]; exact rdG_N (rdG_C (rdG_K h))
      · rw [if_neg h2]
        by_cases h3 : v = 3
        · rw [if_pos h3]; exact rdG_C (rdG_K h)
        · rw [if_neg h3]
          by_cases h4 : v = 7
          · rw [if_pos h4]; exact rdG_C (rdG_W (rdG_K h))
          · rw [if_neg h4]; exact rdG_K h
theorem rdG_T {T : Nat → Nat} {N : Nat} {x : Nat × Nat × (Nat → Int)} (h : rdG N x) : rdG N (rdT T N x) := by
  have h1 := rdG_C (T := T) (lo := 22) (hi := 28) (k := 5) (rdG_O (T := T) (lo := 21) (k := 6) h)
  unfold rdT
  by_cases h2 : (rdC T N 22 28 5 (rdO T N 21 6 x)).1 = 1 ∧ 5 ≤ (rdC T N 22 28 5 (rdO T N 21 6 x)).2.2 5
  · rw [if_pos h2]; exact rdG_C h1
  · rw [if_neg h2]; exact h1
theorem rdR_g {T : Nat → Nat} {N b : Nat} (hb : b ≤ N) : rdG N (rdR T N b) := by
  have h0 : rdG N (rdV T N b) := rdG_C (rdG_O ⟨Or.inr rfl, hb⟩)
  have h1 : rdG N (rdQ T N (rdV T N b)) := by
    unfold rdQ
    by_cases h : (rdV T N b).1 = 1
    · rw [if_pos h]; exact rdG_P h0
    · rw [if_neg h]; exact h0
  unfold rdR
  refine rdS_g ?_
  unfold rdI
  by_cases h : (rdQ T N (rdV T N b)).1 = 1 ∧ ¬ ((rdV T N b).2.2 0 = 0 ∨ (rdV T N b).2.2 0 = 8 ∨ (rdV T N b).2.2 0 = 9) ∧ tk T N (rdQ T N (rdV T N b)).2.1 20 20 = 0
  · rw [if_pos h]; exact rdG_T ⟨Or.inr rfl, (en_le h1.2).2.1⟩
  · rw [if_neg h]; exact h1
theorem bI_N {T : Nat → Nat} {N : Nat} : ∀ i, bI T N i ≤ N
  | 0 => Nat.zero_le _
  | i + 1 => (rdR_g (bI_N i)).2
theorem rlF_rg {T : Nat → Nat} {N : Nat} (hN : N ≤ 300) {m9 : Nat} {z9 : Int} (h : rlF T N m9 z9) : 0 ≤ z9 ∧ z9 ≤ 300 := by
  have h1 := sk_le (T := T) (bI_N (T := T) (N := N) m9)
  have h2 := sk_le (T := T) (bI_N (T := T) (N := N) (m9 + 1))
  rw [bI] at h2
  rcases h.2.2.2 with h5 | h5
  · omega
  · omega
-- the reference's reader
noncomputable def tok (T : Nat → Nat) (N b : Nat) : Nat := if sk T N b < N then (if (97 ≤ T (sk T N b) ∧ T (sk T N b) ≤ 122) then (if jn T N b = 1 then 4 else 1) else if (48 ≤ T (sk T N b) ∧ T (sk T N b) ≤ 57) then (if jn T N b = 1 then 4 else 2) else if T (sk T N b) = 59 then 3 else 4) else 0
theorem tok_e {T : Nat → Nat} {N b : Nat} (h : N ≤ sk T N b) : tok T N b = 0 := by unfold tok; rw [if_neg (by omega)]
theorem tok_l {T : Nat → Nat} {N b : Nat} (h : sk T N b < N) (h1 : 97 ≤ T (sk T N b) ∧ T (sk T N b) ≤ 122) : (jn T N b = 1 ∧ tok T N b = 4) ∨ (jn T N b = 0 ∧ tok T N b = 1) := by
  unfold tok
  rw [if_pos h, if_pos h1]
  rcases jn_01 T N b with h2 | h2
  · exact Or.inr ⟨h2, by rw [if_neg (by omega)]⟩
  · exact Or.inl ⟨h2, by rw [if_pos h2]⟩
theorem tok_d {T : Nat → Nat} {N b : Nat} (h : sk T N b < N) (h1 : 48 ≤ T (sk T N b) ∧ T (sk T N b) ≤ 57) : (jn T N b = 1 ∧ tok T N b = 4) ∨ (jn T N b = 0 ∧ tok T N b = 2) := by
  unfold tok
  rw [if_pos h, if_neg (by omega), if_pos h1]
  rcases jn_01 T N b with h2 | h2
  · exact Or.inr ⟨h2, by rw [if_neg (by omega)]⟩
  · exact Or.inl ⟨h2, by rw [if_pos h2]⟩
theorem tok_c {T : Nat → Nat} {N b : Nat} (h : sk T N b < N) (h1 : T (sk T N b) = 59) : tok T N b = 3 := by unfold tok; rw [if_pos h, if_neg (by omega), if_neg (by omega), if_pos h1]
theorem tok_o {T : Nat → Nat} {N b : Nat} (h : sk T N b < N) (h1 : ¬ (97 ≤ T (sk T N b) ∧ T (sk T N b) ≤ 122)) (h2 : ¬ (48 ≤ T (sk T N b) ∧ T (sk T N b) ≤ 57)) (h3 : T (sk T N b) ≠ 59) : tok T N b = 4 := by unfold tok; rw [if_pos h, if_neg h1, if_neg h2, if_neg h3]
theorem tok_all {T : Nat → Nat} {N b : Nat} : (N ≤ sk T N b ∧ tok T N b = 0) ∨ (sk T N b < N ∧ (97 ≤ T (sk T N b) ∧ T (sk T N b) ≤ 122) ∧ ((jn T N b = 1 ∧ tok T N b = 4) ∨ (jn T N b = 0 ∧ tok T N b = 1))) ∨ (sk T N b < N ∧ (48 ≤ T (sk T N b) ∧ T (sk T N b) ≤ 57) ∧ ((jn T N b = 1 ∧ tok T N b = 4) ∨ (jn T N b = 0 ∧ tok T N b = 2))) ∨ (sk T N b < N ∧ T (sk T N b) = 59 ∧ tok T N b = 3) ∨ (sk T N b < N ∧ ¬ (97 ≤ T (sk T N b) ∧ T (sk T N b) ≤ 122) ∧ ¬ (48 ≤ T (sk T N b) ∧ T (sk T N b) ≤ 57) ∧ T (sk T N b) ≠ 59 ∧ tok T N b = 4) := by
  by_cases h : sk T N b < N
  · by_cases h1 : 97 ≤ T (sk T N b) ∧ T (sk T N b) ≤ 122
    · exact Or.inr (Or.inl ⟨h, h1, tok_l h h1⟩)
    · by_cases h2 : 48 ≤ T (sk T N b) ∧ T (sk T N b) ≤ 57
      · exact Or.inr (Or.inr (Or.inl ⟨h, h2, tok_d h h2⟩))
      · by_cases h3 : T (sk T N b) = 59
        · exact Or.inr (Or.inr (Or.inr (Or.inl ⟨h, h3, tok_c h h3⟩)))
        · exact Or.inr (Or.inr (Or.inr (Or.inr ⟨h, h1, h2, h3, tok_o h h1 h2 h3⟩)))
  · exact Or.inl ⟨by omega, tok_e (by omega)⟩
/-- a piece that may be passed ends in a sign that wants a blank just if it is a word or a digit -/
theorem tok_w {T : Nat → Nat} {N b : Nat} (hb : b ≤ N) (h : tok T N b = 1 ∨ tok T N b = 2 ∨ tok T N b = 3) : (tok T N b = 1 ∨ tok T N b = 2) ↔ (0 < en T N b ∧ nbl (T (en T N b - 1))) := by
  have he := en_le (T := T) hb
  rcases tok_all (T := T) (N := N) (b := b) with h1 | h1 | h1 | h1 | h1
  · omega
  · have h2 := en_l h1.1 h1.2.1.1 h1.2.1.2
    have h3 := lx_le (T := T) (i := sk T N b) (N := N) (by omega)
    have h4 := h3.2.2 (en T N b - 1) (by omega) (by omega)
    constructor
    · intro _; exact ⟨by omega, Or.inl h4⟩
    · intro _; omega
  · have h2 := en_o h1.1 (by omega)
    have h4 : T (en T N b - 1) = T (sk T N b) := by rw [h2]; rfl
    constructor
    · intro _; exact ⟨by omega, Or.inr (by omega)⟩
    · intro _; omega
  · have h2 := en_o h1.1 (by omega)
    have h4 : T (en T N b - 1) = T (sk T N b) := by rw [h2]; rfl
    constructor
    · intro _; omega
    · intro q; unfold nbl at q; omega
  · omega
/-- a choice is there just if the piece is a word that stands right -/
theorem tk_y {T : Nat → Nat} {N b lo hi : Nat} (hb : b ≤ N) (hh : hi < 29) : (tok T N b = 1 ∧ lo ≤ sp T N b ∧ sp T N b ≤ hi ∧ tk T N b lo hi = (sp T N b : Int) - (lo : Int)) ∨ (¬ (tok T N b = 1 ∧ lo ≤ sp T N b ∧ sp T N b ≤ hi) ∧ tk T N b lo hi = -1) := by
  unfold tk
  by_cases h : jn T N b = 0 ∧ lo ≤ sp T N b ∧ sp T N b ≤ hi
  · rw [if_pos h]
    have h1 := sp_l hb (show sp T N b < 29 by omega)
    have h2 := tok_l h1.1 h1.2
    exact Or.inl ⟨by omega, h.2.1, h.2.2, rfl⟩
  · rw [if_neg h]
    refine Or.inr ⟨fun q => h ⟨?_, q.2⟩, rfl⟩
    have h1 := sp_l hb (show sp T N b < 29 by omega)
    have h2 := tok_l h1.1 h1.2
    omega
theorem dgt_y {T : Nat → Nat} {N b : Nat} : (tok T N b = 2 ∧ T (sk T N b) ≠ 48 ∧ dgt T N b = (T (sk T N b) : Int) - 48 ∧ 48 ≤ T (sk T N b) ∧ T (sk T N b) ≤ 57) ∨ (¬ (tok T N b = 2 ∧ T (sk T N b) ≠ 48) ∧ dgt T N b = -1) := by
  have ha := tok_all (T := T) (N := N) (b := b)
  unfold dgt
  by_cases h : jn T N b = 0 ∧ sk T N b < N ∧ 49 ≤ T (sk T N b) ∧ T (sk T N b) ≤ 57
  · rw [if_pos h]
    exact Or.inl ⟨by omega, by omega, rfl, by omega, by omega⟩
  · rw [if_neg h]
    exact Or.inr ⟨by omega, rfl⟩
def FrG (M1 M : Mem) : Prop := (∀ a, a ≠ 146 → M1.1 a = M.1 a) ∧ (∀ k, k ≠ 9 → k ≠ 11 → k ≠ 13 → k ≠ 14 → k ≠ 15 → M1.1 146 k = M.1 146 k) ∧ M1.2 = M.2
theorem FrG.rf {M : Mem} : FrG M M := ⟨fun _ _ => rfl, fun _ _ _ _ _ _ => rfl, rfl⟩
theorem FrG.tr {M M1 M2 : Mem} (h : FrG M1 M) (h1 : FrG M2 M1) : FrG M2 M := ⟨fun a ha => (h1.1 a ha).trans (h.1 a ha), fun k a b c d e => (h1.2.1 k a b c d e).trans (h.2.1 k a b c d e), h1.2.2.trans h.2.2⟩
theorem FrG.to {M M1 : Mem} {k : Nat} {x : Int32} (h : FrG M1 M) (hk : k = 9 ∨ k = 11 ∨ k = 13 ∨ k = 14 ∨ k = 15) : FrG (st M1 146 k x) M := ⟨fun a ha => (st_o ha).trans (h.1 a ha), fun j a b c d e => (st_k (by omega)).trans (h.2.1 j a b c d e), h.2.2⟩
theorem isTr.g {M M1 : Mem} {T : Nat → Nat} {N : Nat} (h : isTr M T N) (hf : FrG M1 M) : isTr M1 T N := ⟨(hf.2.1 8 (by decide) (by decide) (by decide) (by decide) (by decide)).trans h.1, fun i hi => by rw [hf.1 150 (by decide)]; exact h.2 i hi⟩
def Fr9 (M1 M : Mem) : Prop := (∀ a, a ≠ 146 → M1.1 a = M.1 a) ∧ (∀ k, k ≠ 9 → M1.1 146 k = M.1 146 k) ∧ M1.2 = M.2
theorem Fr9.rf {M : Mem} : Fr9 M M := ⟨fun _ _ => rfl, fun _ _ => rfl, rfl⟩
theorem Fr9.to {M M1 : Mem} {x : Int32} (h : Fr9 M1 M) : Fr9 (st M1 146 9 x) M := ⟨fun a ha => (st_o ha).trans (h.1 a ha), fun j a => (st_k a).trans (h.2.1 j a), h.2.2⟩
theorem Fr9.g {M M1 : Mem} (h : Fr9 M1 M) : FrG M1 M := ⟨h.1, fun k a _ _ _ _ => h.2.1 k a, h.2.2⟩
theorem isTr.n9 {M M1 : Mem} {T : Nat → Nat} {N : Nat} (h : isTr M T N) (hf : Fr9 M1 M) : isTr M1 T N := h.g hf.g
def RSr (M : Mem) (T : Nat → Nat) (N b : Nat) : Prop := b ≤ N ∧ M.1 146 14 = zI ((sk T N b : Nat) : Int) ∧ M.1 146 9 = zI ((en T N b : Nat) : Int) ∧ M.1 146 13 = zI ((tok T N b : Nat) : Int) ∧ M.1 146 15 = zI ((sp T N b : Nat) : Int) ∧ (tok T N b = 2 → M.1 146 11 = zI ((T (sk T N b) : Int) - 48))
theorem RSr.fr {M M1 : Mem} {T : Nat → Nat} {N b : Nat} (h : RSr M T N b) (hf : ∀ k, k = 9 ∨ k = 11 ∨ k = 13 ∨ k = 14 ∨ k = 15 → M1.1 146 k = M.1 146 k) : RSr M1 T N b := ⟨h.1, (hf 14 (by decide)).trans h.2.1, (hf 9 (by decide)).trans h.2.2.1, (hf 13 (by decide)).trans h.2.2.2.1, (hf 15 (by decide)).trans h.2.2.2.2.1, fun q => (hf 11 (by decide)).trans (h.2.2.2.2.2 q)⟩
-- the search among all words
def WB : List Nat := flw 0 WDS
def isWd (M : Mem) : Prop := ∀ k, k < 147 → M.1 152 k = zI ((WB.getD k 0 : Nat) : Int)
theorem WB_len : WB.length = 147 := by decide +kernel
theorem WB_b : ∀ k, k < 147 → WB.getD k 0 < 123 := by decide +kernel
theorem WDS_len : WDS.length = 29 := by decide +kernel
theorem WDS_0 : ∀ w ∈ WDS, ∀ x ∈ w, x ≠ 0 := by decide +kernel
theorem WB_d {k : Nat} (h : k < 147) : WB.drop k = WB.getD k 0 :: WB.drop (k + 1) := by
  rw [List.drop_eq_getElem_cons (by rw [WB_len]; exact h), List.getD_eq_getElem?_getD, List.getElem?_eq_getElem (by rw [WB_len]; exact h)]
  rfl
def wrem (k n : Nat) : Prop := ∃ u : List Nat, WB.drop k = u ++ 0 :: flw 0 (WDS.drop (n + 1)) ∧ ∀ x ∈ u, x ≠ 0
theorem wrem_0 {k n : Nat} (h : WB.drop k = flw 0 (WDS.drop n)) (hn : n < 29) : wrem k n := by
  refine ⟨WDS[n]'(by rw [WDS_len]; exact hn), ?_, fun x hx => WDS_0 _ (List.getElem_mem _) x hx⟩
  rw [h, List.drop_eq_getElem_cons (by rw [WDS_len]; exact hn)]
  unfold flw
  rw [List.flatMap_cons, List.append_assoc]
  rfl
theorem wrem_k {k n : Nat} (h : wrem k n) : k < 147 := by
  obtain ⟨u, h1, _⟩ := h
  by_cases h2 : k < 147
  · exact h2
  · rw [List.drop_eq_nil_of_le (by rw [WB_len]; omega)] at h1
    have := congrArg List.length h1
    rw [List.length_append, List.length_cons, List.length_nil] at this
    omega
theorem wrem_z {k n : Nat} (h : wrem k n) (h0 : WB.getD k 0 = 0) : WB.drop (k + 1) = flw 0 (WDS.drop (n + 1)) := by
  have hk := wrem_k h
  obtain ⟨u, h1, h2⟩ := h
  rw [WB_d hk] at h1
  cases u with
  | nil => exact (List.cons.inj h1).2
  | cons x u => exact absurd (by rw [← (List.cons.inj h1).1]; exact h0) (h2 x List.mem_cons_self)
theorem wrem_n {k n : Nat} (h : wrem k n) (h0 : WB.getD k 0 ≠ 0) : wrem (k + 1) n := by
  have hk := wrem_k h
  obtain ⟨u, h1, h2⟩ := h
  rw [WB_d hk] at h1
  cases u with
  | nil => exact absurd (List.cons.inj h1).1 h0
  | cons x u => exact ⟨u, (List.cons.inj h1).2, fun y hy => h2 y (List.mem_cons_of_mem _ hy)⟩
def swI (T : Nat → Nat) (s9 e9 k n a z : Nat) : Prop := mtL T s9 e9 1 0 (WB.drop k) n a z = mtL T s9 e9 1 0 WB 0 s9 1
theorem sw_f {T : Nat → Nat} {s9 e9 : Nat} (h : s9 ≤ e9) : mtL T s9 e9 1 0 WB 0 s9 1 = if pl T s9 e9 ∈ WDS then some (WDS.idxOf (pl T s9 e9)) else none := by
  have h1 := mtL_f (T := T) (k0 := 1) (sep := 0) h WDS 0 WDS_0
  unfold WB
  rw [h1]
  by_cases h2 : pl T s9 e9 ∈ WDS
  · rw [if_pos ⟨rfl, h2⟩, if_pos h2, Nat.zero_add]
  · rw [if_neg (fun q => h2 q.2), if_neg h2]
theorem sw_s {T : Nat → Nat} {s9 e9 n : Nat} (h : s9 ≤ e9) (hs : mtL T s9 e9 1 0 WB 0 s9 1 = some n) : n = WDS.idxOf (pl T s9 e9) := by
  rw [sw_f h] at hs
  by_cases h2 : pl T s9 e9 ∈ WDS
  · rw [if_pos h2] at hs; exact (Option.some.inj hs).symm
  · rw [if_neg h2] at hs; cases hs
theorem sw_n {T : Nat → Nat} {s9 e9 : Nat} (h : s9 ≤ e9) (hs : mtL T s9 e9 1 0 WB 0 s9 1 = none) : 29 = WDS.idxOf (pl T s9 e9) := by
  rw [sw_f h] at hs
  by_cases h2 : pl T s9 e9 ∈ WDS
  · rw [if_pos h2] at hs; cases hs
  · rw [List.idxOf_eq_length h2]; exact WDS_len.symm
theorem swI_z {T : Nat → Nat} {s9 e9 k n a z : Nat} (h : swI T s9 e9 k n a z) (hk : k < 147) (h0 : WB.getD k 0 = 0) (hn : ¬ (z = 1 ∧ a = e9)) : swI T s9 e9 (k + 1) (n + 1) s9 1 := by
  unfold swI at *
  rw [WB_d hk] at h
  exact mt_c0 h h0 hn
theorem swI_f {T : Nat → Nat} {s9 e9 k n a z : Nat} (h : swI T s9 e9 k n a z) (hk : k < 147) (h0 : WB.getD k 0 = 0) (h1 : z = 1) (h2 : a = e9) : mtL T s9 e9 1 0 WB 0 s9 1 = some n := by
  unfold swI at h
  rw [WB_d hk] at h
  exact mt_c1 h h0 ⟨h1, h2⟩
theorem swI_y {T : Nat → Nat} {s9 e9 k n a z : Nat} (h : swI T s9 e9 k n a z) (hk : k < 147) (h0 : WB.getD k 0 ≠ 0) (h1 : z = 1) (h2 : a < e9) (h3 : T a = WB.getD k 0) : swI T s9 e9 (k + 1) n (a + 1) 1 := by
  unfold swI at *
  rw [WB_d hk] at h
  exact mt_y h h0 ⟨h1, h2, h3⟩
theorem swI_n {T : Nat → Nat} {s9 e9 k n a z : Nat} (h : swI T s9 e9 k n a z) (hk : k < 147) (h0 : WB.getD k 0 ≠ 0) (h1 : ¬ (z = 1 ∧ a < e9 ∧ T a = WB.getD k 0)) : swI T s9 e9 (k + 1) n (a + 1) 0 := by
  unfold swI at *
  rw [WB_d hk] at h
  exact mt_n h h0 h1
theorem swI_e {T : Nat → Nat} {s9 e9 k n a z : Nat} (h : swI T s9 e9 k n a z) (hd : WB.drop k = flw 0 (WDS.drop n)) (hn : 29 ≤ n) : mtL T s9 e9 1 0 WB 0 s9 1 = none := by
  unfold swI at h
  rw [hd, List.drop_eq_nil_of_le (by rw [WDS_len]; exact hn)] at h
  exact h.symm
theorem nbl_i {T : Nat → Nat} {k : Nat} (h : (97 ≤ T k ∧ T k ≤ 122) ∨ (48 ≤ T k ∧ T k ≤ 57)) : nbl (T k) := h
theorem jn_of {T : Nat → Nat} {N b : Nat} : jn T N b = 1 ↔ (sk T N b = b ∧ (0 < b ∧ nbl (T (b - 1))) ∧ b < N ∧ nbl (T b)) := by
  constructor
  · intro h
    by_cases h1 : jnP T N b
    · exact ⟨h1.1, ⟨h1.2.1, h1.2.2.1⟩, h1.2.2.2⟩
    · rw [jn_0 h1] at h; cases h
  · intro h
    exact jn_1 ⟨h.1, h.2.1.1, h.2.1.2, h.2.2⟩
/-- the piece's kind, its word: all that goesOn writes -/
theorem go_e {T : Nat → Nat} {N b : Nat} (hb : b ≤ N) (h : N ≤ sk T N b) : tok T N b = 0 ∧ sp T N b = 29 ∧ en T N b = sk T N b := ⟨tok_e h, sp_o hb (fun q => by have := q.1; omega), en_e (by omega)⟩
theorem go_l {T : Nat → Nat} {N b gl : Nat} (hb : b ≤ N) (h : sk T N b < N) (h1 : 97 ≤ T (sk T N b) ∧ T (sk T N b) ≤ 122) (hg : gl = 1 ↔ (sk T N b = b ∧ (0 < b ∧ nbl (T (b - 1))))) (h01 : gl = 0 ∨ gl = 1) : tok T N b = (if gl = 1 then 4 else 1) ∧ en T N b = lx T N (sk T N b) := by
  refine ⟨?_, en_l h h1.1 h1.2⟩
  have hj := jn_of (T := T) (N := N) (b := b)
  have h2 := tok_l h h1
  by_cases h3 : gl = 1
  · rw [if_pos h3]
    have h4 := hg.mp h3
    have h5 : jn T N b = 1 := hj.mpr ⟨h4.1, h4.2, by omega, by have := h4.1; rw [this] at h1; exact Or.inl h1⟩
    omega
  · rw [if_neg h3]
    have h5 : jn T N b ≠ 1 := fun q => h3 (hg.mpr ⟨(hj.mp q).1, (hj.mp q).2.1⟩)
    omega
theorem go_d {T : Nat → Nat} {N b gl : Nat} (hb : b ≤ N) (h : sk T N b < N) (h1 : 48 ≤ T (sk T N b) ∧ T (sk T N b) ≤ 57) (hg : gl = 1 ↔ (sk T N b = b ∧ (0 < b ∧ nbl (T (b - 1))))) (h01 : gl = 0 ∨ gl = 1) : tok T N b = (if gl = 1 then 4 else 2) ∧ en T N b = sk T N b + 1 ∧ sp T N b = 29 := by
  refine ⟨?_, en_o h (by omega), sp_o hb (fun q => by have := q.2; omega)⟩
  have hj := jn_of (T := T) (N := N) (b := b)
  have h2 := tok_d h h1
  by_cases h3 : gl = 1
  · rw [if_pos h3]
    have h4 := hg.mp h3
    have h5 : jn T N b = 1 := hj.mpr ⟨h4.1, h4.2, by omega, by have := h4.1; rw [this] at h1; exact Or.inr h1⟩
    omega
  · rw [if_neg h3]
    have h5 : jn T N b ≠ 1 := fun q => h3 (hg.mpr ⟨(hj.mp q).1, (hj.mp q).2.1⟩)
    omega
theorem go_o {T : Nat → Nat} {N b : Nat} (hb : b ≤ N) (h : sk T N b < N) (h1 : ¬ (97 ≤ T (sk T N b) ∧ T (sk T N b) ≤ 122)) (h2 : ¬ (48 ≤ T (sk T N b) ∧ T (sk T N b) ≤ 57)) : tok T N b = (if T (sk T N b) = 59 then 3 else 4) ∧ en T N b = sk T N b + 1 ∧ sp T N b = 29 := by
  refine ⟨?_, en_o h h1, sp_o hb (fun q => h1 q.2)⟩
  by_cases h3 : T (sk T N b) = 59
  · rw [if_pos h3]; exact tok_c h h3
  · rw [if_neg h3]; exact tok_o h h1 h2 h3
def FrW (M1 M : Mem) : Prop := (∀ a, a ≠ 146 → M1.1 a = M.1 a) ∧ (∀ k, k ≠ 9 → k ≠ 11 → k ≠ 13 → k ≠ 14 → k ≠ 15 → k ≠ 16 → M1.1 146 k = M.1 146 k) ∧ M1.2 = M.2
theorem FrW.rf {M : Mem} : FrW M M := ⟨fun _ _ => rfl, fun _ _ _ _ _ _ _ => rfl, rfl⟩
theorem FrW.tr {M M1 M2 : Mem} (h : FrW M1 M) (h1 : FrW M2 M1) : FrW M2 M := ⟨fun a ha => (h1.1 a ha).trans (h.1 a ha), fun k a b c d e g => (h1.2.1 k a b c d e g).trans (h.2.1 k a b c d e g), h1.2.2.trans h.2.2⟩
theorem FrW.g {M M1 : Mem} (h : FrG M1 M) : FrW M1 M := ⟨h.1, fun k a b c d e _ => h.2.1 k a b c d e, h.2.2⟩
theorem FrW.to {M M1 : Mem} {x : Int32} (h : FrW M1 M) : FrW (st M1 146 16 x) M := ⟨fun a ha => (st_o ha).trans (h.1 a ha), fun j a b c d e g => (st_k g).trans (h.2.1 j a b c d e g), h.2.2⟩
theorem isTr.w {M M1 : Mem} {T : Nat → Nat} {N : Nat} (h : isTr M T N) (hf : FrW M1 M) : isTr M1 T N := ⟨(hf.2.1 8 (by decide) (by decide) (by decide) (by decide) (by decide) (by decide)).trans h.1, fun i hi => by rw [hf.1 150 (by decide)]; exact h.2 i hi⟩
theorem isWd.fr {M M1 : Mem} (h : isWd M) (hf : M1.1 152 = M.1 152) : isWd M1 := fun k hk => by rw [hf]; exact h k hk
theorem RSr.o {M : Mem} {T : Nat → Nat} {N b a k : Nat} {x : Int32} (h : RSr M T N b) (ha : a ≠ 146 ∨ k = 16) : RSr (st M a k x) T N b := h.fr (fun j hj => by
  rcases ha with ha | ha
  · rw [st_o (fun q => ha q.symm)]
  · by_cases h1 : a = 146
    · subst h1; exact st_k (by omega)
    · rw [st_o (fun q => h1 q.symm)])
/-- the row of the rule that is read -/
def isOw (M : Mem) (P : Nat → Int) : Prop := ∀ k, k < 8 → M.1 153 k = zI (P k)
theorem isOw.to {M : Mem} {k : Nat} {P : Nat → Int} {x : Int} (h : isOw M P) : isOw (st M 153 k (zI x)) (updI P k x) := fun j hj => by
  by_cases h1 : j = k
  · subst h1; rw [updI_t]; exact st_at
  · rw [updI_o h1, st_k h1]; exact h j hj
theorem isOw.fr {M M1 : Mem} {P : Nat → Int} (h : isOw M P) (hf : M1.1 153 = M.1 153) : isOw M1 P := fun j hj => by rw [hf]; exact h j hj
/-- the state of the reference's reader at x: a wrong one keeps no parts -/
def YS (M : Mem) (T : Nat → Nat) (N : Nat) (x : Nat × Nat × (Nat → Int)) : Prop := rdG N x ∧ isTr M T N ∧ isWd M ∧ RSr M T N x.2.1 ∧ M.1 146 16 = zI (1 - (x.1 : Int)) ∧ (x.1 = 1 → isOw M x.2.2)
/-- nothing but the reader's fields and the row of the rule that is read -/
def FrY (M1 M : Mem) : Prop := (∀ a, a ≠ 146 → a ≠ 153 → M1.1 a = M.1 a) ∧ (∀ k, k ≠ 9 → k ≠ 11 → k ≠ 13 → k ≠ 14 → k ≠ 15 → k ≠ 16 → M1.1 146 k = M.1 146 k) ∧ M1.2 = M.2
theorem FrY.rf {M : Mem} : FrY M M := ⟨fun _ _ _ => rfl, fun _ _ _ _ _ _ _ => rfl, rfl⟩
theorem FrY.tr {M M1 M2 : Mem} (h : FrY M1 M) (h1 : FrY M2 M1) : FrY M2 M := ⟨fun a ha hb => (h1.1 a ha hb).trans (h.1 a ha hb), fun k a b c d e g => (h1.2.1 k a b c d e g).trans (h.2.1 k a b c d e g), h1.2.2.trans h.2.2⟩
theorem FrY.w {M M1 : Mem} (h : FrW M1 M) : FrY M1 M := ⟨fun a ha _ => h.1 a ha, h.2.1, h.2.2⟩
theorem FrY.o {M M1 : Mem} {k : Nat} {x : Int32} (h : FrY M1 M) : FrY (st M1 153 k x) M := ⟨fun a ha hb => (st_o hb).trans (h.1 a ha hb), fun j a b c d e g => by rw [st_o (by decide)]; exact h.2.1 j a b c d e g, h.2.2⟩
theorem FrY.t {M M1 : Mem} {x : Int32} (h : FrY M1 M) : FrY (st M1 146 16 x) M := ⟨fun a ha hb => (st_o ha).trans (h.1 a ha hb), fun j a b c d e g => (st_k g).trans (h.2.1 j a b c d e g), h.2.2⟩
theorem YS.o {M : Mem} {T : Nat → Nat} {N k : Nat} {x : Nat × Nat × (Nat → Int)} {v : Int32} (h : YS M T N x) (h0 : x.1 = 0) : YS (st M 153 k v) T N x := ⟨h.1, h.2.1.o (Or.inl (by decide)) (by decide), h.2.2.1.fr (st_o (by decide)), h.2.2.2.1.o (Or.inl (by decide)), (st_ne (Or.inl (by decide))).trans h.2.2.2.2.1, fun q => by omega⟩
theorem YS.p {M : Mem} {T : Nat → Nat} {N b k : Nat} {P : Nat → Int} {v : Int} (h : YS M T N (1, b, P)) : YS (st M 153 k (zI v)) T N (1, b, updI P k v) := ⟨h.1, h.2.1.o (Or.inl (by decide)) (by decide), h.2.2.1.fr (st_o (by decide)), h.2.2.2.1.o (Or.inl (by decide)), (st_ne (Or.inl (by decide))).trans h.2.2.2.2.1, fun _ => (h.2.2.2.2.2 rfl).to⟩
theorem YS.e {M : Mem} {T : Nat → Nat} {N : Nat} {x y : Nat × Nat × (Nat → Int)} (h : YS M T N x) (e : y = x) : YS M T N y := e ▸ h
/-- behind a word that was needed -/
theorem YS.c1 {M M1 : Mem} {T : Nat → Nat} {N : Nat} {x : Nat × Nat × (Nat → Int)} (h : YS M T N x) (h1 : x.1 = 1) (hR : RSr M1 T N (en T N x.2.1)) (hw : M1.1 146 16 = zI 0) (hF : FrW M1 M) : YS M1 T N (1, en T N x.2.1, x.2.2) := ⟨⟨Or.inr rfl, hR.1⟩, h.2.1.w hF, h.2.2.1.fr (hF.1 _ (by decide)), hR, hw, fun _ => (h.2.2.2.2.2 h1).fr (hF.1 _ (by decide))⟩
theorem YS.c0 {M M1 : Mem} {T : Nat → Nat} {N : Nat} {x : Nat × Nat × (Nat → Int)} (h : YS M T N x) (hR : RSr M1 T N x.2.1) (hw : M1.1 146 16 = zI 1) (hF : FrW M1 M) : YS M1 T N (0, x.2.1, x.2.2) := ⟨⟨Or.inl rfl, hR.1⟩, h.2.1.w hF, h.2.2.1.fr (hF.1 _ (by decide)), hR, hw, fun q => absurd q (by show ¬ (0 : Nat) = 1; decide)⟩
