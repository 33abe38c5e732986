theorem sA_ne {M : Mem} {a b k : Nat} {f : Nat → Int32} (h : b ≠ a) : (sA M a f).1 b k = M.1 b k := by simp [sA, h]
theorem hv_ext {M M1 : Mem} {a : Nat} (h : ∀ b, b ≠ a → M.1 b = M1.1 b) (h2 : M.2 = M1.2) : M = sA M1 a (M.1 a) := by
  refine Prod.ext (funext fun b => ?_) h2
  show M.1 b = if b = a then M.1 a else M1.1 b
  by_cases hb : b = a
  · subst hb; simp
  · rw [if_neg hb]; exact h b hb
theorem hv_some {D : va_G} {B : Nat} {cy : Nat → ClassId} {s : State} {H0 H : Heap} {M : Mem} {locs : List Loc} {a k : Nat} {x : Int32} (w : Wd D B cy s H0 (st M a k x) H locs) : ∃ f, Wd D B cy s H0 (sA M a f) H locs := ⟨_, w⟩
theorem st_hi {M : Mem} {a k b : Nat} {x : Int32} (h : b ≠ a) : (st M a k x).1 b = M.1 b := by simp [st, sA, h]
theorem sA_hi {M : Mem} {a b : Nat} {f : Nat → Int32} (h : b ≠ a) : (sA M a f).1 b = M.1 b := by simp [sA, h]
theorem goodIn_c2 {w : Cond} (h : w ∈ TB) : GoodIn TB (w :: TB) := fun v hv => (List.mem_cons.mp hv).elim (fun e => e ▸ TB_good w h) (fun h2 => TB_good v h2)
theorem goodIn_3 {a b c : Cond} {ws : List Cond} (ha : a ∈ TB) (hb : b ∈ TB) (hc : c ∈ TB) (h : GoodIn TB ws) : GoodIn TB ([a, b, c] ++ ws) := by
  intro v hv
  rcases List.mem_append.mp hv with hv | hv
  · simp only [List.mem_cons, List.not_mem_nil, or_false] at hv
    rcases hv with rfl | rfl | rfl
    · exact TB_good _ ha
    · exact TB_good _ hb
    · exact TB_good _ hc
  · exact h v hv
theorem goodIn_4 {a b c d : Cond} {ws : List Cond} (ha : a ∈ TB) (hb : b ∈ TB) (hc : c ∈ TB) (hd : d ∈ TB) (h : GoodIn TB ws) : GoodIn TB ([a, b, c, d] ++ ws) := by
  intro v hv
  rcases List.mem_append.mp hv with hv | hv
  · simp only [List.mem_cons, List.not_mem_nil, or_false] at hv
    rcases hv with rfl | rfl | rfl | rfl
    · exact TB_good _ ha
    · exact TB_good _ hb
    · exact TB_good _ hc
    · exact TB_good _ hd
  · exact h v hv
