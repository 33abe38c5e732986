-- WORDS OF THE TABLES: those that stay true as classes are linked
abbrev TB : List Cond := lw_tbl.filter goodWord
theorem TB_good : GoodIn TB TB := fun _ h => ⟨h, good_of_word (List.mem_filter.mp h).2⟩
theorem tbm {w : Cond} (h : w ∈ tables_1) (hg : goodWord w = true) : w ∈ TB := List.mem_filter.mpr ⟨List.mem_append_right _ h, hg⟩
theorem tbp {w : Cond} (h : w ∈ k2_sels lw_privs) (hg : goodWord w = true) : w ∈ TB := List.mem_filter.mpr ⟨List.mem_append_left _ h, hg⟩
theorem tc1 {w : Cond} (h : w ∈ tables_1_1) : w ∈ tables_1 := List.mem_append_left _ h
theorem tc2 {w : Cond} (h : w ∈ tables_1_2) : w ∈ tables_1 := List.mem_append_right _ (List.mem_append_left _ h)
theorem tc3 {w : Cond} (h : w ∈ tables_1_3) : w ∈ tables_1 := List.mem_append_right _ (List.mem_append_right _ (List.mem_append_left _ h))
theorem tc4 {w : Cond} (h : w ∈ tables_1_4) : w ∈ tables_1 := List.mem_append_right _ (List.mem_append_right _ (List.mem_append_right _ (List.mem_append_left _ h)))
theorem tc5 {w : Cond} (h : w ∈ tables_1_5) : w ∈ tables_1 := List.mem_append_right _ (List.mem_append_right _ (List.mem_append_right _ (List.mem_append_right _ (List.mem_append_left _ h))))
theorem tc6 {w : Cond} (h : w ∈ tables_1_6) : w ∈ tables_1 := List.mem_append_right _ (List.mem_append_right _ (List.mem_append_right _ (List.mem_append_right _ (List.mem_append_right _ (List.mem_append_left _ h)))))
theorem tc7 {w : Cond} (h : w ∈ tables_1_7) : w ∈ tables_1 := List.mem_append_right _ (List.mem_append_right _ (List.mem_append_right _ (List.mem_append_right _ (List.mem_append_right _ (List.mem_append_right _ (h))))))
def NST : List (String × Nat × MethodName) := [("ToneLines", 11, ⟨"ToneLines$Tape", "<init>", "()V"⟩), ("ToneLines$RuleReader", 35, ⟨"ToneLines$Rule", "<init>", "()V"⟩), ("ToneLines$Derivation", 11, ⟨"ToneLines$Doer", "<init>", "()V"⟩), ("ToneLines$Derivation", 44, ⟨"ToneLines$Rule", "<init>", "()V"⟩), ("ToneLines$Derivation", 45, ⟨"ToneLines$Word", "<init>", "()V"⟩), ("ToneLines$History", 24, ⟨"ToneLines$Word", "<init>", "()V"⟩), ("ToneLines$Orders", 39, ⟨"ToneLines$Word", "<init>", "()V"⟩), ("ToneLines", 60, ⟨"ToneLines$Sources", "<init>", "()V"⟩), ("ToneLines$Sources", 24, ⟨"ToneLines$Word", "<init>", "()V"⟩), ("ToneLines", 67, ⟨"ToneLines$Speller", "<init>", "()V"⟩), ("ToneLines", 74, ⟨"ToneLines$Word", "<init>", "()V"⟩), ("ToneLines$WordReader", 82, ⟨"ToneLines", "digitOf", "(I)I"⟩), ("ToneLines$RuleReader", 55, ⟨"ToneLines", "isLetter", "(I)Z"⟩), ("ToneLines$RuleReader", 109, ⟨"ToneLines", "digitOf", "(I)I"⟩), ("ToneLines$Doer", 72, ⟨"ToneLines", "highest", "(I)I"⟩), ("ToneLines$Doer", 75, ⟨"ToneLines", "lowest", "(I)I"⟩), ("ToneLines$Rule", 33, ⟨"ToneLines", "lowest", "(I)I"⟩), ("ToneLines$Rule", 36, ⟨"ToneLines", "highest", "(I)I"⟩), ("ToneLines$Word", 75, ⟨"ToneLines", "lowest", "(I)I"⟩), ("ToneLines$Speller", 53, ⟨"ToneLines", "lowest", "(I)I"⟩)]
def Nst (U : State) : Prop := ∀ q ∈ NST, va_Nw (.methodLinkNest q.1 q.2.1 q.2.2 "ToneLines") U
theorem Nst_warm {s U : State} (hW : s.WarmedH U.vm) (h : Nst s) : Nst U := fun q hq => va_Nw.warmM hW (h q hq)
theorem Nst_same {s U : State} (hW : s.vm = U.vm) (h : Nst s) : Nst U := fun q hq => va_Nw.same rfl hW (h q hq)
def NSL : Nat := 11
def slO : List (String × Nat × String) := [("ToneLines$WordReader", 46, "lmh"), ("ToneLines$RuleReader", 65, "again"), ("ToneLines$RuleReader", 75, "link spread shift cut dock drop fuse turn flat fill"), ("ToneLines$RuleReader", 95, "first last"), ("ToneLines$RuleReader", 97, "low mid high"), ("ToneLines$RuleReader", 99, "low mid high any"), ("ToneLines$RuleReader", 101, "right left"), ("ToneLines$RuleReader", 103, "to"), ("ToneLines$RuleReader", 87, "if"), ("ToneLines$RuleReader", 105, "not"), ("ToneLines$RuleReader", 107, "begin end heavy many float before after")]
def slB : List (List Int32) := [[108, 109, 104], [97, 103, 97, 105, 110], [108, 105, 110, 107, 32, 115, 112, 114, 101, 97, 100, 32, 115, 104, 105, 102, 116, 32, 99, 117, 116, 32, 100, 111, 99, 107, 32, 100, 114, 111, 112, 32, 102, 117, 115, 101, 32, 116, 117, 114, 110, 32, 102, 108, 97, 116, 32, 102, 105, 108, 108], [102, 105, 114, 115, 116, 32, 108, 97, 115, 116], [108, 111, 119, 32, 109, 105, 100, 32, 104, 105, 103, 104], [108, 111, 119, 32, 109, 105, 100, 32, 104, 105, 103, 104, 32, 97, 110, 121], [114, 105, 103, 104, 116, 32, 108, 101, 102, 116], [116, 111], [105, 102], [110, 111, 116], [98, 101, 103, 105, 110, 32, 101, 110, 100, 32, 104, 101, 97, 118, 121, 32, 109, 97, 110, 121, 32, 102, 108, 111, 97, 116, 32, 98, 101, 102, 111, 114, 101, 32, 97, 102, 116, 101, 114]]
/-- the written texts, two statics: they lie below B, nobody writes there -/
def Sg (D : va_G) (B : Nat) (U : State) (H0 : Heap) : Prop := (∀ i, i < NSL → vk_R (slO.getD i ("", 0, "")).1 (slO.getD i ("", 0, "")).2.1 (slO.getD i ("", 0, "")).2.2 (D.2 200 i) U ∧ vk_S 1 [(slB.getD i []).length] [slB.getD i []] (fun _ => D.2 200 i) (fun _ => D.2 201 i) (fun q => B ≤ q) U H0) ∧ va_Z "java/lang/String" "COMPACT_STRINGS" "Z" (.int 1) (fun q => B ≤ q) U H0 ∧ va_Zq "jdk/internal/util/Preconditions" "SIOOBE_FORMATTER" "Ljava/util/function/BiFunction;" (fun q => B ≤ q) U H0
def Nz (D : va_G) (B : Nat) (U : State) (H0 : Heap) : Prop := Nst U ∧ Sg D B U H0
theorem Nz_to {D : va_G} {B : Nat} {s U : State} {H0 H1 : Heap} (hW : s.WarmedH U.vm) (h : Nz D B s H0) (hq : ∀ a : Nat, a < H0.size → ¬ B ≤ a → H1[a]? = H0[a]?) : Nz D B U H1 :=
  ⟨Nst_warm hW h.1, fun i hi => ⟨vk_R.warm hW (h.2.1 i hi).1, ((h.2.1 i hi).2.moved hW.alike).kept hq⟩, (h.2.2.1.moved hW.alike).kept hq, (h.2.2.2.moved hW.alike).kept hq⟩
theorem Nz_same {D : va_G} {B : Nat} {s U : State} {H0 : Heap} (hv : U.vm = s.vm) (hA : s.vm.Alike U.vm) (h : Nz D B s H0) : Nz D B U H0 :=
  ⟨Nst_same hv.symm h.1, fun i hi => ⟨vk_R.same hv (h.2.1 i hi).1, (h.2.1 i hi).2.moved hA⟩, h.2.2.1.moved hA, h.2.2.2.moved hA⟩
def ix (i : Int32) (j : Nat) : Prop := ¬ i < 0 ∧ i.toNatClampNeg = j
theorem vpi {i : Int32} {n : Nat} (h : ¬ i < 0) (hj : i.toNatClampNeg < n) : vp_in i n := fun q => q.elim h (fun z => Nat.not_le.mpr hj z)
theorem ix_nI {k : Nat} (h : k < 2 ^ 31) : ix (nI k) k := ⟨nI_pos h, nI_clamp h⟩
-- THE MEMORY: 159 cells, one behind the other, from the address B on; what may change is ints (longs in two rows) alone
abbrev Mem : Type := (Nat → Nat → Int32) × (Nat → Nat → Int64)
def sA (M : Mem) (a : Nat) (f : Nat → Int32) : Mem := (fun b => if b = a then f else M.1 b, M.2)
def st (M : Mem) (a k : Nat) (x : Int32) : Mem := sA M a (upd (M.1 a) k x)
def sL (M : Mem) (a k : Nat) (x : Int64) : Mem := (M.1, fun b => if b = a then vp_updL (M.2 a) k x else M.2 b)
/-- what each cell is: its kind, a row's length, where the objects that it names begin -/
def kdL : List (Nat × Nat × Nat) := [(11, 0, 0), (8, 0, 0), (20, 300, 0), (10, 0, 0), (5, 0, 0), (24, 8, 6), (4, 0, 0), (22, 8, 0), (4, 0, 0), (22, 8, 0), (4, 0, 0), (22, 8, 0), (4, 0, 0), (22, 8, 0), (4, 0, 0), (22, 8, 0), (4, 0, 0), (22, 8, 0), (4, 0, 0), (22, 8, 0), (4, 0, 0), (22, 8, 0), (0, 0, 0), (1, 0, 0), (24, 8, 28), (25, 9, 44), (22, 8, 0), (22, 8, 0), (4, 0, 0), (22, 8, 0), (4, 0, 0), (22, 8, 0), (4, 0, 0), (22, 8, 0), (4, 0, 0), (22, 8, 0), (4, 0, 0), (22, 8, 0), (4, 0, 0), (22, 8, 0), (4, 0, 0), (22, 8, 0), (4, 0, 0), (22, 8, 0), (9, 0, 0), (22, 12, 0), (22, 12, 0), (9, 0, 0), (22, 12, 0), (22, 12, 0), (9, 0, 0), (22, 12, 0), (22, 12, 0), (9, 0, 0), (22, 12, 0), (22, 12, 0), (9, 0, 0), (22, 12, 0), (22, 12, 0), (9, 0, 0), (22, 12, 0), (22, 12, 0), (9, 0, 0), (22, 12, 0), (22, 12, 0), (9, 0, 0), (22, 12, 0), (22, 12, 0), (9, 0, 0), (22, 12, 0), (22, 12, 0), (2, 0, 0), (25, 12, 73), (9, 0, 0), (22, 12, 0), (22, 12, 0), (9, 0, 0), (22, 12, 0), (22, 12, 0), (9, 0, 0), (22, 12, 0), (22, 12, 0), (9, 0, 0), (22, 12, 0), (22, 12, 0), (9, 0, 0), (22, 12, 0), (22, 12, 0), (9, 0, 0), (22, 12, 0), (22, 12, 0), (9, 0, 0), (22, 12, 0), (22, 12, 0), (9, 0, 0), (22, 12, 0), (22, 12, 0), (9, 0, 0), (22, 12, 0), (22, 12, 0), (9, 0, 0), (22, 12, 0), (22, 12, 0), (9, 0, 0), (22, 12, 0), (22, 12, 0), (9, 0, 0), (22, 12, 0), (22, 12, 0), (3, 0, 0), (22, 6, 0), (25, 7, 114), (23, 720, 0), (23, 720, 0), (9, 0, 0), (22, 12, 0), (22, 12, 0), (9, 0, 0), (22, 12, 0), (22, 12, 0), (9, 0, 0), (22, 12, 0), (22, 12, 0), (9, 0, 0), (22, 12, 0), (22, 12, 0), (9, 0, 0), (22, 12, 0), (22, 12, 0), (9, 0, 0), (22, 12, 0), (22, 12, 0), (9, 0, 0), (22, 12, 0), (22, 12, 0), (6, 0, 0), (22, 7, 0), (22, 7, 0), (9, 0, 0), (22, 12, 0), (22, 12, 0), (7, 0, 0), (21, 256, 0), (9, 0, 0), (22, 12, 0), (22, 12, 0), (12, 0, 0), (22, 28, 0), (22, 28, 0), (22, 64, 0), (22, 300, 0), (22, 28, 0), (20, 147, 0), (22, 8, 0), (22, 64, 0), (22, 336, 0), (22, 260, 0), (22, 12, 0), (22, 8640, 0)]
def kd (a : Nat) : Nat × Nat × Nat := kdL.getD a (99, 0, 0)
def shp (B : Nat) (cy : Nat → ClassId) (a : Nat) (f : Nat → Int32) (g : Nat → Int64) : va_E := match kd a with
  | (0, _, _) => .inr (0, [.ref (B + 23), .ref (B + 24), .int (f 2), .ref (B + 25), .ref (B + 44), .ref (B + 26), .ref (B + 27), .int (f 7)])
  | (1, _, _) => .inr (1, [.int (f 0)])
  | (2, _, _) => .inr (2, [.ref (B + 72), .int (f 1), .int (f 2)])
  | (3, _, _) => .inr (3, [.int (f 0), .int (f 1), .int (f 2), .ref (B + 110), .ref (B + 111), .ref (B + 112), .ref (B + 113)])
  | (4, _, _) => .inr (4, [.ref (B + (a + 1))])
  | (5, _, _) => .inr (5, [.ref (B + 1), .ref (B + 5), .int (f 2), .int (f 3), .int (f 4), .int (f 5)])
  | (6, _, _) => .inr (6, [.int (f 0), .ref (B + 136), .ref (B + 137), .ref (B + 138)])
  | (7, _, _) => .inr (7, [.ref (B + 142), .int (f 1)])
  | (8, _, _) => .inr (8, [.ref (B + 2), .int (f 1)])
  | (9, _, _) => .inr (9, [.int (f 0), .int (f 1), .int (f 2), .int (f 3), .ref (B + (a + 1)), .ref (B + (a + 2))])
  | (10, _, _) => .inr (10, [.ref (B + 1), .int (f 1)])
  | (11, _, _) => .inr (11, [.ref (B + 1), .ref (B + 3), .ref (B + 4), .ref (B + 22), .ref (B + 44), .ref (B + 71), .ref (B + 109), .ref (B + 135), .ref (B + 141), .ref (B + 143)])
  | (12, _, _) => .inr (12, [.int (f 0), .ref (B + 147), .ref (B + 148), .int (f 3), .ref (B + 149), .int (f 5), .int (f 6), .ref (B + 150), .int (f 8), .int (f 9), .ref (B + 151), .int (f 11), .ref (B + 152), .int (f 13), .int (f 14), .int (f 15), .int (f 16), .ref (B + 153), .ref (B + 154), .ref (B + 155), .int (f 20), .ref (B + 156), .int (f 22), .ref (B + 157), .ref (B + 158), .int (f 25), .int (f 26)])
  | (20, n, _) => .inl (cy 0, n, .inl f)
  | (21, n, _) => .inl (cy 1, n, .inl f)
  | (22, n, _) => .inl (cy 2, n, .inl f)
  | (23, n, _) => .inl (cy 3, n, .inr (.inl g))
  | (24, n, b) => .inl (cy 4, n, .inr (.inr (.inr (.inr (fun i => some (B + (b + 2 * i)))))))
  | (25, n, b) => .inl (cy 5, n, .inr (.inr (.inr (.inr (fun i => some (B + (b + 3 * i)))))))
  | _ => .inl (cy 2, 0, .inl f)
def wl (B : Nat) (cy : Nat → ClassId) (M : Mem) : va_W := (List.range 159).map (fun a => (B + a, shp B cy a (M.1 a) (M.2 a)))
def tys (cy : Nat → ClassId) : List (ClassId × FieldType) := [(cy 0, .byte), (cy 1, .char), (cy 2, .int), (cy 3, .long), (cy 4, .object "ToneLines$Rule"), (cy 5, .object "ToneLines$Word")]
theorem wl_at {B : Nat} {cy : Nat → ClassId} {M : Mem} {a : Nat} (h : a < 159) : (wl B cy M)[a]? = some (B + a, shp B cy a (M.1 a) (M.2 a)) := by
  unfold wl
  rw [List.getElem?_map, List.getElem?_range h]
  rfl
theorem wl_len {B : Nat} {cy : Nat → ClassId} {M : Mem} : (wl B cy M).length = 159 := by simp [wl]
theorem wl_inv {B : Nat} {cy : Nat → ClassId} {M : Mem} {k : Nat} {q : Nat × va_E} (h : (wl B cy M)[k]? = some q) : k < 159 ∧ q.1 = B + k := by
  have hk : k < 159 := by
    have := (List.getElem?_eq_some_iff.mp h).1
    rwa [wl_len] at this
  rw [wl_at hk] at h
  cases h
  exact ⟨hk, rfl⟩
theorem wl_D (B : Nat) (cy : Nat → ClassId) (M : Mem) : va_D (fun q => B ≤ q) (wl B cy M) := by
  refine ⟨fun i j p q hp hq e => ?_, fun k q hq => ?_⟩
  · have h1 := (wl_inv hp).2
    have h2 := (wl_inv hq).2
    omega
  · have h1 := (wl_inv hq).2
    show B ≤ q.1
    omega
theorem wl_set {B : Nat} {cy : Nat → ClassId} {M M' : Mem} {a : Nat} {e : va_E} (ha : a < 159) (he : shp B cy a (M'.1 a) (M'.2 a) = e) (h1 : ∀ b, b ≠ a → M'.1 b = M.1 b) (h2 : ∀ b, b ≠ a → M'.2 b = M.2 b) : (wl B cy M).set a (B + a, e) = wl B cy M' := by
  refine List.ext_getElem? fun k => ?_
  by_cases hk : k < 159
  · rw [List.getElem?_set, wl_at hk, wl_at hk, wl_len]
    by_cases hka : a = k
    · subst hka
      rw [if_pos rfl, if_pos ha, he]
    · rw [if_neg hka, h1 k (fun h => hka h.symm), h2 k (fun h => hka h.symm)]
  · rw [List.getElem?_eq_none (by rw [List.length_set, wl_len]; omega), List.getElem?_eq_none (by rw [wl_len]; omega)]
theorem wl_sA {B : Nat} {cy : Nat → ClassId} {M : Mem} {a : Nat} {f : Nat → Int32} {e : va_E} (ha : a < 159) (he : shp B cy a f (M.2 a) = e) : (wl B cy M).set a (B + a, e) = wl B cy (sA M a f) :=
  wl_set ha (by simp [sA, he]) (fun b hb => by simp [sA, hb]) (fun b hb => rfl)
theorem wl_sL {B : Nat} {cy : Nat → ClassId} {M : Mem} {a k : Nat} {x : Int64} {e : va_E} (ha : a < 159) (he : shp B cy a (M.1 a) (vp_updL (M.2 a) k x) = e) : (wl B cy M).set a (B + a, e) = wl B cy (sL M a k x) :=
  wl_set ha (by simp [sL, he]) (fun b hb => rfl) (fun b hb => by simp [sL, hb])
/-- the world in a walk -/
def Wd (D : va_G) (B : Nat) (cy : Nat → ClassId) (s : State) (H0 : Heap) (M : Mem) (H : Heap) (locs : List Loc) : Prop := va_K D vwCl (tys cy) s ∧ va_P D vwCl (wl B cy M) H ∧ va_S (fun q => B ≤ q) H0 H locs ∧ Nz D B s H0
/-- the world of a contract -/
def Wp (D : va_G) (B : Nat) (cy : Nat → ClassId) (M : Mem) (U : State) : Prop := va_K D vwCl (tys cy) U ∧ va_P D vwCl (wl B cy M) U.heap ∧ Nz D B U U.heap
theorem kd_lt {a k n b : Nat} (h : kd a = (k, n, b)) (hq : k ≠ 99) : a < 159 := by
  by_cases ha : a < 159
  · exact ha
  · exfalso
    apply hq
    have h2 : kd a = (99, 0, 0) := by
      unfold kd
      rw [List.getD_eq_getElem?_getD, List.getElem?_eq_none (by show 159 ≤ a; omega)]
      rfl
    rw [h2] at h
    cases h
    rfl
abbrev rmm (fr lo : Nat) : Room := { frames := fr, cells := 0, slots := 0, locals := lo }
abbrev cw (y : MethodName) (cc : ByteArray) (n : Nat) (ret : Option FieldType) : List Cond := .code y cc n ret :: TB
/-- contracts: an int (a truth value), nothing, a long, a cell -/
def Ci (l : Launch) (D : va_G) (B : Nat) (cy : Nat → ClassId) (y : MethodName) (cc : ByteArray) (n : Nat) (ret : Option FieldType) (fr lo : Nat) (av : List Value) (M : Mem) (post : Int32 → Mem → Prop) : Prop :=
  Met l y (cw y cc n ret) (rmm fr lo) (va_Pc av (Wp D B cy M)) (va_Qi post (fun M' t => Wp D B cy M' t) (fun q => B ≤ q)) 0 0 (fun q => B ≤ q)
def Cv (l : Launch) (D : va_G) (B : Nat) (cy : Nat → ClassId) (y : MethodName) (cc : ByteArray) (n : Nat) (fr lo : Nat) (av : List Value) (M : Mem) (post : Mem → Prop) : Prop :=
  Met l y (cw y cc n none) (rmm fr lo) (va_Pc av (Wp D B cy M)) (va_Qv post (fun M' t => Wp D B cy M' t) (fun q => B ≤ q)) 0 0 (fun q => B ≤ q)
def Cl (l : Launch) (D : va_G) (B : Nat) (cy : Nat → ClassId) (y : MethodName) (cc : ByteArray) (n : Nat) (fr lo : Nat) (av : List Value) (M : Mem) (post : Int64 → Mem → Prop) : Prop :=
  Met l y (cw y cc n (some .long)) (rmm fr lo) (va_Pc av (Wp D B cy M)) (va_Ql post (fun M' t => Wp D B cy M' t) (fun q => B ≤ q)) 0 0 (fun q => B ≤ q)
def Cr (l : Launch) (D : va_G) (B : Nat) (cy : Nat → ClassId) (y : MethodName) (cc : ByteArray) (n : Nat) (ret : Option FieldType) (fr lo : Nat) (av : List Value) (M : Mem) (post : Nat → Mem → Prop) : Prop :=
  Met l y (cw y cc n ret) (rmm fr lo) (va_Pc av (Wp D B cy M)) (va_Qr (S := Mem × Nat) (fun u => post u.2 u.1) (fun u ra t => Wp D B cy u.1 t ∧ ra = B + u.2) (fun q => B ≤ q)) 0 0 (fun q => B ≤ q)
section Rows
variable {p : Program} {l : Launch} {e : Env} {R : Room} {s : State} {m : MethodId} {args : Array Value} {below : List Frame} {meth : Method} {c : Code} {H : Heap} {locs : List Loc} {cells slots : Nat} {Q : State → Prop}
variable {cc : ByteArray} {pc : Nat} {ls : Array Slot} {rest : List Value} {D : va_G} {B : Nat} {cy : Nat → ClassId} {M : Mem} {H0 : Heap} {own : String} {nL : Nat}
/-- a value's other writing -/
theorem r_val {x v : Int32} (h : x = v) (k : W p l e R s m args below meth c H locs cells slots Q (F0 m pc ls (.int v :: rest))) : W p l e R s m args below meth c H locs cells slots Q (F0 m pc ls (.int x :: rest)) := by
  subst h
  exact k
theorem r_vall {x v : Int64} (h : x = v) (k : W p l e R s m args below meth c H locs cells slots Q (F0 m pc ls (.long v :: rest))) : W p l e R s m args below meth c H locs cells slots Q (F0 m pc ls (.long x :: rest)) := by
  subst h
  exact k
theorem g_get (F : CallFix p m c cc nL s args TB own) (w : Wd D B cy s H0 M H locs) {a ci k idx : Nat} {ref C : String} {T : u_T} {N : Nat} {fs : List Value} {v : Value} (ha : a < 159) (he : shp B cy a (M.1 a) (M.2 a) = .inr (ci, fs)) (hc : vwCl[ci]? = some (C, T, N)) (hin : ∀ w ∈ u_ws C T N, w ∈ TB) (hk : k < N) (hT : (T k).1 = ref) (hlink : Cond.fieldLink own idx ref (T k).2.1 (T k).2.2.1 ∈ TB) (hv : fs[k]? = some v) (hdg : decode cc pc = .ok (.getfield idx, 3))
    (kk : W p l e R s m args below meth c H locs cells slots Q (F0 m (pc + 3) ls (v :: rest))) : W p l e R s m args below meth c H locs cells slots Q (F0 m pc ls (.ref (B + a) :: rest)) :=
  va_get (D := D) (T := T) F.1 F.2.1 F.2.2.2.2 hin F.2.2.2.1 w.1 w.2.1 a (by rw [wl_at ha, he]) hc k hk (F.2.2.2.2 _ hlink) (fun x h => by rw [hT] at h; exact h) hv hdg kk
theorem g_put (F : CallFix p m c cc nL s args TB own) (w : Wd D B cy s H0 M H locs) {a ci k idx : Nat} {ref C : String} {T : u_T} {N : Nat} {fs : List Value} {x : Int32} {ty : FieldType} (ty0 : Nat → FieldType) (hty : ∀ k, k < N → parseFieldDescriptor (T k).2.2.1 = some (ty0 k)) (hnm : ∀ a, a < N → ∀ b, b < N → a ≠ b → (T a).2.1 ≠ (T b).2.1) (ha : a < 159) (he : shp B cy a (M.1 a) (M.2 a) = .inr (ci, fs)) (he' : shp B cy a (upd (M.1 a) k x) (M.2 a) = .inr (ci, fs.set k (.int x))) (hc : vwCl[ci]? = some (C, T, N)) (hin : ∀ w ∈ u_ws C T N, w ∈ TB) (hk : k < N) (hT : (T k).1 = ref) (hlink : Cond.fieldLink own idx ref (T k).2.1 (T k).2.2.1 ∈ TB) (hfin : (T k).2.2.2 = false) (hd : parseFieldDescriptor (T k).2.2.1 = some ty) (hn : narrow ty (.int x) = .int x) (hfit : fits ty (.int x) = true) (hl : k < fs.length) (hdg : decode cc pc = .ok (.putfield idx, 3))
    (kk : ∀ (H1 : Heap) (locs1 : List Loc), Wd D B cy s H0 (st M a k x) H1 locs1 → W p l e R s m args below meth c H1 locs1 cells slots Q (F0 m (pc + 3) ls rest)) : W p l e R s m args below meth c H locs cells slots Q (F0 m pc ls (.int x :: .ref (B + a) :: rest)) := by
  refine va_put (D := D) (T := T) F.1 F.2.1 F.2.2.2.2 hin ty0 hty hnm F.2.2.2.1 w.1 w.2.1 (wl_D B cy M) w.2.2.1 a (by rw [wl_at ha, he]) hc k hk (F.2.2.2.2 _ hlink) (fun x h => by rw [hT] at h; exact h) hfin hd hn hfit hl hdg fun H1 locs1 hP _ hS => kk H1 locs1 ⟨w.1, ?_, hS, w.2.2.2⟩
  rw [wl_sA ha he'] at hP
  exact hP
/-- rows of ints -/
theorem g_iald (F : CallFix p m c cc nL s args TB own) (w : Wd D B cy s H0 M H locs) {a n b : Nat} (hk : kd a = (22, n, b)) {i : Int32} {j : Nat} (hi : ix i j) (hj : j < n) (hdg : decode cc pc = .ok (.iaload, 1))
    (kk : W p l e R s m args below meth c H locs cells slots Q (F0 m (pc + 1) ls (.int (M.1 a j) :: rest))) : W p l e R s m args below meth c H locs cells slots Q (F0 m pc ls (.int i :: .ref (B + a) :: rest)) := by
  obtain ⟨h1, rfl⟩ := hi
  exact va_iald F.1 F.2.1 w.1 w.2.1 a 2 (cA := cy 2) (n := n) (f := M.1 a) (by rw [wl_at (kd_lt hk (by decide))]; simp only [shp, hk]) rfl (vpi h1 hj) hdg kk
theorem g_iast (F : CallFix p m c cc nL s args TB own) (w : Wd D B cy s H0 M H locs) {a n b : Nat} (hk : kd a = (22, n, b)) {i x : Int32} {j : Nat} (hi : ix i j) (hj : j < n) (hdg : decode cc pc = .ok (.iastore, 1))
    (kk : ∀ (H1 : Heap) (locs1 : List Loc), Wd D B cy s H0 (st M a j x) H1 locs1 → W p l e R s m args below meth c H1 locs1 cells slots Q (F0 m (pc + 1) ls rest)) : W p l e R s m args below meth c H locs cells slots Q (F0 m pc ls (.int x :: .int i :: .ref (B + a) :: rest)) := by
  obtain ⟨h1, rfl⟩ := hi
  refine va_iast F.1 F.2.1 w.1 w.2.1 (wl_D B cy M) w.2.2.1 a 2 (cA := cy 2) (n := n) (f := M.1 a) (by rw [wl_at (kd_lt hk (by decide))]; simp only [shp, hk]) rfl (vpi h1 hj) hdg fun H1 locs1 hP _ hS => kk H1 locs1 ⟨w.1, ?_, hS, w.2.2.2⟩
  rw [wl_sA (f := upd (M.1 a) i.toNatClampNeg x) (kd_lt hk (by decide)) (by simp only [shp, hk])] at hP
  exact hP
theorem g_bald (F : CallFix p m c cc nL s args TB own) (w : Wd D B cy s H0 M H locs) {a n b : Nat} (hk : kd a = (20, n, b)) {i : Int32} {j : Nat} (hi : ix i j) (hj : j < n) (hdg : decode cc pc = .ok (.baload, 1))
    (kk : W p l e R s m args below meth c H locs cells slots Q (F0 m (pc + 1) ls (.int (M.1 a j) :: rest))) : W p l e R s m args below meth c H locs cells slots Q (F0 m pc ls (.int i :: .ref (B + a) :: rest)) := by
  obtain ⟨h1, rfl⟩ := hi
  exact va_bald F.1 F.2.1 w.1 w.2.1 a 0 (cA := cy 0) (n := n) (f := M.1 a) (by rw [wl_at (kd_lt hk (by decide))]; simp only [shp, hk]) rfl (vpi h1 hj) hdg kk
theorem g_bast (F : CallFix p m c cc nL s args TB own) (w : Wd D B cy s H0 M H locs) {a n b : Nat} (hk : kd a = (20, n, b)) {i x : Int32} {j : Nat} (hi : ix i j) (hj : j < n) (hdg : decode cc pc = .ok (.bastore, 1))
    (kk : ∀ (H1 : Heap) (locs1 : List Loc), Wd D B cy s H0 (st M a j (vp_nar .byte x)) H1 locs1 → W p l e R s m args below meth c H1 locs1 cells slots Q (F0 m (pc + 1) ls rest)) : W p l e R s m args below meth c H locs cells slots Q (F0 m pc ls (.int x :: .int i :: .ref (B + a) :: rest)) := by
  obtain ⟨h1, rfl⟩ := hi
  refine va_bast F.1 F.2.1 w.1 w.2.1 (wl_D B cy M) w.2.2.1 a 0 (cA := cy 0) (n := n) (f := M.1 a) (by rw [wl_at (kd_lt hk (by decide))]; simp only [shp, hk]) rfl (vpi h1 hj) hdg fun H1 locs1 hP _ hS => kk H1 locs1 ⟨w.1, ?_, hS, w.2.2.2⟩
  rw [wl_sA (f := upd (M.1 a) i.toNatClampNeg (vp_nar .byte x)) (kd_lt hk (by decide)) (by simp only [shp, hk])] at hP
  exact hP
theorem g_cald (F : CallFix p m c cc nL s args TB own) (w : Wd D B cy s H0 M H locs) {a n b : Nat} (hk : kd a = (21, n, b)) {i : Int32} {j : Nat} (hi : ix i j) (hj : j < n) (hdg : decode cc pc = .ok (.caload, 1))
    (kk : W p l e R s m args below meth c H locs cells slots Q (F0 m (pc + 1) ls (.int (M.1 a j) :: rest))) : W p l e R s m args below meth c H locs cells slots Q (F0 m pc ls (.int i :: .ref (B + a) :: rest)) := by
  obtain ⟨h1, rfl⟩ := hi
  exact va_cald F.1 F.2.1 w.1 w.2.1 a 1 (cA := cy 1) (n := n) (f := M.1 a) (by rw [wl_at (kd_lt hk (by decide))]; simp only [shp, hk]) rfl (vpi h1 hj) hdg kk
theorem g_cast (F : CallFix p m c cc nL s args TB own) (w : Wd D B cy s H0 M H locs) {a n b : Nat} (hk : kd a = (21, n, b)) {i x : Int32} {j : Nat} (hi : ix i j) (hj : j < n) (hdg : decode cc pc = .ok (.castore, 1))
    (kk : ∀ (H1 : Heap) (locs1 : List Loc), Wd D B cy s H0 (st M a j (vp_nar .char x)) H1 locs1 → W p l e R s m args below meth c H1 locs1 cells slots Q (F0 m (pc + 1) ls rest)) : W p l e R s m args below meth c H locs cells slots Q (F0 m pc ls (.int x :: .int i :: .ref (B + a) :: rest)) := by
  obtain ⟨h1, rfl⟩ := hi
  refine va_cast F.1 F.2.1 w.1 w.2.1 (wl_D B cy M) w.2.2.1 a 1 (cA := cy 1) (n := n) (f := M.1 a) (by rw [wl_at (kd_lt hk (by decide))]; simp only [shp, hk]) rfl (vpi h1 hj) hdg fun H1 locs1 hP _ hS => kk H1 locs1 ⟨w.1, ?_, hS, w.2.2.2⟩
  rw [wl_sA (f := upd (M.1 a) i.toNatClampNeg (vp_nar .char x)) (kd_lt hk (by decide)) (by simp only [shp, hk])] at hP
  exact hP
theorem g_lald (F : CallFix p m c cc nL s args TB own) (w : Wd D B cy s H0 M H locs) {a n b : Nat} (hk : kd a = (23, n, b)) {i : Int32} {j : Nat} (hi : ix i j) (hj : j < n) (hdg : decode cc pc = .ok (.laload, 1))
    (kk : W p l e R s m args below meth c H locs cells slots Q (F0 m (pc + 1) ls (.long (M.2 a j) :: rest))) : W p l e R s m args below meth c H locs cells slots Q (F0 m pc ls (.int i :: .ref (B + a) :: rest)) := by
  obtain ⟨h1, rfl⟩ := hi
  exact va_lald F.1 F.2.1 w.1 w.2.1 a 3 (cA := cy 3) (n := n) (f := M.2 a) (by rw [wl_at (kd_lt hk (by decide))]; simp only [shp, hk]) rfl (vpi h1 hj) hdg kk
theorem g_last (F : CallFix p m c cc nL s args TB own) (w : Wd D B cy s H0 M H locs) {a n b : Nat} (hk : kd a = (23, n, b)) {i : Int32} {x : Int64} {j : Nat} (hi : ix i j) (hj : j < n) (hdg : decode cc pc = .ok (.lastore, 1))
    (kk : ∀ (H1 : Heap) (locs1 : List Loc), Wd D B cy s H0 (sL M a j x) H1 locs1 → W p l e R s m args below meth c H1 locs1 cells slots Q (F0 m (pc + 1) ls rest)) : W p l e R s m args below meth c H locs cells slots Q (F0 m pc ls (.long x :: .int i :: .ref (B + a) :: rest)) := by
  obtain ⟨h1, rfl⟩ := hi
  refine va_last F.1 F.2.1 w.1 w.2.1 (wl_D B cy M) w.2.2.1 a 3 (cA := cy 3) (n := n) (f := M.2 a) (by rw [wl_at (kd_lt hk (by decide))]; simp only [shp, hk]) rfl (vpi h1 hj) hdg fun H1 locs1 hP _ hS => kk H1 locs1 ⟨w.1, ?_, hS, w.2.2.2⟩
  rw [wl_sL (k := i.toNatClampNeg) (x := x) (kd_lt hk (by decide)) (by simp only [shp, hk])] at hP
  exact hP
/-- rows of rules, of words: where the one asked for lies -/
theorem g_aldR (F : CallFix p m c cc nL s args TB own) (w : Wd D B cy s H0 M H locs) {a n b : Nat} (hk : kd a = (24, n, b)) {i : Int32} {j o : Nat} (ho : b + 2 * j = o) (hi : ix i j) (hj : j < n) (hdg : decode cc pc = .ok (.aaload, 1))
    (kk : W p l e R s m args below meth c H locs cells slots Q (F0 m (pc + 1) ls (.ref (B + o) :: rest))) : W p l e R s m args below meth c H locs cells slots Q (F0 m pc ls (.int i :: .ref (B + a) :: rest)) :=  by
  subst ho
  obtain ⟨h1, rfl⟩ := hi
  exact va_aldq F.1 F.2.1 w.1 w.2.1 a 4 (cA := cy 4) (n := n) (f := fun i => some (B + (b + 2 * i))) (by rw [wl_at (kd_lt hk (by decide))]; simp only [shp, hk]) rfl (vpi h1 hj) hdg kk
theorem g_aldW (F : CallFix p m c cc nL s args TB own) (w : Wd D B cy s H0 M H locs) {a n b : Nat} (hk : kd a = (25, n, b)) {i : Int32} {j o : Nat} (ho : b + 3 * j = o) (hi : ix i j) (hj : j < n) (hdg : decode cc pc = .ok (.aaload, 1))
    (kk : W p l e R s m args below meth c H locs cells slots Q (F0 m (pc + 1) ls (.ref (B + o) :: rest))) : W p l e R s m args below meth c H locs cells slots Q (F0 m pc ls (.int i :: .ref (B + a) :: rest)) :=  by
  subst ho
  obtain ⟨h1, rfl⟩ := hi
  exact va_aldq F.1 F.2.1 w.1 w.2.1 a 5 (cA := cy 5) (n := n) (f := fun i => some (B + (b + 3 * i))) (by rw [wl_at (kd_lt hk (by decide))]; simp only [shp, hk]) rfl (vpi h1 hj) hdg kk
theorem g_copyi (F : CallFix p m c cc nL s args TB own) (w : Wd D B cy s H0 M H locs) {a0 a1 n0 n1 b0 b1 idx : Nat} (hk0 : kd a0 = (22, n0, b0)) (hk1 : kd a1 = (22, n1, b1)) (hls : ls.size = nL) (hlink : Cond.methodLink own idx arraycopyName ∈ TB) (hnat : Cond.native arraycopyName ∈ TB) (hstat : Cond.static arraycopyName ∈ TB) (hini : Cond.initialized "java/lang/System" ∈ TB)
    {sp dp n : Int32} (h1 : ¬ sp < 0) (h2 : ¬ dp < 0) (h3 : ¬ n < 0) (h4 : sp.toNatClampNeg + n.toNatClampNeg ≤ n0) (h5 : dp.toNatClampNeg + n.toNatClampNeg ≤ n1) (hframes : 1 ≤ R.frames) (hlocals : (rest.map fun v => v.category).sum + (nativeFrameWords "java/lang/System" "arraycopy" 5 + 11) ≤ R.locals) (hdg : decode cc pc = .ok (.invokestatic idx, 3))
    (kk : ∀ (H1 : Heap) (locs1 : List Loc), Wd D B cy s H0 (sA M a1 (va_cpy (M.1 a0) (M.1 a1) sp.toNatClampNeg dp.toNatClampNeg n.toNatClampNeg)) H1 locs1 → W p l e R s m args below meth c H1 locs1 cells slots Q (F0 m (pc + 3) ls rest)) : W p l e R s m args below meth c H locs cells slots Q (F0 m pc ls (.int n :: .int dp :: .ref (B + a1) :: .int sp :: .ref (B + a0) :: rest)) := by
  refine va_copyi F.1 F.2.1 (F.2.2.1.trans hls.symm) F.2.2.2.1 (F.2.2.2.2 _ hlink) (F.2.2.2.2 _ hnat) (F.2.2.2.2 _ hstat) (F.2.2.2.2 _ hini) w.1 w.2.1 (wl_D B cy M) w.2.2.1 a0 a1 2 2 (c0 := cy 2) (c1 := cy 2) (n0 := n0) (n1 := n1) (f := M.1 a0) (g := M.1 a1) (ty := .int) (by rw [wl_at (kd_lt hk0 (by decide))]; simp only [shp, hk0]) (by rw [wl_at (kd_lt hk1 (by decide))]; simp only [shp, hk1]) rfl rfl rfl h1 h2 h3 h4 h5 (fun i _ => rfl) hframes hlocals hdg fun H1 locs1 hP _ hS => kk H1 locs1 ⟨w.1, ?_, hS, w.2.2.2⟩
  rw [wl_sA (f := va_cpy (M.1 a0) (M.1 a1) sp.toNatClampNeg dp.toNatClampNeg n.toNatClampNeg) (kd_lt hk1 (by decide)) (by simp only [shp, hk1])] at hP
  exact hP
theorem g_alen (F : CallFix p m c cc nL s args TB own) (w : Wd D B cy s H0 M H locs) {a t : Nat} {cA : ClassId} {x : vp_A} {ty : FieldType} (ha : a < 159) (he : shp B cy a (M.1 a) (M.2 a) = .inl (cA, x)) (ht : (tys cy)[t]? = some (cA, ty)) {v : Int32} (hv : Int32.ofNat x.1 = v) (hdg : decode cc pc = .ok (.arraylength, 1))
    (kk : W p l e R s m args below meth c H locs cells slots Q (F0 m (pc + 1) ls (.int v :: rest))) : W p l e R s m args below meth c H locs cells slots Q (F0 m pc ls (.ref (B + a) :: rest)) :=
  va_alen F.1 F.2.1 w.1 w.2.1 a t (by rw [wl_at ha, he]) ht hv hdg kk
theorem g_min (F : CallFix p m c cc nL s args TB own) {idx : Nat} {x y v : Int32} (hls : ls.size = nL) (hlink : Cond.methodLink own idx Lib.Math.min.name ∈ TB) (hstat : Cond.static Lib.Math.min.name ∈ TB) (hini : Cond.initialized "java/lang/Math" ∈ TB) (hcode : Cond.code Lib.Math.min.name Lib.Math.min.code 2 (some .int) ∈ TB) (hframes : 1 ≤ R.frames) (hlocals : (rest.map fun v => v.category).sum + 13 ≤ R.locals) (hc : cells ≤ R.cells) (hs : slots ≤ R.slots) (hv : (if y < x then y else x) = v) (hdg : decode cc pc = .ok (.invokestatic idx, 3))
    (kk : W p l e R s m args below meth c H locs cells slots Q (F0 m (pc + 3) ls (.int v :: rest))) : W p l e R s m args below meth c H locs cells slots Q (F0 m pc ls (.int y :: .int x :: rest)) := by
  subst hv
  exact va_mmin F.1 F.2.1 (F.2.2.1.trans hls.symm) F.2.2.2.1 (F.2.2.2.2 _ hlink) (F.2.2.2.2 _ hstat) (F.2.2.2.2 _ hini) (F.2.2.2.2 _ hcode) hframes hlocals hc hs hdg kk
theorem g_max (F : CallFix p m c cc nL s args TB own) {idx : Nat} {x y v : Int32} (hls : ls.size = nL) (hlink : Cond.methodLink own idx Lib.Math.max.name ∈ TB) (hstat : Cond.static Lib.Math.max.name ∈ TB) (hini : Cond.initialized "java/lang/Math" ∈ TB) (hcode : Cond.code Lib.Math.max.name Lib.Math.max.code 2 (some .int) ∈ TB) (hframes : 1 ≤ R.frames) (hlocals : (rest.map fun v => v.category).sum + 13 ≤ R.locals) (hc : cells ≤ R.cells) (hs : slots ≤ R.slots) (hv : (if x < y then y else x) = v) (hdg : decode cc pc = .ok (.invokestatic idx, 3))
    (kk : W p l e R s m args below meth c H locs cells slots Q (F0 m (pc + 3) ls (.int v :: rest))) : W p l e R s m args below meth c H locs cells slots Q (F0 m pc ls (.int y :: .int x :: rest)) := by
  subst hv
  exact va_mmax F.1 F.2.1 (F.2.2.1.trans hls.symm) F.2.2.2.1 (F.2.2.2.2 _ hlink) (F.2.2.2.2 _ hstat) (F.2.2.2.2 _ hini) (F.2.2.2.2 _ hcode) hframes hlocals hc hs hdg kk
/-- ends -/
theorem e_i {post : Int32 → Mem → Prop} {v : Int32} (F : CallFix p m c cc nL s args TB own) (w : Wd D B cy s s.heap M H locs) (hr : meth.sig.returnType = some .int) (hlocks : meth.locks = false) (hp : post v M) (hdg : decode cc pc = .ok (.ireturn, 1)) : W p l e R s m args below meth c H locs cells slots (MQ below (va_Qi post (fun M' t => Wp D B cy M' t) (fun q => B ≤ q)) args s cells slots (fun q => B ≤ q)) (F0 m pc ls [.int v]) :=
  W.iret F.1 F.2.1 hr (fun t ht hW => ⟨⟨v, M, rfl, hp, va_K.moved hW.alike w.1, by rw [ht]; exact w.2.1, by rw [ht]; exact Nz_to hW w.2.2.2 w.2.2.1.2.1⟩, w.2.2.1.F ht⟩) w.2.2.1.2.2 hdg hlocks
theorem e_z {post : Int32 → Mem → Prop} {v : Int32} {ty : FieldType} (F : CallFix p m c cc nL s args TB own) (w : Wd D B cy s s.heap M H locs) (hr : meth.sig.returnType = some ty) (hlocks : meth.locks = false) (hn : narrow ty (.int v) = .int v) (hp : post v M) (hdg : decode cc pc = .ok (.ireturn, 1)) : W p l e R s m args below meth c H locs cells slots (MQ below (va_Qi post (fun M' t => Wp D B cy M' t) (fun q => B ≤ q)) args s cells slots (fun q => B ≤ q)) (F0 m pc ls [.int v]) :=
  W.zret F.1 F.2.1 hr hn (fun t ht hW => ⟨⟨v, M, rfl, hp, va_K.moved hW.alike w.1, by rw [ht]; exact w.2.1, by rw [ht]; exact Nz_to hW w.2.2.2 w.2.2.1.2.1⟩, w.2.2.1.F ht⟩) w.2.2.1.2.2 hdg hlocks
theorem e_v {post : Mem → Prop} (F : CallFix p m c cc nL s args TB own) (w : Wd D B cy s s.heap M H locs) (hr : meth.sig.returnType = none) (hlocks : meth.locks = false) (hp : post M) (hdg : decode cc pc = .ok (.return_, 1)) : W p l e R s m args below meth c H locs cells slots (MQ below (va_Qv post (fun M' t => Wp D B cy M' t) (fun q => B ≤ q)) args s cells slots (fun q => B ≤ q)) (F0 m pc ls []) :=
  W.vret F.1 F.2.1 hr (fun t ht hW => ⟨⟨M, rfl, hp, va_K.moved hW.alike w.1, by rw [ht]; exact w.2.1, by rw [ht]; exact Nz_to hW w.2.2.2 w.2.2.1.2.1⟩, w.2.2.1.F ht⟩) w.2.2.1.2.2 hdg hlocks
theorem e_l {post : Int64 → Mem → Prop} {v : Int64} (F : CallFix p m c cc nL s args TB own) (w : Wd D B cy s s.heap M H locs) (hr : meth.sig.returnType = some .long) (hlocks : meth.locks = false) (hp : post v M) (hdg : decode cc pc = .ok (.lreturn, 1)) : W p l e R s m args below meth c H locs cells slots (MQ below (va_Ql post (fun M' t => Wp D B cy M' t) (fun q => B ≤ q)) args s cells slots (fun q => B ≤ q)) (F0 m pc ls [.long v]) :=
  W.lret F.1 F.2.1 hr (fun t ht hW => ⟨⟨v, M, rfl, hp, va_K.moved hW.alike w.1, by rw [ht]; exact w.2.1, by rw [ht]; exact Nz_to hW w.2.2.2 w.2.2.1.2.1⟩, w.2.2.1.F ht⟩) w.2.2.1.2.2 hdg hlocks
end Rows
theorem Wp_blind {D : va_G} {B : Nat} {cy : Nat → ClassId} {M : Mem} {av : List Value} : FrameBlind (va_Pc av (Wp D B cy M)) := fun a U g mk q => ⟨q.1, va_K.moved (u := U) (U := U.calling g mk a) (Vm.Alike.refl U.vm) q.2.1, q.2.2.1, Nz_same (s := U) (U := U.calling g mk a) rfl (Vm.Alike.refl U.vm) q.2.2.2⟩
theorem Wd_pre {D : va_G} {B : Nat} {cy : Nat → ClassId} {M : Mem} {s U : State} {H0 H : Heap} {locs : List Loc} (w : Wd D B cy s H0 M H locs) (hU : U.heap = H) (hW : s.WarmedH U.vm) : Wp D B cy M U := ⟨va_K.moved hW.alike w.1, by rw [hU]; exact w.2.1, by rw [hU]; exact Nz_to hW w.2.2.2 w.2.2.1.2.1⟩
theorem st_same {M : Mem} {a k : Nat} {x : Int32} (h : M.1 a k = x) : st M a k x = M := by
  refine Prod.ext (funext fun b => ?_) rfl
  show (if b = a then upd (M.1 a) k x else M.1 b) = M.1 b
  by_cases hb : b = a
  · subst hb
    rw [if_pos rfl]
    funext j
    by_cases hj : j = k
    · subst hj; simp [upd, h]
    · simp [upd, hj]
  · rw [if_neg hb]
theorem sL_same {M : Mem} {a k : Nat} {x : Int64} (h : M.2 a k = x) : sL M a k x = M := by
  refine Prod.ext rfl (funext fun b => ?_)
  show (if b = a then vp_updL (M.2 a) k x else M.2 b) = M.2 b
  by_cases hb : b = a
  · subst hb
    rw [if_pos rfl]
    funext j
    by_cases hj : j = k
    · subst hj; simp [vp_updL, h]
    · simp [vp_updL, hj]
  · rw [if_neg hb]
theorem cp_same {M : Mem} {a0 a1 n : Nat} (h : ∀ k, k < n → M.1 a0 k = M.1 a1 k) : sA M a1 (va_cpy (M.1 a0) (M.1 a1) 0 0 n) = M := by
  refine Prod.ext (funext fun b => ?_) rfl
  show (if b = a1 then va_cpy (M.1 a0) (M.1 a1) 0 0 n else M.1 b) = M.1 b
  by_cases hb : b = a1
  · subst hb
    rw [if_pos rfl]
    funext j
    by_cases hj : j < n
    · simp [va_cpy, hj, h j hj]
    · simp [va_cpy, hj]
  · rw [if_neg hb]
theorem st_at {M : Mem} {a k : Nat} {x : Int32} : (st M a k x).1 a k = x := by simp [st, sA, upd]
theorem st_ne {M : Mem} {a k b j : Nat} {x : Int32} (h : b ≠ a ∨ j ≠ k) : (st M a k x).1 b j = M.1 b j := by
  rcases h with h | h
  · simp [st, sA, h]
  · by_cases hb : b = a
    · subst hb; simp [st, sA, upd, h]
    · simp [st, sA, hb]
theorem st_2 {M : Mem} {a k b j : Nat} {x : Int32} : (st M a k x).2 b j = M.2 b j := rfl
section Rows2
variable {p : Program} {l : Launch} {e : Env} {R : Room} {s : State} {m : MethodId} {args : Array Value} {below : List Frame} {meth : Method} {c : Code} {H : Heap} {locs : List Loc} {cells slots : Nat} {Q : State → Prop}
variable {cc : ByteArray} {pc : Nat} {ls : Array Slot} {rest : List Value} {D : va_G} {B : Nat} {cy : Nat → ClassId} {M : Mem} {H0 : Heap} {own : String} {nL : Nat}
theorem s_any {y : MethodName} {n : Nat} {ret : Option FieldType} {fr lo : Nat} {av : List Value} {Qc : Array Value → State → Outcome → State → Prop} (hy : plainName y.cls = true) (hn : (lg_sl av).length ≤ n)
    (body : ∀ (p : Program) (e : Env) (s : State) (m : MethodId) (below : List Frame) (meth : Method) (c : Code) (ls : Array Slot), CallFix p m c cc n s av.toArray TB y.cls → meth.sig.returnType = ret → meth.locks = false → Wd D B cy s s.heap M s.heap [] → lv_has ls n (lv_args 0 av) → W p l e (rmm fr lo) s m av.toArray below meth c s.heap [] 0 0 (MQ below Qc av.toArray s 0 0 (fun q => B ≤ q)) (F0 m 0 ls [])) : Met l y (cw y cc n ret) (rmm fr lo) (va_Pc av (Wp D B cy M)) Qc 0 0 (fun q => B ≤ q) := by
  refine Met.ofW (cc := cc) (maxL := n) (ret := ret) hy rfl ?_
  intro p e s m args below meth c s₁ Bd hml hv
  obtain ⟨rfl, hK, hP, hN⟩ := hv
  have hts := atoms_spec (ws := cw y cc n ret) Bd.pre
  have hown : s.vm.findClass y.cls = some m.cls := findClass_of_methodNamed Bd.named
  have hl := lv_entry av (n := n) hn
  rw [lg_entry_eq]
  exact body p e s m below meth c _ ⟨Bd.exec, Bd.bytes, hml, hown, fun w hw => hts w (List.mem_cons_of_mem _ hw)⟩ Bd.returns Bd.notSynchronized ⟨hK, hP, va_S.rf, hN⟩ hl
theorem e_r {post : Nat → Mem → Prop} {b : Nat} {C : String} (F : CallFix p m c cc nL s args TB own) (w : Wd D B cy s s.heap M H locs) (hr : meth.sig.returnType = some (.object C)) (hlocks : meth.locks = false) (hp : post b M) (hdg : decode cc pc = .ok (.areturn, 1)) : W p l e R s m args below meth c H locs cells slots (MQ below (va_Qr (S := Mem × Nat) (fun u => post u.2 u.1) (fun u ra t => Wp D B cy u.1 t ∧ ra = B + u.2) (fun q => B ≤ q)) args s cells slots (fun q => B ≤ q)) (F0 m pc ls [.ref (B + b)]) :=
  W.aret F.1 F.2.1 hr (Or.inl ⟨_, rfl⟩) (Or.inr ⟨_, rfl⟩) (fun t ht hW => ⟨⟨(M, b), B + b, rfl, hp, Wd_pre w ht hW, rfl⟩, w.2.2.1.F ht⟩) w.2.2.1.2.2 hdg hlocks
theorem k_Vi (F : CallFix p m c cc nL s args TB own) (w : Wd D B cy s H0 M H locs) {y : MethodName} {c1 : ByteArray} {n1 : Nat} {ret1 : Option FieldType} {fr lo idx : Nat} {As st0 : List Value} {post : Int32 → Mem → Prop} {a ci : Nat} {C : String} {T : u_T} {N : Nat} {fs : List Value} (ha : a < 159) (he : shp B cy a (M.1 a) (M.2 a) = .inr (ci, fs)) (hc : vwCl[ci]? = some (C, T, N)) (hM : Ci l D B cy y c1 n1 ret1 fr lo (.ref (B + a) :: As) M post) (hG : GoodIn TB (wsV own idx C y (cw y c1 n1 ret1))) (hd : y.cls = C ∧ y.cls ≠ "java/lang/invoke/MethodHandle" ∧ y.cls ≠ "java/lang/invoke/VarHandle" ∧ (parseMethodDescriptor y.desc).map (fun d => d.parameters.length) = some As.length) (hR : fr + 1 ≤ R.frames ∧ 8 + (n1 + 11) + lo ≤ R.locals) (hls : ls.size = nL) (hst : st0 = As.reverse ++ .ref (B + a) :: rest) (hcat : (rest.map fun v => v.category).sum ≤ 8) (hcs : cells ≤ R.cells ∧ slots ≤ R.slots) (hdg : decode cc pc = .ok (.invokevirtual idx, 3))
    (kk : ∀ (r : Int32) (M1 : Mem) (H1 : Heap) (locs1 : List Loc), post r M1 → Wd D B cy s H0 M1 H1 locs1 → W p l e R s m args below meth c H1 locs1 cells slots Q (F0 m (pc + 3) ls (.int r :: rest))) : W p l e R s m args below meth c H locs cells slots Q (F0 m pc ls st0) := by
  refine va_calli (va_runV (As := As) (rest := rest) F hM (cwV As.length F.2.2.2.2 hG rfl rfl rfl hd hR) ⟨Wp_blind, va_recv w.1 w.2.1 (ci := ci) (q0 := a) hc (by rw [wl_at ha, he]), fun U hU hW => ⟨rfl, Wd_pre w hU hW⟩⟩ rfl rfl hls hst (lv_room hcat) hdg hcs) w.2.2.1 (fun q _ h => h) (fun q h => h) (fun r u t H1 locs1 ht hvm hp hB hz hk hS => ?_)
  exact kk r u H1 locs1 hp ⟨w.1, by rw [← ht]; exact hB.2.1, hS, w.2.2.2⟩
theorem x_Vi (F : CallFix p m c cc nL s args TB own) (w : Wd D B cy s H0 M H locs) {y : MethodName} {c1 : ByteArray} {n1 : Nat} {ret1 : Option FieldType} {fr lo idx : Nat} {As st0 : List Value} {rv : Int32} {M2 : Mem} {a ci : Nat} {C : String} {T : u_T} {N : Nat} {fs : List Value} (ha : a < 159) (he : shp B cy a (M.1 a) (M.2 a) = .inr (ci, fs)) (hc : vwCl[ci]? = some (C, T, N)) (hM : Ci l D B cy y c1 n1 ret1 fr lo (.ref (B + a) :: As) M (fun r M1 => r = rv ∧ M1 = M2)) (hG : GoodIn TB (wsV own idx C y (cw y c1 n1 ret1))) (hd : y.cls = C ∧ y.cls ≠ "java/lang/invoke/MethodHandle" ∧ y.cls ≠ "java/lang/invoke/VarHandle" ∧ (parseMethodDescriptor y.desc).map (fun d => d.parameters.length) = some As.length) (hR : fr + 1 ≤ R.frames ∧ 8 + (n1 + 11) + lo ≤ R.locals) (hls : ls.size = nL) (hst : st0 = As.reverse ++ .ref (B + a) :: rest) (hcat : (rest.map fun v => v.category).sum ≤ 8) (hcs : cells ≤ R.cells ∧ slots ≤ R.slots) (hdg : decode cc pc = .ok (.invokevirtual idx, 3))
    (kk : ∀ (H1 : Heap) (locs1 : List Loc), Wd D B cy s H0 M2 H1 locs1 → W p l e R s m args below meth c H1 locs1 cells slots Q (F0 m (pc + 3) ls (.int rv :: rest))) : W p l e R s m args below meth c H locs cells slots Q (F0 m pc ls st0) :=
  k_Vi F w ha he hc hM hG hd hR hls hst hcat hcs hdg (fun r M1 H1 locs1 hp w1 => by obtain ⟨h1, h2⟩ := hp; subst h1; subst h2; exact kk H1 locs1 w1)
theorem k_Vv (F : CallFix p m c cc nL s args TB own) (w : Wd D B cy s H0 M H locs) {y : MethodName} {c1 : ByteArray} {n1 : Nat} {fr lo idx : Nat} {As st0 : List Value} {post : Mem → Prop} {a ci : Nat} {C : String} {T : u_T} {N : Nat} {fs : List Value} (ha : a < 159) (he : shp B cy a (M.1 a) (M.2 a) = .inr (ci, fs)) (hc : vwCl[ci]? = some (C, T, N)) (hM : Cv l D B cy y c1 n1 fr lo (.ref (B + a) :: As) M post) (hG : GoodIn TB (wsV own idx C y (cw y c1 n1 none))) (hd : y.cls = C ∧ y.cls ≠ "java/lang/invoke/MethodHandle" ∧ y.cls ≠ "java/lang/invoke/VarHandle" ∧ (parseMethodDescriptor y.desc).map (fun d => d.parameters.length) = some As.length) (hR : fr + 1 ≤ R.frames ∧ 8 + (n1 + 11) + lo ≤ R.locals) (hls : ls.size = nL) (hst : st0 = As.reverse ++ .ref (B + a) :: rest) (hcat : (rest.map fun v => v.category).sum ≤ 8) (hcs : cells ≤ R.cells ∧ slots ≤ R.slots) (hdg : decode cc pc = .ok (.invokevirtual idx, 3))
    (kk : ∀ (M1 : Mem) (H1 : Heap) (locs1 : List Loc), post M1 → Wd D B cy s H0 M1 H1 locs1 → W p l e R s m args below meth c H1 locs1 cells slots Q (F0 m (pc + 3) ls rest)) : W p l e R s m args below meth c H locs cells slots Q (F0 m pc ls st0) := by
  refine va_callv (va_runV (As := As) (rest := rest) F hM (cwV As.length F.2.2.2.2 hG rfl rfl rfl hd hR) ⟨Wp_blind, va_recv w.1 w.2.1 (ci := ci) (q0 := a) hc (by rw [wl_at ha, he]), fun U hU hW => ⟨rfl, Wd_pre w hU hW⟩⟩ rfl rfl hls hst (lv_room hcat) hdg hcs) w.2.2.1 (fun q _ h => h) (fun q h => h) (fun u t H1 locs1 ht hvm hp hB hz hk hS => ?_)
  exact kk u H1 locs1 hp ⟨w.1, by rw [← ht]; exact hB.2.1, hS, w.2.2.2⟩
theorem x_Vv (F : CallFix p m c cc nL s args TB own) (w : Wd D B cy s H0 M H locs) {y : MethodName} {c1 : ByteArray} {n1 : Nat} {fr lo idx : Nat} {As st0 : List Value} {M2 : Mem} {a ci : Nat} {C : String} {T : u_T} {N : Nat} {fs : List Value} (ha : a < 159) (he : shp B cy a (M.1 a) (M.2 a) = .inr (ci, fs)) (hc : vwCl[ci]? = some (C, T, N)) (hM : Cv l D B cy y c1 n1 fr lo (.ref (B + a) :: As) M (fun M1 => M1 = M2)) (hG : GoodIn TB (wsV own idx C y (cw y c1 n1 none))) (hd : y.cls = C ∧ y.cls ≠ "java/lang/invoke/MethodHandle" ∧ y.cls ≠ "java/lang/invoke/VarHandle" ∧ (parseMethodDescriptor y.desc).map (fun d => d.parameters.length) = some As.length) (hR : fr + 1 ≤ R.frames ∧ 8 + (n1 + 11) + lo ≤ R.locals) (hls : ls.size = nL) (hst : st0 = As.reverse ++ .ref (B + a) :: rest) (hcat : (rest.map fun v => v.category).sum ≤ 8) (hcs : cells ≤ R.cells ∧ slots ≤ R.slots) (hdg : decode cc pc = .ok (.invokevirtual idx, 3))
    (kk : ∀ (H1 : Heap) (locs1 : List Loc), Wd D B cy s H0 M2 H1 locs1 → W p l e R s m args below meth c H1 locs1 cells slots Q (F0 m (pc + 3) ls rest)) : W p l e R s m args below meth c H locs cells slots Q (F0 m pc ls st0) :=
  k_Vv F w ha he hc hM hG hd hR hls hst hcat hcs hdg (fun M1 H1 locs1 hp w1 => by subst hp; exact kk H1 locs1 w1)
theorem k_Vl (F : CallFix p m c cc nL s args TB own) (w : Wd D B cy s H0 M H locs) {y : MethodName} {c1 : ByteArray} {n1 : Nat} {fr lo idx : Nat} {As st0 : List Value} {post : Int64 → Mem → Prop} {a ci : Nat} {C : String} {T : u_T} {N : Nat} {fs : List Value} (ha : a < 159) (he : shp B cy a (M.1 a) (M.2 a) = .inr (ci, fs)) (hc : vwCl[ci]? = some (C, T, N)) (hM : Cl l D B cy y c1 n1 fr lo (.ref (B + a) :: As) M post) (hG : GoodIn TB (wsV own idx C y (cw y c1 n1 (some .long)))) (hd : y.cls = C ∧ y.cls ≠ "java/lang/invoke/MethodHandle" ∧ y.cls ≠ "java/lang/invoke/VarHandle" ∧ (parseMethodDescriptor y.desc).map (fun d => d.parameters.length) = some As.length) (hR : fr + 1 ≤ R.frames ∧ 8 + (n1 + 11) + lo ≤ R.locals) (hls : ls.size = nL) (hst : st0 = As.reverse ++ .ref (B + a) :: rest) (hcat : (rest.map fun v => v.category).sum ≤ 8) (hcs : cells ≤ R.cells ∧ slots ≤ R.slots) (hdg : decode cc pc = .ok (.invokevirtual idx, 3))
    (kk : ∀ (r : Int64) (M1 : Mem) (H1 : Heap) (locs1 : List Loc), post r M1 → Wd D B cy s H0 M1 H1 locs1 → W p l e R s m args below meth c H1 locs1 cells slots Q (F0 m (pc + 3) ls (.long r :: rest))) : W p l e R s m args below meth c H locs cells slots Q (F0 m pc ls st0) := by
  refine va_calll (va_runV (As := As) (rest := rest) F hM (cwV As.length F.2.2.2.2 hG rfl rfl rfl hd hR) ⟨Wp_blind, va_recv w.1 w.2.1 (ci := ci) (q0 := a) hc (by rw [wl_at ha, he]), fun U hU hW => ⟨rfl, Wd_pre w hU hW⟩⟩ rfl rfl hls hst (lv_room hcat) hdg hcs) w.2.2.1 (fun q _ h => h) (fun q h => h) (fun r u t H1 locs1 ht hvm hp hB hz hk hS => ?_)
  exact kk r u H1 locs1 hp ⟨w.1, by rw [← ht]; exact hB.2.1, hS, w.2.2.2⟩
theorem x_Vl (F : CallFix p m c cc nL s args TB own) (w : Wd D B cy s H0 M H locs) {y : MethodName} {c1 : ByteArray} {n1 : Nat} {fr lo idx : Nat} {As st0 : List Value} {rv : Int64} {M2 : Mem} {a ci : Nat} {C : String} {T : u_T} {N : Nat} {fs : List Value} (ha : a < 159) (he : shp B cy a (M.1 a) (M.2 a) = .inr (ci, fs)) (hc : vwCl[ci]? = some (C, T, N)) (hM : Cl l D B cy y c1 n1 fr lo (.ref (B + a) :: As) M (fun r M1 => r = rv ∧ M1 = M2)) (hG : GoodIn TB (wsV own idx C y (cw y c1 n1 (some .long)))) (hd : y.cls = C ∧ y.cls ≠ "java/lang/invoke/MethodHandle" ∧ y.cls ≠ "java/lang/invoke/VarHandle" ∧ (parseMethodDescriptor y.desc).map (fun d => d.parameters.length) = some As.length) (hR : fr + 1 ≤ R.frames ∧ 8 + (n1 + 11) + lo ≤ R.locals) (hls : ls.size = nL) (hst : st0 = As.reverse ++ .ref (B + a) :: rest) (hcat : (rest.map fun v => v.category).sum ≤ 8) (hcs : cells ≤ R.cells ∧ slots ≤ R.slots) (hdg : decode cc pc = .ok (.invokevirtual idx, 3))
    (kk : ∀ (H1 : Heap) (locs1 : List Loc), Wd D B cy s H0 M2 H1 locs1 → W p l e R s m args below meth c H1 locs1 cells slots Q (F0 m (pc + 3) ls (.long rv :: rest))) : W p l e R s m args below meth c H locs cells slots Q (F0 m pc ls st0) :=
  k_Vl F w ha he hc hM hG hd hR hls hst hcat hcs hdg (fun r M1 H1 locs1 hp w1 => by obtain ⟨h1, h2⟩ := hp; subst h1; subst h2; exact kk H1 locs1 w1)
theorem k_Vr (F : CallFix p m c cc nL s args TB own) (w : Wd D B cy s H0 M H locs) {y : MethodName} {c1 : ByteArray} {n1 : Nat} {ret1 : Option FieldType} {fr lo idx : Nat} {As st0 : List Value} {post : Nat → Mem → Prop} {a ci : Nat} {C : String} {T : u_T} {N : Nat} {fs : List Value} (ha : a < 159) (he : shp B cy a (M.1 a) (M.2 a) = .inr (ci, fs)) (hc : vwCl[ci]? = some (C, T, N)) (hM : Cr l D B cy y c1 n1 ret1 fr lo (.ref (B + a) :: As) M post) (hG : GoodIn TB (wsV own idx C y (cw y c1 n1 ret1))) (hd : y.cls = C ∧ y.cls ≠ "java/lang/invoke/MethodHandle" ∧ y.cls ≠ "java/lang/invoke/VarHandle" ∧ (parseMethodDescriptor y.desc).map (fun d => d.parameters.length) = some As.length) (hR : fr + 1 ≤ R.frames ∧ 8 + (n1 + 11) + lo ≤ R.locals) (hls : ls.size = nL) (hst : st0 = As.reverse ++ .ref (B + a) :: rest) (hcat : (rest.map fun v => v.category).sum ≤ 8) (hcs : cells ≤ R.cells ∧ slots ≤ R.slots) (hdg : decode cc pc = .ok (.invokevirtual idx, 3))
    (kk : ∀ (r : Nat) (M1 : Mem) (H1 : Heap) (locs1 : List Loc), post r M1 → Wd D B cy s H0 M1 H1 locs1 → W p l e R s m args below meth c H1 locs1 cells slots Q (F0 m (pc + 3) ls (.ref (B + r) :: rest))) : W p l e R s m args below meth c H locs cells slots Q (F0 m pc ls st0) := by
  refine va_callr (va_runV (As := As) (rest := rest) F hM (cwV As.length F.2.2.2.2 hG rfl rfl rfl hd hR) ⟨Wp_blind, va_recv w.1 w.2.1 (ci := ci) (q0 := a) hc (by rw [wl_at ha, he]), fun U hU hW => ⟨rfl, Wd_pre w hU hW⟩⟩ rfl rfl hls hst (lv_room hcat) hdg hcs) w.2.2.1 (fun q _ h => h) (fun q h => h) (fun u ra t H1 locs1 ht hvm hp hB hz hk hS => ?_)
  obtain ⟨hB, rfl⟩ := hB
  exact kk u.2 u.1 H1 locs1 hp ⟨w.1, by rw [← ht]; exact hB.2.1, hS, w.2.2.2⟩
theorem x_Vr (F : CallFix p m c cc nL s args TB own) (w : Wd D B cy s H0 M H locs) {y : MethodName} {c1 : ByteArray} {n1 : Nat} {ret1 : Option FieldType} {fr lo idx : Nat} {As st0 : List Value} {rv : Nat} {M2 : Mem} {a ci : Nat} {C : String} {T : u_T} {N : Nat} {fs : List Value} (ha : a < 159) (he : shp B cy a (M.1 a) (M.2 a) = .inr (ci, fs)) (hc : vwCl[ci]? = some (C, T, N)) (hM : Cr l D B cy y c1 n1 ret1 fr lo (.ref (B + a) :: As) M (fun r M1 => r = rv ∧ M1 = M2)) (hG : GoodIn TB (wsV own idx C y (cw y c1 n1 ret1))) (hd : y.cls = C ∧ y.cls ≠ "java/lang/invoke/MethodHandle" ∧ y.cls ≠ "java/lang/invoke/VarHandle" ∧ (parseMethodDescriptor y.desc).map (fun d => d.parameters.length) = some As.length) (hR : fr + 1 ≤ R.frames ∧ 8 + (n1 + 11) + lo ≤ R.locals) (hls : ls.size = nL) (hst : st0 = As.reverse ++ .ref (B + a) :: rest) (hcat : (rest.map fun v => v.category).sum ≤ 8) (hcs : cells ≤ R.cells ∧ slots ≤ R.slots) (hdg : decode cc pc = .ok (.invokevirtual idx, 3))
    (kk : ∀ (H1 : Heap) (locs1 : List Loc), Wd D B cy s H0 M2 H1 locs1 → W p l e R s m args below meth c H1 locs1 cells slots Q (F0 m (pc + 3) ls (.ref (B + rv) :: rest))) : W p l e R s m args below meth c H locs cells slots Q (F0 m pc ls st0) :=
  k_Vr F w ha he hc hM hG hd hR hls hst hcat hcs hdg (fun r M1 H1 locs1 hp w1 => by obtain ⟨h1, h2⟩ := hp; subst h1; subst h2; exact kk H1 locs1 w1)
theorem k_Si (F : CallFix p m c cc nL s args TB own) (w : Wd D B cy s H0 M H locs) {y : MethodName} {c1 : ByteArray} {n1 : Nat} {ret1 : Option FieldType} {fr lo idx : Nat} {As st0 : List Value} {post : Int32 → Mem → Prop} (hM : Ci l D B cy y c1 n1 ret1 fr lo (As) M post) (hG : GoodIn TB (va_wsS own idx y (cw y c1 n1 ret1))) (hd : y.cls ≠ "java/lang/invoke/MethodHandle" ∧ y.cls ≠ "java/lang/invoke/VarHandle" ∧ (parseMethodDescriptor y.desc).map (fun d => d.parameters.length) = some As.length) (hR : fr + 1 ≤ R.frames ∧ 8 + (n1 + 11) + lo ≤ R.locals) (hls : ls.size = nL) (hst : st0 = As.reverse ++ rest) (hcat : (rest.map fun v => v.category).sum ≤ 8) (hcs : cells ≤ R.cells ∧ slots ≤ R.slots) (hdg : decode cc pc = .ok (.invokestatic idx, 3))
    (kk : ∀ (r : Int32) (M1 : Mem) (H1 : Heap) (locs1 : List Loc), post r M1 → Wd D B cy s H0 M1 H1 locs1 → W p l e R s m args below meth c H1 locs1 cells slots Q (F0 m (pc + 3) ls (.int r :: rest))) : W p l e R s m args below meth c H locs cells slots Q (F0 m pc ls st0) := by
  refine va_calli (va_runS (As := As) (rest := rest) F hM (va_cwS As.length F.2.2.2.2 hG rfl rfl rfl hd hR) ⟨Wp_blind, fun U hU hW => ⟨rfl, Wd_pre w hU hW⟩⟩ rfl rfl hls hst (lv_room hcat) hdg hcs) w.2.2.1 (fun q _ h => h) (fun q h => h) (fun r u t H1 locs1 ht hvm hp hB hz hk hS => ?_)
  exact kk r u H1 locs1 hp ⟨w.1, by rw [← ht]; exact hB.2.1, hS, w.2.2.2⟩
theorem x_Si (F : CallFix p m c cc nL s args TB own) (w : Wd D B cy s H0 M H locs) {y : MethodName} {c1 : ByteArray} {n1 : Nat} {ret1 : Option FieldType} {fr lo idx : Nat} {As st0 : List Value} {rv : Int32} {M2 : Mem} (hM : Ci l D B cy y c1 n1 ret1 fr lo (As) M (fun r M1 => r = rv ∧ M1 = M2)) (hG : GoodIn TB (va_wsS own idx y (cw y c1 n1 ret1))) (hd : y.cls ≠ "java/lang/invoke/MethodHandle" ∧ y.cls ≠ "java/lang/invoke/VarHandle" ∧ (parseMethodDescriptor y.desc).map (fun d => d.parameters.length) = some As.length) (hR : fr + 1 ≤ R.frames ∧ 8 + (n1 + 11) + lo ≤ R.locals) (hls : ls.size = nL) (hst : st0 = As.reverse ++ rest) (hcat : (rest.map fun v => v.category).sum ≤ 8) (hcs : cells ≤ R.cells ∧ slots ≤ R.slots) (hdg : decode cc pc = .ok (.invokestatic idx, 3))
    (kk : ∀ (H1 : Heap) (locs1 : List Loc), Wd D B cy s H0 M2 H1 locs1 → W p l e R s m args below meth c H1 locs1 cells slots Q (F0 m (pc + 3) ls (.int rv :: rest))) : W p l e R s m args below meth c H locs cells slots Q (F0 m pc ls st0) :=
  k_Si F w hM hG hd hR hls hst hcat hcs hdg (fun r M1 H1 locs1 hp w1 => by obtain ⟨h1, h2⟩ := hp; subst h1; subst h2; exact kk H1 locs1 w1)
theorem k_Sv (F : CallFix p m c cc nL s args TB own) (w : Wd D B cy s H0 M H locs) {y : MethodName} {c1 : ByteArray} {n1 : Nat} {fr lo idx : Nat} {As st0 : List Value} {post : Mem → Prop} (hM : Cv l D B cy y c1 n1 fr lo (As) M post) (hG : GoodIn TB (va_wsS own idx y (cw y c1 n1 none))) (hd : y.cls ≠ "java/lang/invoke/MethodHandle" ∧ y.cls ≠ "java/lang/invoke/VarHandle" ∧ (parseMethodDescriptor y.desc).map (fun d => d.parameters.length) = some As.length) (hR : fr + 1 ≤ R.frames ∧ 8 + (n1 + 11) + lo ≤ R.locals) (hls : ls.size = nL) (hst : st0 = As.reverse ++ rest) (hcat : (rest.map fun v => v.category).sum ≤ 8) (hcs : cells ≤ R.cells ∧ slots ≤ R.slots) (hdg : decode cc pc = .ok (.invokestatic idx, 3))
    (kk : ∀ (M1 : Mem) (H1 : Heap) (locs1 : List Loc), post M1 → Wd D B cy s H0 M1 H1 locs1 → W p l e R s m args below meth c H1 locs1 cells slots Q (F0 m (pc + 3) ls rest)) : W p l e R s m args below meth c H locs cells slots Q (F0 m pc ls st0) := by
  refine va_callv (va_runS (As := As) (rest := rest) F hM (va_cwS As.length F.2.2.2.2 hG rfl rfl rfl hd hR) ⟨Wp_blind, fun U hU hW => ⟨rfl, Wd_pre w hU hW⟩⟩ rfl rfl hls hst (lv_room hcat) hdg hcs) w.2.2.1 (fun q _ h => h) (fun q h => h) (fun u t H1 locs1 ht hvm hp hB hz hk hS => ?_)
  exact kk u H1 locs1 hp ⟨w.1, by rw [← ht]; exact hB.2.1, hS, w.2.2.2⟩
theorem x_Sv (F : CallFix p m c cc nL s args TB own) (w : Wd D B cy s H0 M H locs) {y : MethodName} {c1 : ByteArray} {n1 : Nat} {fr lo idx : Nat} {As st0 : List Value} {M2 : Mem} (hM : Cv l D B cy y c1 n1 fr lo (As) M (fun M1 => M1 = M2)) (hG : GoodIn TB (va_wsS own idx y (cw y c1 n1 none))) (hd : y.cls ≠ "java/lang/invoke/MethodHandle" ∧ y.cls ≠ "java/lang/invoke/VarHandle" ∧ (parseMethodDescriptor y.desc).map (fun d => d.parameters.length) = some As.length) (hR : fr + 1 ≤ R.frames ∧ 8 + (n1 + 11) + lo ≤ R.locals) (hls : ls.size = nL) (hst : st0 = As.reverse ++ rest) (hcat : (rest.map fun v => v.category).sum ≤ 8) (hcs : cells ≤ R.cells ∧ slots ≤ R.slots) (hdg : decode cc pc = .ok (.invokestatic idx, 3))
    (kk : ∀ (H1 : Heap) (locs1 : List Loc), Wd D B cy s H0 M2 H1 locs1 → W p l e R s m args below meth c H1 locs1 cells slots Q (F0 m (pc + 3) ls rest)) : W p l e R s m args below meth c H locs cells slots Q (F0 m pc ls st0) :=
  k_Sv F w hM hG hd hR hls hst hcat hcs hdg (fun M1 H1 locs1 hp w1 => by subst hp; exact kk H1 locs1 w1)
theorem k_Ni (F : CallFix p m c cc nL s args TB own) (w : Wd D B cy s H0 M H locs) {y : MethodName} {c1 : ByteArray} {n1 : Nat} {ret1 : Option FieldType} {fr lo idx : Nat} {As st0 : List Value} {post : Int32 → Mem → Prop} (hM : Ci l D B cy y c1 n1 ret1 fr lo (As) M post) (hG : GoodIn TB (cw y c1 n1 ret1)) (hni : Cond.initialized y.cls ∈ TB) (hns : Cond.static y ∈ TB) (hnl : (own, idx, y) ∈ NST) (hd : y.cls ≠ "java/lang/invoke/MethodHandle" ∧ y.cls ≠ "java/lang/invoke/VarHandle" ∧ (parseMethodDescriptor y.desc).map (fun d => d.parameters.length) = some As.length) (hR : fr + 1 ≤ R.frames ∧ 8 + (n1 + 11) + lo ≤ R.locals) (hls : ls.size = nL) (hst : st0 = As.reverse ++ rest) (hcat : (rest.map fun v => v.category).sum ≤ 8) (hcs : cells ≤ R.cells ∧ slots ≤ R.slots) (hdg : decode cc pc = .ok (.invokestatic idx, 3))
    (kk : ∀ (r : Int32) (M1 : Mem) (H1 : Heap) (locs1 : List Loc), post r M1 → Wd D B cy s H0 M1 H1 locs1 → W p l e R s m args below meth c H1 locs1 cells slots Q (F0 m (pc + 3) ls (.int r :: rest))) : W p l e R s m args below meth c H locs cells slots Q (F0 m pc ls st0) := by
  refine va_calli (va_runSN (host := "ToneLines") (As := As) (rest := rest) F hM ⟨va_cnB As.length F.2.2.2.2 hG rfl rfl rfl (w.2.2.2.1 _ hnl) (F.2.2.2.2 _ hni) hd hR, F.2.2.2.2 _ hns, trivial⟩ ⟨Wp_blind, fun U hU hW => ⟨rfl, Wd_pre w hU hW⟩⟩ rfl rfl hls hst (lv_room hcat) hdg hcs) w.2.2.1 (fun q _ h => h) (fun q h => h) (fun r u t H1 locs1 ht hvm hp hB hz hk hS => ?_)
  exact kk r u H1 locs1 hp ⟨w.1, by rw [← ht]; exact hB.2.1, hS, w.2.2.2⟩
theorem x_Ni (F : CallFix p m c cc nL s args TB own) (w : Wd D B cy s H0 M H locs) {y : MethodName} {c1 : ByteArray} {n1 : Nat} {ret1 : Option FieldType} {fr lo idx : Nat} {As st0 : List Value} {rv : Int32} {M2 : Mem} (hM : Ci l D B cy y c1 n1 ret1 fr lo (As) M (fun r M1 => r = rv ∧ M1 = M2)) (hG : GoodIn TB (cw y c1 n1 ret1)) (hni : Cond.initialized y.cls ∈ TB) (hns : Cond.static y ∈ TB) (hnl : (own, idx, y) ∈ NST) (hd : y.cls ≠ "java/lang/invoke/MethodHandle" ∧ y.cls ≠ "java/lang/invoke/VarHandle" ∧ (parseMethodDescriptor y.desc).map (fun d => d.parameters.length) = some As.length) (hR : fr + 1 ≤ R.frames ∧ 8 + (n1 + 11) + lo ≤ R.locals) (hls : ls.size = nL) (hst : st0 = As.reverse ++ rest) (hcat : (rest.map fun v => v.category).sum ≤ 8) (hcs : cells ≤ R.cells ∧ slots ≤ R.slots) (hdg : decode cc pc = .ok (.invokestatic idx, 3))
    (kk : ∀ (H1 : Heap) (locs1 : List Loc), Wd D B cy s H0 M2 H1 locs1 → W p l e R s m args below meth c H1 locs1 cells slots Q (F0 m (pc + 3) ls (.int rv :: rest))) : W p l e R s m args below meth c H locs cells slots Q (F0 m pc ls st0) :=
  k_Ni F w hM hG hni hns hnl hd hR hls hst hcat hcs hdg (fun r M1 H1 locs1 hp w1 => by obtain ⟨h1, h2⟩ := hp; subst h1; subst h2; exact kk H1 locs1 w1)
theorem k_Qi (F : CallFix p m c cc nL s args TB own) (w : Wd D B cy s s.heap M H locs) {y : MethodName} {c1 : ByteArray} {n1 : Nat} {ret1 : Option FieldType} {fr lo idx : Nat} {As st0 : List Value} {post : Int32 → Mem → Prop} {i : Nat} (hi : i < NSL) (hM : Ci l D B cy y c1 n1 ret1 fr lo (.ref (D.2 200 i) :: As) M post) (hG : GoodIn TB (wsV own idx "java/lang/String" y (cw y c1 n1 ret1))) (hd : y.cls = "java/lang/String" ∧ y.cls ≠ "java/lang/invoke/MethodHandle" ∧ y.cls ≠ "java/lang/invoke/VarHandle" ∧ (parseMethodDescriptor y.desc).map (fun d => d.parameters.length) = some As.length) (hR : fr + 1 ≤ R.frames ∧ 8 + (n1 + 11) + lo ≤ R.locals) (hls : ls.size = nL) (hst : st0 = As.reverse ++ .ref (D.2 200 i) :: rest) (hcat : (rest.map fun v => v.category).sum ≤ 8) (hcs : cells ≤ R.cells ∧ slots ≤ R.slots) (hdg : decode cc pc = .ok (.invokevirtual idx, 3))
    (kk : ∀ (r : Int32) (M1 : Mem) (H1 : Heap) (locs1 : List Loc), post r M1 → Wd D B cy s s.heap M1 H1 locs1 → W p l e R s m args below meth c H1 locs1 cells slots Q (F0 m (pc + 3) ls (.int r :: rest))) : W p l e R s m args below meth c H locs cells slots Q (F0 m pc ls st0) := by
  refine va_calli (va_runV (As := As) (rest := rest) F hM (cwV As.length F.2.2.2.2 hG rfl rfl rfl hd hR) ⟨Wp_blind, vk_recv ((w.2.2.2.2.1 i hi).2) Nat.one_pos w.2.2.1, fun U hU hW => ⟨rfl, Wd_pre w hU hW⟩⟩ rfl rfl hls hst (lv_room hcat) hdg hcs) w.2.2.1 (fun q _ h => h) (fun q h => h) (fun r u t H1 locs1 ht hvm hp hB hz hk hS => ?_)
  exact kk r u H1 locs1 hp ⟨w.1, by rw [← ht]; exact hB.2.1, hS, w.2.2.2⟩
theorem inT0 : ∀ w ∈ u_ws RX0 TX0 8, w ∈ TB := by
  intro w hw
  obtain ⟨k, hk, rfl⟩ := List.mem_map.mp hw
  have hk := List.mem_range.mp hk
  match k, hk with
  | 0, _ => exact tbm (tc1 (List.mem_of_getElem? (i := 185) rfl)) rfl
  | 1, _ => exact tbm (tc1 (List.mem_of_getElem? (i := 187) rfl)) rfl
  | 2, _ => exact tbm (tc1 (List.mem_of_getElem? (i := 189) rfl)) rfl
  | 3, _ => exact tbm (tc1 (List.mem_of_getElem? (i := 191) rfl)) rfl
  | 4, _ => exact tbm (tc1 (List.mem_of_getElem? (i := 193) rfl)) rfl
  | 5, _ => exact tbm (tc1 (List.mem_of_getElem? (i := 195) rfl)) rfl
  | 6, _ => exact tbm (tc1 (List.mem_of_getElem? (i := 197) rfl)) rfl
  | 7, _ => exact tbm (tc1 (List.mem_of_getElem? (i := 199) rfl)) rfl
  | k + 8, hk => omega
theorem inT1 : ∀ w ∈ u_ws RX1 TX1 1, w ∈ TB := by
  intro w hw
  obtain ⟨k, hk, rfl⟩ := List.mem_map.mp hw
  have hk := List.mem_range.mp hk
  match k, hk with
  | 0, _ => exact tbm (tc1 (List.mem_of_getElem? (i := 117) rfl)) rfl
  | k + 1, hk => omega
theorem inT2 : ∀ w ∈ u_ws RX2 TX2 3, w ∈ TB := by
  intro w hw
  obtain ⟨k, hk, rfl⟩ := List.mem_map.mp hw
  have hk := List.mem_range.mp hk
  match k, hk with
  | 0, _ => exact tbm (tc1 (List.mem_of_getElem? (i := 214) rfl)) rfl
  | 1, _ => exact tbm (tc1 (List.mem_of_getElem? (i := 216) rfl)) rfl
  | 2, _ => exact tbm (tc1 (List.mem_of_getElem? (i := 218) rfl)) rfl
  | k + 3, hk => omega
theorem inT3 : ∀ w ∈ u_ws RX3 TX3 7, w ∈ TB := by
  intro w hw
  obtain ⟨k, hk, rfl⟩ := List.mem_map.mp hw
  have hk := List.mem_range.mp hk
  match k, hk with
  | 0, _ => exact tbm (tc1 (List.mem_of_getElem? (i := 239) rfl)) rfl
  | 1, _ => exact tbm (tc2 (List.mem_of_getElem? (i := 1) rfl)) rfl
  | 2, _ => exact tbm (tc2 (List.mem_of_getElem? (i := 3) rfl)) rfl
  | 3, _ => exact tbm (tc2 (List.mem_of_getElem? (i := 5) rfl)) rfl
  | 4, _ => exact tbm (tc2 (List.mem_of_getElem? (i := 7) rfl)) rfl
  | 5, _ => exact tbm (tc2 (List.mem_of_getElem? (i := 9) rfl)) rfl
  | 6, _ => exact tbm (tc2 (List.mem_of_getElem? (i := 11) rfl)) rfl
  | k + 7, hk => omega
theorem inT4 : ∀ w ∈ u_ws RX4 TX4 1, w ∈ TB := by
  intro w hw
  obtain ⟨k, hk, rfl⟩ := List.mem_map.mp hw
  have hk := List.mem_range.mp hk
  match k, hk with
  | 0, _ => exact tbm (tc1 (List.mem_of_getElem? (i := 78) rfl)) rfl
  | k + 1, hk => omega
theorem inT5 : ∀ w ∈ u_ws RX5 TX5 6, w ∈ TB := by
  intro w hw
  obtain ⟨k, hk, rfl⟩ := List.mem_map.mp hw
  have hk := List.mem_range.mp hk
  match k, hk with
  | 0, _ => exact tbm (tc1 (List.mem_of_getElem? (i := 90) rfl)) rfl
  | 1, _ => exact tbm (tc1 (List.mem_of_getElem? (i := 92) rfl)) rfl
  | 2, _ => exact tbm (tc1 (List.mem_of_getElem? (i := 94) rfl)) rfl
  | 3, _ => exact tbm (tc1 (List.mem_of_getElem? (i := 96) rfl)) rfl
  | 4, _ => exact tbm (tc1 (List.mem_of_getElem? (i := 98) rfl)) rfl
  | 5, _ => exact tbm (tc1 (List.mem_of_getElem? (i := 100) rfl)) rfl
  | k + 6, hk => omega
theorem inT6 : ∀ w ∈ u_ws RX6 TX6 4, w ∈ TB := by
  intro w hw
  obtain ⟨k, hk, rfl⟩ := List.mem_map.mp hw
  have hk := List.mem_range.mp hk
  match k, hk with
  | 0, _ => exact tbm (tc2 (List.mem_of_getElem? (i := 30) rfl)) rfl
  | 1, _ => exact tbm (tc2 (List.mem_of_getElem? (i := 32) rfl)) rfl
  | 2, _ => exact tbm (tc2 (List.mem_of_getElem? (i := 34) rfl)) rfl
  | 3, _ => exact tbm (tc2 (List.mem_of_getElem? (i := 36) rfl)) rfl
  | k + 4, hk => omega
theorem inT7 : ∀ w ∈ u_ws RX7 TX7 2, w ∈ TB := by
  intro w hw
  obtain ⟨k, hk, rfl⟩ := List.mem_map.mp hw
  have hk := List.mem_range.mp hk
  match k, hk with
  | 0, _ => exact tbm (tc2 (List.mem_of_getElem? (i := 49) rfl)) rfl
  | 1, _ => exact tbm (tc2 (List.mem_of_getElem? (i := 51) rfl)) rfl
  | k + 2, hk => omega
theorem inT8 : ∀ w ∈ u_ws RX8 TX8 2, w ∈ TB := by
  intro w hw
  obtain ⟨k, hk, rfl⟩ := List.mem_map.mp hw
  have hk := List.mem_range.mp hk
  match k, hk with
  | 0, _ => exact tbm (tc1 (List.mem_of_getElem? (i := 42) rfl)) rfl
  | 1, _ => exact tbm (tc1 (List.mem_of_getElem? (i := 44) rfl)) rfl
  | k + 2, hk => omega
theorem inT9 : ∀ w ∈ u_ws RX9 TX9 6, w ∈ TB := by
  intro w hw
  obtain ⟨k, hk, rfl⟩ := List.mem_map.mp hw
  have hk := List.mem_range.mp hk
  match k, hk with
  | 0, _ => exact tbm (tc1 (List.mem_of_getElem? (i := 149) rfl)) rfl
  | 1, _ => exact tbm (tc1 (List.mem_of_getElem? (i := 151) rfl)) rfl
  | 2, _ => exact tbm (tc1 (List.mem_of_getElem? (i := 153) rfl)) rfl
  | 3, _ => exact tbm (tc1 (List.mem_of_getElem? (i := 155) rfl)) rfl
  | 4, _ => exact tbm (tc1 (List.mem_of_getElem? (i := 157) rfl)) rfl
  | 5, _ => exact tbm (tc1 (List.mem_of_getElem? (i := 159) rfl)) rfl
  | k + 6, hk => omega
theorem inT10 : ∀ w ∈ u_ws RX10 TX10 2, w ∈ TB := by
  intro w hw
  obtain ⟨k, hk, rfl⟩ := List.mem_map.mp hw
  have hk := List.mem_range.mp hk
  match k, hk with
  | 0, _ => exact tbm (tc1 (List.mem_of_getElem? (i := 56) rfl)) rfl
  | 1, _ => exact tbm (tc1 (List.mem_of_getElem? (i := 58) rfl)) rfl
  | k + 2, hk => omega
theorem inT11 : ∀ w ∈ u_ws RX11 TX11 10, w ∈ TB := by
  intro w hw
  obtain ⟨k, hk, rfl⟩ := List.mem_map.mp hw
  have hk := List.mem_range.mp hk
  match k, hk with
  | 0, _ => exact tbm (tc2 (List.mem_of_getElem? (i := 67) rfl)) rfl
  | 1, _ => exact tbm (tc2 (List.mem_of_getElem? (i := 69) rfl)) rfl
  | 2, _ => exact tbm (tc2 (List.mem_of_getElem? (i := 71) rfl)) rfl
  | 3, _ => exact tbm (tc2 (List.mem_of_getElem? (i := 73) rfl)) rfl
  | 4, _ => exact tbm (tc2 (List.mem_of_getElem? (i := 75) rfl)) rfl
  | 5, _ => exact tbm (tc2 (List.mem_of_getElem? (i := 77) rfl)) rfl
  | 6, _ => exact tbm (tc2 (List.mem_of_getElem? (i := 79) rfl)) rfl
  | 7, _ => exact tbm (tc2 (List.mem_of_getElem? (i := 81) rfl)) rfl
  | 8, _ => exact tbm (tc2 (List.mem_of_getElem? (i := 83) rfl)) rfl
  | 9, _ => exact tbm (tc2 (List.mem_of_getElem? (i := 85) rfl)) rfl
  | k + 10, hk => omega
theorem inT12 : ∀ w ∈ u_ws RX12 TX12 27, w ∈ TB := by
  intro w hw
  obtain ⟨k, hk, rfl⟩ := List.mem_map.mp hw
  have hk := List.mem_range.mp hk
  match k, hk with
  | 0, _ => exact tbm (tc5 (List.mem_of_getElem? (i := 83) rfl)) rfl
  | 1, _ => exact tbm (tc5 (List.mem_of_getElem? (i := 85) rfl)) rfl
  | 2, _ => exact tbm (tc5 (List.mem_of_getElem? (i := 87) rfl)) rfl
  | 3, _ => exact tbm (tc5 (List.mem_of_getElem? (i := 89) rfl)) rfl
  | 4, _ => exact tbm (tc5 (List.mem_of_getElem? (i := 91) rfl)) rfl
  | 5, _ => exact tbm (tc5 (List.mem_of_getElem? (i := 93) rfl)) rfl
  | 6, _ => exact tbm (tc5 (List.mem_of_getElem? (i := 95) rfl)) rfl
  | 7, _ => exact tbm (tc5 (List.mem_of_getElem? (i := 97) rfl)) rfl
  | 8, _ => exact tbm (tc5 (List.mem_of_getElem? (i := 99) rfl)) rfl
  | 9, _ => exact tbm (tc5 (List.mem_of_getElem? (i := 101) rfl)) rfl
  | 10, _ => exact tbm (tc5 (List.mem_of_getElem? (i := 103) rfl)) rfl
  | 11, _ => exact tbm (tc5 (List.mem_of_getElem? (i := 105) rfl)) rfl
  | 12, _ => exact tbm (tc5 (List.mem_of_getElem? (i := 107) rfl)) rfl
  | 13, _ => exact tbm (tc5 (List.mem_of_getElem? (i := 109) rfl)) rfl
  | 14, _ => exact tbm (tc5 (List.mem_of_getElem? (i := 111) rfl)) rfl
  | 15, _ => exact tbm (tc5 (List.mem_of_getElem? (i := 113) rfl)) rfl
  | 16, _ => exact tbm (tc5 (List.mem_of_getElem? (i := 115) rfl)) rfl
  | 17, _ => exact tbm (tc5 (List.mem_of_getElem? (i := 117) rfl)) rfl
  | 18, _ => exact tbm (tc5 (List.mem_of_getElem? (i := 119) rfl)) rfl
  | 19, _ => exact tbm (tc5 (List.mem_of_getElem? (i := 121) rfl)) rfl
  | 20, _ => exact tbm (tc5 (List.mem_of_getElem? (i := 123) rfl)) rfl
  | 21, _ => exact tbm (tc5 (List.mem_of_getElem? (i := 125) rfl)) rfl
  | 22, _ => exact tbm (tc5 (List.mem_of_getElem? (i := 127) rfl)) rfl
  | 23, _ => exact tbm (tc5 (List.mem_of_getElem? (i := 129) rfl)) rfl
  | 24, _ => exact tbm (tc5 (List.mem_of_getElem? (i := 131) rfl)) rfl
  | 25, _ => exact tbm (tc5 (List.mem_of_getElem? (i := 133) rfl)) rfl
  | 26, _ => exact tbm (tc5 (List.mem_of_getElem? (i := 135) rfl)) rfl
  | k + 27, hk => omega
theorem sh_0 {B : Nat} {cy : Nat → ClassId} {a : Nat} (hk : kd a = (0, 0, 0)) (f : Nat → Int32) (g : Nat → Int64) : shp B cy a f g = .inr (0, [.ref (B + 23), .ref (B + 24), .int (f 2), .ref (B + 25), .ref (B + 44), .ref (B + 26), .ref (B + 27), .int (f 7)]) := by
  simp only [shp, hk]
theorem sh_1 {B : Nat} {cy : Nat → ClassId} {a : Nat} (hk : kd a = (1, 0, 0)) (f : Nat → Int32) (g : Nat → Int64) : shp B cy a f g = .inr (1, [.int (f 0)]) := by
  simp only [shp, hk]
theorem sh_2 {B : Nat} {cy : Nat → ClassId} {a : Nat} (hk : kd a = (2, 0, 0)) (f : Nat → Int32) (g : Nat → Int64) : shp B cy a f g = .inr (2, [.ref (B + 72), .int (f 1), .int (f 2)]) := by
  simp only [shp, hk]
theorem sh_3 {B : Nat} {cy : Nat → ClassId} {a : Nat} (hk : kd a = (3, 0, 0)) (f : Nat → Int32) (g : Nat → Int64) : shp B cy a f g = .inr (3, [.int (f 0), .int (f 1), .int (f 2), .ref (B + 110), .ref (B + 111), .ref (B + 112), .ref (B + 113)]) := by
  simp only [shp, hk]
theorem sh_4 {B : Nat} {cy : Nat → ClassId} {a : Nat} (hk : kd a = (4, 0, 0)) (f : Nat → Int32) (g : Nat → Int64) : shp B cy a f g = .inr (4, [.ref (B + (a + 1))]) := by
  simp only [shp, hk]
theorem sh_5 {B : Nat} {cy : Nat → ClassId} {a : Nat} (hk : kd a = (5, 0, 0)) (f : Nat → Int32) (g : Nat → Int64) : shp B cy a f g = .inr (5, [.ref (B + 1), .ref (B + 5), .int (f 2), .int (f 3), .int (f 4), .int (f 5)]) := by
  simp only [shp, hk]
theorem sh_6 {B : Nat} {cy : Nat → ClassId} {a : Nat} (hk : kd a = (6, 0, 0)) (f : Nat → Int32) (g : Nat → Int64) : shp B cy a f g = .inr (6, [.int (f 0), .ref (B + 136), .ref (B + 137), .ref (B + 138)]) := by
  simp only [shp, hk]
theorem sh_7 {B : Nat} {cy : Nat → ClassId} {a : Nat} (hk : kd a = (7, 0, 0)) (f : Nat → Int32) (g : Nat → Int64) : shp B cy a f g = .inr (7, [.ref (B + 142), .int (f 1)]) := by
  simp only [shp, hk]
theorem sh_8 {B : Nat} {cy : Nat → ClassId} {a : Nat} (hk : kd a = (8, 0, 0)) (f : Nat → Int32) (g : Nat → Int64) : shp B cy a f g = .inr (8, [.ref (B + 2), .int (f 1)]) := by
  simp only [shp, hk]
theorem sh_9 {B : Nat} {cy : Nat → ClassId} {a : Nat} (hk : kd a = (9, 0, 0)) (f : Nat → Int32) (g : Nat → Int64) : shp B cy a f g = .inr (9, [.int (f 0), .int (f 1), .int (f 2), .int (f 3), .ref (B + (a + 1)), .ref (B + (a + 2))]) := by
  simp only [shp, hk]
theorem sh_10 {B : Nat} {cy : Nat → ClassId} {a : Nat} (hk : kd a = (10, 0, 0)) (f : Nat → Int32) (g : Nat → Int64) : shp B cy a f g = .inr (10, [.ref (B + 1), .int (f 1)]) := by
  simp only [shp, hk]
theorem sh_11 {B : Nat} {cy : Nat → ClassId} {a : Nat} (hk : kd a = (11, 0, 0)) (f : Nat → Int32) (g : Nat → Int64) : shp B cy a f g = .inr (11, [.ref (B + 1), .ref (B + 3), .ref (B + 4), .ref (B + 22), .ref (B + 44), .ref (B + 71), .ref (B + 109), .ref (B + 135), .ref (B + 141), .ref (B + 143)]) := by
  simp only [shp, hk]
theorem sh_12 {B : Nat} {cy : Nat → ClassId} {a : Nat} (hk : kd a = (12, 0, 0)) (f : Nat → Int32) (g : Nat → Int64) : shp B cy a f g = .inr (12, [.int (f 0), .ref (B + 147), .ref (B + 148), .int (f 3), .ref (B + 149), .int (f 5), .int (f 6), .ref (B + 150), .int (f 8), .int (f 9), .ref (B + 151), .int (f 11), .ref (B + 152), .int (f 13), .int (f 14), .int (f 15), .int (f 16), .ref (B + 153), .ref (B + 154), .ref (B + 155), .int (f 20), .ref (B + 156), .int (f 22), .ref (B + 157), .ref (B + 158), .int (f 25), .int (f 26)]) := by
  simp only [shp, hk]
theorem f_0_0 (F : CallFix p m c cc nL s args TB own) (w : Wd D B cy s H0 M H locs) {a idx : Nat} (hk : kd a = (0, 0, 0)) (hlink : Cond.fieldLink own idx "ToneLines$Derivation" "doer" "LToneLines$Doer;" ∈ TB) (hdg : decode cc pc = .ok (.getfield idx, 3)) (kk : W p l e R s m args below meth c H locs cells slots Q (F0 m (pc + 3) ls (.ref (B + 23) :: rest))) : W p l e R s m args below meth c H locs cells slots Q (F0 m pc ls (.ref (B + a) :: rest)) :=
  g_get F w (C := RX0) (T := TX0) (N := 8) (ci := 0) (k := 0) (kd_lt hk (by decide)) (sh_0 hk _ _) rfl inT0 (by decide) rfl hlink rfl hdg kk
theorem f_0_1 (F : CallFix p m c cc nL s args TB own) (w : Wd D B cy s H0 M H locs) {a idx : Nat} (hk : kd a = (0, 0, 0)) (hlink : Cond.fieldLink own idx "ToneLines$Derivation" "list" "[LToneLines$Rule;" ∈ TB) (hdg : decode cc pc = .ok (.getfield idx, 3)) (kk : W p l e R s m args below meth c H locs cells slots Q (F0 m (pc + 3) ls (.ref (B + 24) :: rest))) : W p l e R s m args below meth c H locs cells slots Q (F0 m pc ls (.ref (B + a) :: rest)) :=
  g_get F w (C := RX0) (T := TX0) (N := 8) (ci := 0) (k := 1) (kd_lt hk (by decide)) (sh_0 hk _ _) rfl inT0 (by decide) rfl hlink rfl hdg kk
theorem f_0_2 (F : CallFix p m c cc nL s args TB own) (w : Wd D B cy s H0 M H locs) {a idx : Nat} (hk : kd a = (0, 0, 0)) (hlink : Cond.fieldLink own idx "ToneLines$Derivation" "size" "I" ∈ TB) (hdg : decode cc pc = .ok (.getfield idx, 3)) (kk : W p l e R s m args below meth c H locs cells slots Q (F0 m (pc + 3) ls (.int (M.1 a 2) :: rest))) : W p l e R s m args below meth c H locs cells slots Q (F0 m pc ls (.ref (B + a) :: rest)) :=
  g_get F w (C := RX0) (T := TX0) (N := 8) (ci := 0) (k := 2) (kd_lt hk (by decide)) (sh_0 hk _ _) rfl inT0 (by decide) rfl hlink rfl hdg kk
theorem u_0_2 (F : CallFix p m c cc nL s args TB own) (w : Wd D B cy s H0 M H locs) {a idx : Nat} {x : Int32} (hk : kd a = (0, 0, 0)) (hlink : Cond.fieldLink own idx "ToneLines$Derivation" "size" "I" ∈ TB) (hdg : decode cc pc = .ok (.putfield idx, 3)) (kk : ∀ (H1 : Heap) (locs1 : List Loc), Wd D B cy s H0 (st M a 2 x) H1 locs1 → W p l e R s m args below meth c H1 locs1 cells slots Q (F0 m (pc + 3) ls rest)) : W p l e R s m args below meth c H locs cells slots Q (F0 m pc ls (.int x :: .ref (B + a) :: rest)) :=
  g_put F w (C := RX0) (T := TX0) (N := 8) (ci := 0) (k := 2) (ty := .int) tyX0 tyX0_ok nmX0 (kd_lt hk (by decide)) (sh_0 hk _ _) (by rw [sh_0 hk]; simp [upd]) rfl inT0 (by decide) rfl hlink rfl (by decide +kernel) rfl rfl (Nat.le_of_ble_eq_true rfl) hdg kk
theorem f_0_3 (F : CallFix p m c cc nL s args TB own) (w : Wd D B cy s H0 M H locs) {a idx : Nat} (hk : kd a = (0, 0, 0)) (hlink : Cond.fieldLink own idx "ToneLines$Derivation" "stages" "[LToneLines$Word;" ∈ TB) (hdg : decode cc pc = .ok (.getfield idx, 3)) (kk : W p l e R s m args below meth c H locs cells slots Q (F0 m (pc + 3) ls (.ref (B + 25) :: rest))) : W p l e R s m args below meth c H locs cells slots Q (F0 m pc ls (.ref (B + a) :: rest)) :=
  g_get F w (C := RX0) (T := TX0) (N := 8) (ci := 0) (k := 3) (kd_lt hk (by decide)) (sh_0 hk _ _) rfl inT0 (by decide) rfl hlink rfl hdg kk
theorem f_0_4 (F : CallFix p m c cc nL s args TB own) (w : Wd D B cy s H0 M H locs) {a idx : Nat} (hk : kd a = (0, 0, 0)) (hlink : Cond.fieldLink own idx "ToneLines$Derivation" "told" "LToneLines$Word;" ∈ TB) (hdg : decode cc pc = .ok (.getfield idx, 3)) (kk : W p l e R s m args below meth c H locs cells slots Q (F0 m (pc + 3) ls (.ref (B + 44) :: rest))) : W p l e R s m args below meth c H locs cells slots Q (F0 m pc ls (.ref (B + a) :: rest)) :=
  g_get F w (C := RX0) (T := TX0) (N := 8) (ci := 0) (k := 4) (kd_lt hk (by decide)) (sh_0 hk _ _) rfl inT0 (by decide) rfl hlink rfl hdg kk
theorem f_0_5 (F : CallFix p m c cc nL s args TB own) (w : Wd D B cy s H0 M H locs) {a idx : Nat} (hk : kd a = (0, 0, 0)) (hlink : Cond.fieldLink own idx "ToneLines$Derivation" "changes" "[I" ∈ TB) (hdg : decode cc pc = .ok (.getfield idx, 3)) (kk : W p l e R s m args below meth c H locs cells slots Q (F0 m (pc + 3) ls (.ref (B + 26) :: rest))) : W p l e R s m args below meth c H locs cells slots Q (F0 m pc ls (.ref (B + a) :: rest)) :=
  g_get F w (C := RX0) (T := TX0) (N := 8) (ci := 0) (k := 5) (kd_lt hk (by decide)) (sh_0 hk _ _) rfl inT0 (by decide) rfl hlink rfl hdg kk
theorem f_0_6 (F : CallFix p m c cc nL s args TB own) (w : Wd D B cy s H0 M H locs) {a idx : Nat} (hk : kd a = (0, 0, 0)) (hlink : Cond.fieldLink own idx "ToneLines$Derivation" "passes" "[I" ∈ TB) (hdg : decode cc pc = .ok (.getfield idx, 3)) (kk : W p l e R s m args below meth c H locs cells slots Q (F0 m (pc + 3) ls (.ref (B + 27) :: rest))) : W p l e R s m args below meth c H locs cells slots Q (F0 m pc ls (.ref (B + a) :: rest)) :=
  g_get F w (C := RX0) (T := TX0) (N := 8) (ci := 0) (k := 6) (kd_lt hk (by decide)) (sh_0 hk _ _) rfl inT0 (by decide) rfl hlink rfl hdg kk
theorem f_0_7 (F : CallFix p m c cc nL s args TB own) (w : Wd D B cy s H0 M H locs) {a idx : Nat} (hk : kd a = (0, 0, 0)) (hlink : Cond.fieldLink own idx "ToneLines$Derivation" "ready" "I" ∈ TB) (hdg : decode cc pc = .ok (.getfield idx, 3)) (kk : W p l e R s m args below meth c H locs cells slots Q (F0 m (pc + 3) ls (.int (M.1 a 7) :: rest))) : W p l e R s m args below meth c H locs cells slots Q (F0 m pc ls (.ref (B + a) :: rest)) :=
  g_get F w (C := RX0) (T := TX0) (N := 8) (ci := 0) (k := 7) (kd_lt hk (by decide)) (sh_0 hk _ _) rfl inT0 (by decide) rfl hlink rfl hdg kk
theorem u_0_7 (F : CallFix p m c cc nL s args TB own) (w : Wd D B cy s H0 M H locs) {a idx : Nat} {x : Int32} (hk : kd a = (0, 0, 0)) (hlink : Cond.fieldLink own idx "ToneLines$Derivation" "ready" "I" ∈ TB) (hdg : decode cc pc = .ok (.putfield idx, 3)) (kk : ∀ (H1 : Heap) (locs1 : List Loc), Wd D B cy s H0 (st M a 7 x) H1 locs1 → W p l e R s m args below meth c H1 locs1 cells slots Q (F0 m (pc + 3) ls rest)) : W p l e R s m args below meth c H locs cells slots Q (F0 m pc ls (.int x :: .ref (B + a) :: rest)) :=
  g_put F w (C := RX0) (T := TX0) (N := 8) (ci := 0) (k := 7) (ty := .int) tyX0 tyX0_ok nmX0 (kd_lt hk (by decide)) (sh_0 hk _ _) (by rw [sh_0 hk]; simp [upd]) rfl inT0 (by decide) rfl hlink rfl (by decide +kernel) rfl rfl (Nat.le_of_ble_eq_true rfl) hdg kk
theorem f_1_0 (F : CallFix p m c cc nL s args TB own) (w : Wd D B cy s H0 M H locs) {a idx : Nat} (hk : kd a = (1, 0, 0)) (hlink : Cond.fieldLink own idx "ToneLines$Doer" "passes" "I" ∈ TB) (hdg : decode cc pc = .ok (.getfield idx, 3)) (kk : W p l e R s m args below meth c H locs cells slots Q (F0 m (pc + 3) ls (.int (M.1 a 0) :: rest))) : W p l e R s m args below meth c H locs cells slots Q (F0 m pc ls (.ref (B + a) :: rest)) :=
  g_get F w (C := RX1) (T := TX1) (N := 1) (ci := 1) (k := 0) (kd_lt hk (by decide)) (sh_1 hk _ _) rfl inT1 (by decide) rfl hlink rfl hdg kk
theorem u_1_0 (F : CallFix p m c cc nL s args TB own) (w : Wd D B cy s H0 M H locs) {a idx : Nat} {x : Int32} (hk : kd a = (1, 0, 0)) (hlink : Cond.fieldLink own idx "ToneLines$Doer" "passes" "I" ∈ TB) (hdg : decode cc pc = .ok (.putfield idx, 3)) (kk : ∀ (H1 : Heap) (locs1 : List Loc), Wd D B cy s H0 (st M a 0 x) H1 locs1 → W p l e R s m args below meth c H1 locs1 cells slots Q (F0 m (pc + 3) ls rest)) : W p l e R s m args below meth c H locs cells slots Q (F0 m pc ls (.int x :: .ref (B + a) :: rest)) :=
  g_put F w (C := RX1) (T := TX1) (N := 1) (ci := 1) (k := 0) (ty := .int) tyX1 tyX1_ok nmX1 (kd_lt hk (by decide)) (sh_1 hk _ _) (by rw [sh_1 hk]; simp [upd]) rfl inT1 (by decide) rfl hlink rfl (by decide +kernel) rfl rfl (Nat.le_of_ble_eq_true rfl) hdg kk
theorem f_2_0 (F : CallFix p m c cc nL s args TB own) (w : Wd D B cy s H0 M H locs) {a idx : Nat} (hk : kd a = (2, 0, 0)) (hlink : Cond.fieldLink own idx "ToneLines$History" "ring" "[LToneLines$Word;" ∈ TB) (hdg : decode cc pc = .ok (.getfield idx, 3)) (kk : W p l e R s m args below meth c H locs cells slots Q (F0 m (pc + 3) ls (.ref (B + 72) :: rest))) : W p l e R s m args below meth c H locs cells slots Q (F0 m pc ls (.ref (B + a) :: rest)) :=
  g_get F w (C := RX2) (T := TX2) (N := 3) (ci := 2) (k := 0) (kd_lt hk (by decide)) (sh_2 hk _ _) rfl inT2 (by decide) rfl hlink rfl hdg kk
theorem f_2_1 (F : CallFix p m c cc nL s args TB own) (w : Wd D B cy s H0 M H locs) {a idx : Nat} (hk : kd a = (2, 0, 0)) (hlink : Cond.fieldLink own idx "ToneLines$History" "next" "I" ∈ TB) (hdg : decode cc pc = .ok (.getfield idx, 3)) (kk : W p l e R s m args below meth c H locs cells slots Q (F0 m (pc + 3) ls (.int (M.1 a 1) :: rest))) : W p l e R s m args below meth c H locs cells slots Q (F0 m pc ls (.ref (B + a) :: rest)) :=
  g_get F w (C := RX2) (T := TX2) (N := 3) (ci := 2) (k := 1) (kd_lt hk (by decide)) (sh_2 hk _ _) rfl inT2 (by decide) rfl hlink rfl hdg kk
theorem u_2_1 (F : CallFix p m c cc nL s args TB own) (w : Wd D B cy s H0 M H locs) {a idx : Nat} {x : Int32} (hk : kd a = (2, 0, 0)) (hlink : Cond.fieldLink own idx "ToneLines$History" "next" "I" ∈ TB) (hdg : decode cc pc = .ok (.putfield idx, 3)) (kk : ∀ (H1 : Heap) (locs1 : List Loc), Wd D B cy s H0 (st M a 1 x) H1 locs1 → W p l e R s m args below meth c H1 locs1 cells slots Q (F0 m (pc + 3) ls rest)) : W p l e R s m args below meth c H locs cells slots Q (F0 m pc ls (.int x :: .ref (B + a) :: rest)) :=
  g_put F w (C := RX2) (T := TX2) (N := 3) (ci := 2) (k := 1) (ty := .int) tyX2 tyX2_ok nmX2 (kd_lt hk (by decide)) (sh_2 hk _ _) (by rw [sh_2 hk]; simp [upd]) rfl inT2 (by decide) rfl hlink rfl (by decide +kernel) rfl rfl (Nat.le_of_ble_eq_true rfl) hdg kk
theorem f_2_2 (F : CallFix p m c cc nL s args TB own) (w : Wd D B cy s H0 M H locs) {a idx : Nat} (hk : kd a = (2, 0, 0)) (hlink : Cond.fieldLink own idx "ToneLines$History" "acts" "I" ∈ TB) (hdg : decode cc pc = .ok (.getfield idx, 3)) (kk : W p l e R s m args below meth c H locs cells slots Q (F0 m (pc + 3) ls (.int (M.1 a 2) :: rest))) : W p l e R s m args below meth c H locs cells slots Q (F0 m pc ls (.ref (B + a) :: rest)) :=
  g_get F w (C := RX2) (T := TX2) (N := 3) (ci := 2) (k := 2) (kd_lt hk (by decide)) (sh_2 hk _ _) rfl inT2 (by decide) rfl hlink rfl hdg kk
theorem u_2_2 (F : CallFix p m c cc nL s args TB own) (w : Wd D B cy s H0 M H locs) {a idx : Nat} {x : Int32} (hk : kd a = (2, 0, 0)) (hlink : Cond.fieldLink own idx "ToneLines$History" "acts" "I" ∈ TB) (hdg : decode cc pc = .ok (.putfield idx, 3)) (kk : ∀ (H1 : Heap) (locs1 : List Loc), Wd D B cy s H0 (st M a 2 x) H1 locs1 → W p l e R s m args below meth c H1 locs1 cells slots Q (F0 m (pc + 3) ls rest)) : W p l e R s m args below meth c H locs cells slots Q (F0 m pc ls (.int x :: .ref (B + a) :: rest)) :=
  g_put F w (C := RX2) (T := TX2) (N := 3) (ci := 2) (k := 2) (ty := .int) tyX2 tyX2_ok nmX2 (kd_lt hk (by decide)) (sh_2 hk _ _) (by rw [sh_2 hk]; simp [upd]) rfl inT2 (by decide) rfl hlink rfl (by decide +kernel) rfl rfl (Nat.le_of_ble_eq_true rfl) hdg kk
theorem f_3_0 (F : CallFix p m c cc nL s args TB own) (w : Wd D B cy s H0 M H locs) {a idx : Nat} (hk : kd a = (3, 0, 0)) (hlink : Cond.fieldLink own idx "ToneLines$Orders" "inDate" "Z" ∈ TB) (hdg : decode cc pc = .ok (.getfield idx, 3)) (kk : W p l e R s m args below meth c H locs cells slots Q (F0 m (pc + 3) ls (.int (M.1 a 0) :: rest))) : W p l e R s m args below meth c H locs cells slots Q (F0 m pc ls (.ref (B + a) :: rest)) :=
  g_get F w (C := RX3) (T := TX3) (N := 7) (ci := 3) (k := 0) (kd_lt hk (by decide)) (sh_3 hk _ _) rfl inT3 (by decide) rfl hlink rfl hdg kk
theorem u_3_0 (F : CallFix p m c cc nL s args TB own) (w : Wd D B cy s H0 M H locs) {a idx : Nat} {x : Int32} (hk : kd a = (3, 0, 0)) (hn : narrow .boolean (.int x) = .int x) (hfit : fits .boolean (.int x) = true) (hlink : Cond.fieldLink own idx "ToneLines$Orders" "inDate" "Z" ∈ TB) (hdg : decode cc pc = .ok (.putfield idx, 3)) (kk : ∀ (H1 : Heap) (locs1 : List Loc), Wd D B cy s H0 (st M a 0 x) H1 locs1 → W p l e R s m args below meth c H1 locs1 cells slots Q (F0 m (pc + 3) ls rest)) : W p l e R s m args below meth c H locs cells slots Q (F0 m pc ls (.int x :: .ref (B + a) :: rest)) :=
  g_put F w (C := RX3) (T := TX3) (N := 7) (ci := 3) (k := 0) (ty := .boolean) tyX3 tyX3_ok nmX3 (kd_lt hk (by decide)) (sh_3 hk _ _) (by rw [sh_3 hk]; simp [upd]) rfl inT3 (by decide) rfl hlink rfl (by decide +kernel) hn hfit (Nat.le_of_ble_eq_true rfl) hdg kk
theorem f_3_1 (F : CallFix p m c cc nL s args TB own) (w : Wd D B cy s H0 M H locs) {a idx : Nat} (hk : kd a = (3, 0, 0)) (hlink : Cond.fieldLink own idx "ToneLines$Orders" "unlike" "I" ∈ TB) (hdg : decode cc pc = .ok (.getfield idx, 3)) (kk : W p l e R s m args below meth c H locs cells slots Q (F0 m (pc + 3) ls (.int (M.1 a 1) :: rest))) : W p l e R s m args below meth c H locs cells slots Q (F0 m pc ls (.ref (B + a) :: rest)) :=
  g_get F w (C := RX3) (T := TX3) (N := 7) (ci := 3) (k := 1) (kd_lt hk (by decide)) (sh_3 hk _ _) rfl inT3 (by decide) rfl hlink rfl hdg kk
theorem u_3_1 (F : CallFix p m c cc nL s args TB own) (w : Wd D B cy s H0 M H locs) {a idx : Nat} {x : Int32} (hk : kd a = (3, 0, 0)) (hlink : Cond.fieldLink own idx "ToneLines$Orders" "unlike" "I" ∈ TB) (hdg : decode cc pc = .ok (.putfield idx, 3)) (kk : ∀ (H1 : Heap) (locs1 : List Loc), Wd D B cy s H0 (st M a 1 x) H1 locs1 → W p l e R s m args below meth c H1 locs1 cells slots Q (F0 m (pc + 3) ls rest)) : W p l e R s m args below meth c H locs cells slots Q (F0 m pc ls (.int x :: .ref (B + a) :: rest)) :=
  g_put F w (C := RX3) (T := TX3) (N := 7) (ci := 3) (k := 1) (ty := .int) tyX3 tyX3_ok nmX3 (kd_lt hk (by decide)) (sh_3 hk _ _) (by rw [sh_3 hk]; simp [upd]) rfl inT3 (by decide) rfl hlink rfl (by decide +kernel) rfl rfl (Nat.le_of_ble_eq_true rfl) hdg kk
theorem f_3_2 (F : CallFix p m c cc nL s args TB own) (w : Wd D B cy s H0 M H locs) {a idx : Nat} (hk : kd a = (3, 0, 0)) (hlink : Cond.fieldLink own idx "ToneLines$Orders" "same" "I" ∈ TB) (hdg : decode cc pc = .ok (.getfield idx, 3)) (kk : W p l e R s m args below meth c H locs cells slots Q (F0 m (pc + 3) ls (.int (M.1 a 2) :: rest))) : W p l e R s m args below meth c H locs cells slots Q (F0 m pc ls (.ref (B + a) :: rest)) :=
  g_get F w (C := RX3) (T := TX3) (N := 7) (ci := 3) (k := 2) (kd_lt hk (by decide)) (sh_3 hk _ _) rfl inT3 (by decide) rfl hlink rfl hdg kk
theorem u_3_2 (F : CallFix p m c cc nL s args TB own) (w : Wd D B cy s H0 M H locs) {a idx : Nat} {x : Int32} (hk : kd a = (3, 0, 0)) (hlink : Cond.fieldLink own idx "ToneLines$Orders" "same" "I" ∈ TB) (hdg : decode cc pc = .ok (.putfield idx, 3)) (kk : ∀ (H1 : Heap) (locs1 : List Loc), Wd D B cy s H0 (st M a 2 x) H1 locs1 → W p l e R s m args below meth c H1 locs1 cells slots Q (F0 m (pc + 3) ls rest)) : W p l e R s m args below meth c H locs cells slots Q (F0 m pc ls (.int x :: .ref (B + a) :: rest)) :=
  g_put F w (C := RX3) (T := TX3) (N := 7) (ci := 3) (k := 2) (ty := .int) tyX3 tyX3_ok nmX3 (kd_lt hk (by decide)) (sh_3 hk _ _) (by rw [sh_3 hk]; simp [upd]) rfl inT3 (by decide) rfl hlink rfl (by decide +kernel) rfl rfl (Nat.le_of_ble_eq_true rfl) hdg kk
theorem f_3_3 (F : CallFix p m c cc nL s args TB own) (w : Wd D B cy s H0 M H locs) {a idx : Nat} (hk : kd a = (3, 0, 0)) (hlink : Cond.fieldLink own idx "ToneLines$Orders" "order" "[I" ∈ TB) (hdg : decode cc pc = .ok (.getfield idx, 3)) (kk : W p l e R s m args below meth c H locs cells slots Q (F0 m (pc + 3) ls (.ref (B + 110) :: rest))) : W p l e R s m args below meth c H locs cells slots Q (F0 m pc ls (.ref (B + a) :: rest)) :=
  g_get F w (C := RX3) (T := TX3) (N := 7) (ci := 3) (k := 3) (kd_lt hk (by decide)) (sh_3 hk _ _) rfl inT3 (by decide) rfl hlink rfl hdg kk
theorem f_3_4 (F : CallFix p m c cc nL s args TB own) (w : Wd D B cy s H0 M H locs) {a idx : Nat} (hk : kd a = (3, 0, 0)) (hlink : Cond.fieldLink own idx "ToneLines$Orders" "levels" "[LToneLines$Word;" ∈ TB) (hdg : decode cc pc = .ok (.getfield idx, 3)) (kk : W p l e R s m args below meth c H locs cells slots Q (F0 m (pc + 3) ls (.ref (B + 111) :: rest))) : W p l e R s m args below meth c H locs cells slots Q (F0 m pc ls (.ref (B + a) :: rest)) :=
  g_get F w (C := RX3) (T := TX3) (N := 7) (ci := 3) (k := 4) (kd_lt hk (by decide)) (sh_3 hk _ _) rfl inT3 (by decide) rfl hlink rfl hdg kk
theorem f_3_5 (F : CallFix p m c cc nL s args TB own) (w : Wd D B cy s H0 M H locs) {a idx : Nat} (hk : kd a = (3, 0, 0)) (hlink : Cond.fieldLink own idx "ToneLines$Orders" "kindsRead" "[J" ∈ TB) (hdg : decode cc pc = .ok (.getfield idx, 3)) (kk : W p l e R s m args below meth c H locs cells slots Q (F0 m (pc + 3) ls (.ref (B + 112) :: rest))) : W p l e R s m args below meth c H locs cells slots Q (F0 m pc ls (.ref (B + a) :: rest)) :=
  g_get F w (C := RX3) (T := TX3) (N := 7) (ci := 3) (k := 5) (kd_lt hk (by decide)) (sh_3 hk _ _) rfl inT3 (by decide) rfl hlink rfl hdg kk
theorem f_3_6 (F : CallFix p m c cc nL s args TB own) (w : Wd D B cy s H0 M H locs) {a idx : Nat} (hk : kd a = (3, 0, 0)) (hlink : Cond.fieldLink own idx "ToneLines$Orders" "linesRead" "[J" ∈ TB) (hdg : decode cc pc = .ok (.getfield idx, 3)) (kk : W p l e R s m args below meth c H locs cells slots Q (F0 m (pc + 3) ls (.ref (B + 113) :: rest))) : W p l e R s m args below meth c H locs cells slots Q (F0 m pc ls (.ref (B + a) :: rest)) :=
  g_get F w (C := RX3) (T := TX3) (N := 7) (ci := 3) (k := 6) (kd_lt hk (by decide)) (sh_3 hk _ _) rfl inT3 (by decide) rfl hlink rfl hdg kk
theorem f_4_0 (F : CallFix p m c cc nL s args TB own) (w : Wd D B cy s H0 M H locs) {a idx : Nat} (hk : kd a = (4, 0, 0)) (hlink : Cond.fieldLink own idx "ToneLines$Rule" "parts" "[I" ∈ TB) (hdg : decode cc pc = .ok (.getfield idx, 3)) (kk : W p l e R s m args below meth c H locs cells slots Q (F0 m (pc + 3) ls (.ref (B + (a + 1)) :: rest))) : W p l e R s m args below meth c H locs cells slots Q (F0 m pc ls (.ref (B + a) :: rest)) :=
  g_get F w (C := RX4) (T := TX4) (N := 1) (ci := 4) (k := 0) (kd_lt hk (by decide)) (sh_4 hk _ _) rfl inT4 (by decide) rfl hlink rfl hdg kk
theorem f_5_0 (F : CallFix p m c cc nL s args TB own) (w : Wd D B cy s H0 M H locs) {a idx : Nat} (hk : kd a = (5, 0, 0)) (hlink : Cond.fieldLink own idx "ToneLines$RuleReader" "tape" "LToneLines$Tape;" ∈ TB) (hdg : decode cc pc = .ok (.getfield idx, 3)) (kk : W p l e R s m args below meth c H locs cells slots Q (F0 m (pc + 3) ls (.ref (B + 1) :: rest))) : W p l e R s m args below meth c H locs cells slots Q (F0 m pc ls (.ref (B + a) :: rest)) :=
  g_get F w (C := RX5) (T := TX5) (N := 6) (ci := 5) (k := 0) (kd_lt hk (by decide)) (sh_5 hk _ _) rfl inT5 (by decide) rfl hlink rfl hdg kk
theorem f_5_1 (F : CallFix p m c cc nL s args TB own) (w : Wd D B cy s H0 M H locs) {a idx : Nat} (hk : kd a = (5, 0, 0)) (hlink : Cond.fieldLink own idx "ToneLines$RuleReader" "drafts" "[LToneLines$Rule;" ∈ TB) (hdg : decode cc pc = .ok (.getfield idx, 3)) (kk : W p l e R s m args below meth c H locs cells slots Q (F0 m (pc + 3) ls (.ref (B + 5) :: rest))) : W p l e R s m args below meth c H locs cells slots Q (F0 m pc ls (.ref (B + a) :: rest)) :=
  g_get F w (C := RX5) (T := TX5) (N := 6) (ci := 5) (k := 1) (kd_lt hk (by decide)) (sh_5 hk _ _) rfl inT5 (by decide) rfl hlink rfl hdg kk
theorem f_5_2 (F : CallFix p m c cc nL s args TB own) (w : Wd D B cy s H0 M H locs) {a idx : Nat} (hk : kd a = (5, 0, 0)) (hlink : Cond.fieldLink own idx "ToneLines$RuleReader" "read" "I" ∈ TB) (hdg : decode cc pc = .ok (.getfield idx, 3)) (kk : W p l e R s m args below meth c H locs cells slots Q (F0 m (pc + 3) ls (.int (M.1 a 2) :: rest))) : W p l e R s m args below meth c H locs cells slots Q (F0 m pc ls (.ref (B + a) :: rest)) :=
  g_get F w (C := RX5) (T := TX5) (N := 6) (ci := 5) (k := 2) (kd_lt hk (by decide)) (sh_5 hk _ _) rfl inT5 (by decide) rfl hlink rfl hdg kk
theorem u_5_2 (F : CallFix p m c cc nL s args TB own) (w : Wd D B cy s H0 M H locs) {a idx : Nat} {x : Int32} (hk : kd a = (5, 0, 0)) (hlink : Cond.fieldLink own idx "ToneLines$RuleReader" "read" "I" ∈ TB) (hdg : decode cc pc = .ok (.putfield idx, 3)) (kk : ∀ (H1 : Heap) (locs1 : List Loc), Wd D B cy s H0 (st M a 2 x) H1 locs1 → W p l e R s m args below meth c H1 locs1 cells slots Q (F0 m (pc + 3) ls rest)) : W p l e R s m args below meth c H locs cells slots Q (F0 m pc ls (.int x :: .ref (B + a) :: rest)) :=
  g_put F w (C := RX5) (T := TX5) (N := 6) (ci := 5) (k := 2) (ty := .int) tyX5 tyX5_ok nmX5 (kd_lt hk (by decide)) (sh_5 hk _ _) (by rw [sh_5 hk]; simp [upd]) rfl inT5 (by decide) rfl hlink rfl (by decide +kernel) rfl rfl (Nat.le_of_ble_eq_true rfl) hdg kk
theorem f_5_3 (F : CallFix p m c cc nL s args TB own) (w : Wd D B cy s H0 M H locs) {a idx : Nat} (hk : kd a = (5, 0, 0)) (hlink : Cond.fieldLink own idx "ToneLines$RuleReader" "start" "I" ∈ TB) (hdg : decode cc pc = .ok (.getfield idx, 3)) (kk : W p l e R s m args below meth c H locs cells slots Q (F0 m (pc + 3) ls (.int (M.1 a 3) :: rest))) : W p l e R s m args below meth c H locs cells slots Q (F0 m pc ls (.ref (B + a) :: rest)) :=
  g_get F w (C := RX5) (T := TX5) (N := 6) (ci := 5) (k := 3) (kd_lt hk (by decide)) (sh_5 hk _ _) rfl inT5 (by decide) rfl hlink rfl hdg kk
theorem u_5_3 (F : CallFix p m c cc nL s args TB own) (w : Wd D B cy s H0 M H locs) {a idx : Nat} {x : Int32} (hk : kd a = (5, 0, 0)) (hlink : Cond.fieldLink own idx "ToneLines$RuleReader" "start" "I" ∈ TB) (hdg : decode cc pc = .ok (.putfield idx, 3)) (kk : ∀ (H1 : Heap) (locs1 : List Loc), Wd D B cy s H0 (st M a 3 x) H1 locs1 → W p l e R s m args below meth c H1 locs1 cells slots Q (F0 m (pc + 3) ls rest)) : W p l e R s m args below meth c H locs cells slots Q (F0 m pc ls (.int x :: .ref (B + a) :: rest)) :=
  g_put F w (C := RX5) (T := TX5) (N := 6) (ci := 5) (k := 3) (ty := .int) tyX5 tyX5_ok nmX5 (kd_lt hk (by decide)) (sh_5 hk _ _) (by rw [sh_5 hk]; simp [upd]) rfl inT5 (by decide) rfl hlink rfl (by decide +kernel) rfl rfl (Nat.le_of_ble_eq_true rfl) hdg kk
theorem f_5_4 (F : CallFix p m c cc nL s args TB own) (w : Wd D B cy s H0 M H locs) {a idx : Nat} (hk : kd a = (5, 0, 0)) (hlink : Cond.fieldLink own idx "ToneLines$RuleReader" "end" "I" ∈ TB) (hdg : decode cc pc = .ok (.getfield idx, 3)) (kk : W p l e R s m args below meth c H locs cells slots Q (F0 m (pc + 3) ls (.int (M.1 a 4) :: rest))) : W p l e R s m args below meth c H locs cells slots Q (F0 m pc ls (.ref (B + a) :: rest)) :=
  g_get F w (C := RX5) (T := TX5) (N := 6) (ci := 5) (k := 4) (kd_lt hk (by decide)) (sh_5 hk _ _) rfl inT5 (by decide) rfl hlink rfl hdg kk
theorem u_5_4 (F : CallFix p m c cc nL s args TB own) (w : Wd D B cy s H0 M H locs) {a idx : Nat} {x : Int32} (hk : kd a = (5, 0, 0)) (hlink : Cond.fieldLink own idx "ToneLines$RuleReader" "end" "I" ∈ TB) (hdg : decode cc pc = .ok (.putfield idx, 3)) (kk : ∀ (H1 : Heap) (locs1 : List Loc), Wd D B cy s H0 (st M a 4 x) H1 locs1 → W p l e R s m args below meth c H1 locs1 cells slots Q (F0 m (pc + 3) ls rest)) : W p l e R s m args below meth c H locs cells slots Q (F0 m pc ls (.int x :: .ref (B + a) :: rest)) :=
  g_put F w (C := RX5) (T := TX5) (N := 6) (ci := 5) (k := 4) (ty := .int) tyX5 tyX5_ok nmX5 (kd_lt hk (by decide)) (sh_5 hk _ _) (by rw [sh_5 hk]; simp [upd]) rfl inT5 (by decide) rfl hlink rfl (by decide +kernel) rfl rfl (Nat.le_of_ble_eq_true rfl) hdg kk
theorem f_5_5 (F : CallFix p m c cc nL s args TB own) (w : Wd D B cy s H0 M H locs) {a idx : Nat} (hk : kd a = (5, 0, 0)) (hlink : Cond.fieldLink own idx "ToneLines$RuleReader" "joined" "Z" ∈ TB) (hdg : decode cc pc = .ok (.getfield idx, 3)) (kk : W p l e R s m args below meth c H locs cells slots Q (F0 m (pc + 3) ls (.int (M.1 a 5) :: rest))) : W p l e R s m args below meth c H locs cells slots Q (F0 m pc ls (.ref (B + a) :: rest)) :=
  g_get F w (C := RX5) (T := TX5) (N := 6) (ci := 5) (k := 5) (kd_lt hk (by decide)) (sh_5 hk _ _) rfl inT5 (by decide) rfl hlink rfl hdg kk
theorem u_5_5 (F : CallFix p m c cc nL s args TB own) (w : Wd D B cy s H0 M H locs) {a idx : Nat} {x : Int32} (hk : kd a = (5, 0, 0)) (hn : narrow .boolean (.int x) = .int x) (hfit : fits .boolean (.int x) = true) (hlink : Cond.fieldLink own idx "ToneLines$RuleReader" "joined" "Z" ∈ TB) (hdg : decode cc pc = .ok (.putfield idx, 3)) (kk : ∀ (H1 : Heap) (locs1 : List Loc), Wd D B cy s H0 (st M a 5 x) H1 locs1 → W p l e R s m args below meth c H1 locs1 cells slots Q (F0 m (pc + 3) ls rest)) : W p l e R s m args below meth c H locs cells slots Q (F0 m pc ls (.int x :: .ref (B + a) :: rest)) :=
  g_put F w (C := RX5) (T := TX5) (N := 6) (ci := 5) (k := 5) (ty := .boolean) tyX5 tyX5_ok nmX5 (kd_lt hk (by decide)) (sh_5 hk _ _) (by rw [sh_5 hk]; simp [upd]) rfl inT5 (by decide) rfl hlink rfl (by decide +kernel) hn hfit (Nat.le_of_ble_eq_true rfl) hdg kk
theorem f_6_0 (F : CallFix p m c cc nL s args TB own) (w : Wd D B cy s H0 M H locs) {a idx : Nat} (hk : kd a = (6, 0, 0)) (hlink : Cond.fieldLink own idx "ToneLines$Sources" "known" "I" ∈ TB) (hdg : decode cc pc = .ok (.getfield idx, 3)) (kk : W p l e R s m args below meth c H locs cells slots Q (F0 m (pc + 3) ls (.int (M.1 a 0) :: rest))) : W p l e R s m args below meth c H locs cells slots Q (F0 m pc ls (.ref (B + a) :: rest)) :=
  g_get F w (C := RX6) (T := TX6) (N := 4) (ci := 6) (k := 0) (kd_lt hk (by decide)) (sh_6 hk _ _) rfl inT6 (by decide) rfl hlink rfl hdg kk
theorem u_6_0 (F : CallFix p m c cc nL s args TB own) (w : Wd D B cy s H0 M H locs) {a idx : Nat} {x : Int32} (hk : kd a = (6, 0, 0)) (hlink : Cond.fieldLink own idx "ToneLines$Sources" "known" "I" ∈ TB) (hdg : decode cc pc = .ok (.putfield idx, 3)) (kk : ∀ (H1 : Heap) (locs1 : List Loc), Wd D B cy s H0 (st M a 0 x) H1 locs1 → W p l e R s m args below meth c H1 locs1 cells slots Q (F0 m (pc + 3) ls rest)) : W p l e R s m args below meth c H locs cells slots Q (F0 m pc ls (.int x :: .ref (B + a) :: rest)) :=
  g_put F w (C := RX6) (T := TX6) (N := 4) (ci := 6) (k := 0) (ty := .int) tyX6 tyX6_ok nmX6 (kd_lt hk (by decide)) (sh_6 hk _ _) (by rw [sh_6 hk]; simp [upd]) rfl inT6 (by decide) rfl hlink rfl (by decide +kernel) rfl rfl (Nat.le_of_ble_eq_true rfl) hdg kk
theorem f_6_1 (F : CallFix p m c cc nL s args TB own) (w : Wd D B cy s H0 M H locs) {a idx : Nat} (hk : kd a = (6, 0, 0)) (hlink : Cond.fieldLink own idx "ToneLines$Sources" "counts" "[I" ∈ TB) (hdg : decode cc pc = .ok (.getfield idx, 3)) (kk : W p l e R s m args below meth c H locs cells slots Q (F0 m (pc + 3) ls (.ref (B + 136) :: rest))) : W p l e R s m args below meth c H locs cells slots Q (F0 m pc ls (.ref (B + a) :: rest)) :=
  g_get F w (C := RX6) (T := TX6) (N := 4) (ci := 6) (k := 1) (kd_lt hk (by decide)) (sh_6 hk _ _) rfl inT6 (by decide) rfl hlink rfl hdg kk
theorem f_6_2 (F : CallFix p m c cc nL s args TB own) (w : Wd D B cy s H0 M H locs) {a idx : Nat} (hk : kd a = (6, 0, 0)) (hlink : Cond.fieldLink own idx "ToneLines$Sources" "firsts" "[I" ∈ TB) (hdg : decode cc pc = .ok (.getfield idx, 3)) (kk : W p l e R s m args below meth c H locs cells slots Q (F0 m (pc + 3) ls (.ref (B + 137) :: rest))) : W p l e R s m args below meth c H locs cells slots Q (F0 m pc ls (.ref (B + a) :: rest)) :=
  g_get F w (C := RX6) (T := TX6) (N := 4) (ci := 6) (k := 2) (kd_lt hk (by decide)) (sh_6 hk _ _) rfl inT6 (by decide) rfl hlink rfl hdg kk
theorem f_6_3 (F : CallFix p m c cc nL s args TB own) (w : Wd D B cy s H0 M H locs) {a idx : Nat} (hk : kd a = (6, 0, 0)) (hlink : Cond.fieldLink own idx "ToneLines$Sources" "row" "LToneLines$Word;" ∈ TB) (hdg : decode cc pc = .ok (.getfield idx, 3)) (kk : W p l e R s m args below meth c H locs cells slots Q (F0 m (pc + 3) ls (.ref (B + 138) :: rest))) : W p l e R s m args below meth c H locs cells slots Q (F0 m pc ls (.ref (B + a) :: rest)) :=
  g_get F w (C := RX6) (T := TX6) (N := 4) (ci := 6) (k := 3) (kd_lt hk (by decide)) (sh_6 hk _ _) rfl inT6 (by decide) rfl hlink rfl hdg kk
theorem f_7_0 (F : CallFix p m c cc nL s args TB own) (w : Wd D B cy s H0 M H locs) {a idx : Nat} (hk : kd a = (7, 0, 0)) (hlink : Cond.fieldLink own idx "ToneLines$Speller" "signs" "[C" ∈ TB) (hdg : decode cc pc = .ok (.getfield idx, 3)) (kk : W p l e R s m args below meth c H locs cells slots Q (F0 m (pc + 3) ls (.ref (B + 142) :: rest))) : W p l e R s m args below meth c H locs cells slots Q (F0 m pc ls (.ref (B + a) :: rest)) :=
  g_get F w (C := RX7) (T := TX7) (N := 2) (ci := 7) (k := 0) (kd_lt hk (by decide)) (sh_7 hk _ _) rfl inT7 (by decide) rfl hlink rfl hdg kk
theorem f_7_1 (F : CallFix p m c cc nL s args TB own) (w : Wd D B cy s H0 M H locs) {a idx : Nat} (hk : kd a = (7, 0, 0)) (hlink : Cond.fieldLink own idx "ToneLines$Speller" "size" "I" ∈ TB) (hdg : decode cc pc = .ok (.getfield idx, 3)) (kk : W p l e R s m args below meth c H locs cells slots Q (F0 m (pc + 3) ls (.int (M.1 a 1) :: rest))) : W p l e R s m args below meth c H locs cells slots Q (F0 m pc ls (.ref (B + a) :: rest)) :=
  g_get F w (C := RX7) (T := TX7) (N := 2) (ci := 7) (k := 1) (kd_lt hk (by decide)) (sh_7 hk _ _) rfl inT7 (by decide) rfl hlink rfl hdg kk
theorem u_7_1 (F : CallFix p m c cc nL s args TB own) (w : Wd D B cy s H0 M H locs) {a idx : Nat} {x : Int32} (hk : kd a = (7, 0, 0)) (hlink : Cond.fieldLink own idx "ToneLines$Speller" "size" "I" ∈ TB) (hdg : decode cc pc = .ok (.putfield idx, 3)) (kk : ∀ (H1 : Heap) (locs1 : List Loc), Wd D B cy s H0 (st M a 1 x) H1 locs1 → W p l e R s m args below meth c H1 locs1 cells slots Q (F0 m (pc + 3) ls rest)) : W p l e R s m args below meth c H locs cells slots Q (F0 m pc ls (.int x :: .ref (B + a) :: rest)) :=
  g_put F w (C := RX7) (T := TX7) (N := 2) (ci := 7) (k := 1) (ty := .int) tyX7 tyX7_ok nmX7 (kd_lt hk (by decide)) (sh_7 hk _ _) (by rw [sh_7 hk]; simp [upd]) rfl inT7 (by decide) rfl hlink rfl (by decide +kernel) rfl rfl (Nat.le_of_ble_eq_true rfl) hdg kk
theorem f_8_0 (F : CallFix p m c cc nL s args TB own) (w : Wd D B cy s H0 M H locs) {a idx : Nat} (hk : kd a = (8, 0, 0)) (hlink : Cond.fieldLink own idx "ToneLines$Tape" "bytes" "[B" ∈ TB) (hdg : decode cc pc = .ok (.getfield idx, 3)) (kk : W p l e R s m args below meth c H locs cells slots Q (F0 m (pc + 3) ls (.ref (B + 2) :: rest))) : W p l e R s m args below meth c H locs cells slots Q (F0 m pc ls (.ref (B + a) :: rest)) :=
  g_get F w (C := RX8) (T := TX8) (N := 2) (ci := 8) (k := 0) (kd_lt hk (by decide)) (sh_8 hk _ _) rfl inT8 (by decide) rfl hlink rfl hdg kk
theorem f_8_1 (F : CallFix p m c cc nL s args TB own) (w : Wd D B cy s H0 M H locs) {a idx : Nat} (hk : kd a = (8, 0, 0)) (hlink : Cond.fieldLink own idx "ToneLines$Tape" "size" "I" ∈ TB) (hdg : decode cc pc = .ok (.getfield idx, 3)) (kk : W p l e R s m args below meth c H locs cells slots Q (F0 m (pc + 3) ls (.int (M.1 a 1) :: rest))) : W p l e R s m args below meth c H locs cells slots Q (F0 m pc ls (.ref (B + a) :: rest)) :=
  g_get F w (C := RX8) (T := TX8) (N := 2) (ci := 8) (k := 1) (kd_lt hk (by decide)) (sh_8 hk _ _) rfl inT8 (by decide) rfl hlink rfl hdg kk
theorem u_8_1 (F : CallFix p m c cc nL s args TB own) (w : Wd D B cy s H0 M H locs) {a idx : Nat} {x : Int32} (hk : kd a = (8, 0, 0)) (hlink : Cond.fieldLink own idx "ToneLines$Tape" "size" "I" ∈ TB) (hdg : decode cc pc = .ok (.putfield idx, 3)) (kk : ∀ (H1 : Heap) (locs1 : List Loc), Wd D B cy s H0 (st M a 1 x) H1 locs1 → W p l e R s m args below meth c H1 locs1 cells slots Q (F0 m (pc + 3) ls rest)) : W p l e R s m args below meth c H locs cells slots Q (F0 m pc ls (.int x :: .ref (B + a) :: rest)) :=
  g_put F w (C := RX8) (T := TX8) (N := 2) (ci := 8) (k := 1) (ty := .int) tyX8 tyX8_ok nmX8 (kd_lt hk (by decide)) (sh_8 hk _ _) (by rw [sh_8 hk]; simp [upd]) rfl inT8 (by decide) rfl hlink rfl (by decide +kernel) rfl rfl (Nat.le_of_ble_eq_true rfl) hdg kk
theorem f_9_0 (F : CallFix p m c cc nL s args TB own) (w : Wd D B cy s H0 M H locs) {a idx : Nat} (hk : kd a = (9, 0, 0)) (hlink : Cond.fieldLink own idx "ToneLines$Word" "tones" "I" ∈ TB) (hdg : decode cc pc = .ok (.getfield idx, 3)) (kk : W p l e R s m args below meth c H locs cells slots Q (F0 m (pc + 3) ls (.int (M.1 a 0) :: rest))) : W p l e R s m args below meth c H locs cells slots Q (F0 m pc ls (.ref (B + a) :: rest)) :=
  g_get F w (C := RX9) (T := TX9) (N := 6) (ci := 9) (k := 0) (kd_lt hk (by decide)) (sh_9 hk _ _) rfl inT9 (by decide) rfl hlink rfl hdg kk
theorem u_9_0 (F : CallFix p m c cc nL s args TB own) (w : Wd D B cy s H0 M H locs) {a idx : Nat} {x : Int32} (hk : kd a = (9, 0, 0)) (hlink : Cond.fieldLink own idx "ToneLines$Word" "tones" "I" ∈ TB) (hdg : decode cc pc = .ok (.putfield idx, 3)) (kk : ∀ (H1 : Heap) (locs1 : List Loc), Wd D B cy s H0 (st M a 0 x) H1 locs1 → W p l e R s m args below meth c H1 locs1 cells slots Q (F0 m (pc + 3) ls rest)) : W p l e R s m args below meth c H locs cells slots Q (F0 m pc ls (.int x :: .ref (B + a) :: rest)) :=
  g_put F w (C := RX9) (T := TX9) (N := 6) (ci := 9) (k := 0) (ty := .int) tyX9 tyX9_ok nmX9 (kd_lt hk (by decide)) (sh_9 hk _ _) (by rw [sh_9 hk]; simp [upd]) rfl inT9 (by decide) rfl hlink rfl (by decide +kernel) rfl rfl (Nat.le_of_ble_eq_true rfl) hdg kk
theorem f_9_1 (F : CallFix p m c cc nL s args TB own) (w : Wd D B cy s H0 M H locs) {a idx : Nat} (hk : kd a = (9, 0, 0)) (hlink : Cond.fieldLink own idx "ToneLines$Word" "syllables" "I" ∈ TB) (hdg : decode cc pc = .ok (.getfield idx, 3)) (kk : W p l e R s m args below meth c H locs cells slots Q (F0 m (pc + 3) ls (.int (M.1 a 1) :: rest))) : W p l e R s m args below meth c H locs cells slots Q (F0 m pc ls (.ref (B + a) :: rest)) :=
  g_get F w (C := RX9) (T := TX9) (N := 6) (ci := 9) (k := 1) (kd_lt hk (by decide)) (sh_9 hk _ _) rfl inT9 (by decide) rfl hlink rfl hdg kk
theorem u_9_1 (F : CallFix p m c cc nL s args TB own) (w : Wd D B cy s H0 M H locs) {a idx : Nat} {x : Int32} (hk : kd a = (9, 0, 0)) (hlink : Cond.fieldLink own idx "ToneLines$Word" "syllables" "I" ∈ TB) (hdg : decode cc pc = .ok (.putfield idx, 3)) (kk : ∀ (H1 : Heap) (locs1 : List Loc), Wd D B cy s H0 (st M a 1 x) H1 locs1 → W p l e R s m args below meth c H1 locs1 cells slots Q (F0 m (pc + 3) ls rest)) : W p l e R s m args below meth c H locs cells slots Q (F0 m pc ls (.int x :: .ref (B + a) :: rest)) :=
  g_put F w (C := RX9) (T := TX9) (N := 6) (ci := 9) (k := 1) (ty := .int) tyX9 tyX9_ok nmX9 (kd_lt hk (by decide)) (sh_9 hk _ _) (by rw [sh_9 hk]; simp [upd]) rfl inT9 (by decide) rfl hlink rfl (by decide +kernel) rfl rfl (Nat.le_of_ble_eq_true rfl) hdg kk
theorem f_9_2 (F : CallFix p m c cc nL s args TB own) (w : Wd D B cy s H0 M H locs) {a idx : Nat} (hk : kd a = (9, 0, 0)) (hlink : Cond.fieldLink own idx "ToneLines$Word" "heavy" "I" ∈ TB) (hdg : decode cc pc = .ok (.getfield idx, 3)) (kk : W p l e R s m args below meth c H locs cells slots Q (F0 m (pc + 3) ls (.int (M.1 a 2) :: rest))) : W p l e R s m args below meth c H locs cells slots Q (F0 m pc ls (.ref (B + a) :: rest)) :=
  g_get F w (C := RX9) (T := TX9) (N := 6) (ci := 9) (k := 2) (kd_lt hk (by decide)) (sh_9 hk _ _) rfl inT9 (by decide) rfl hlink rfl hdg kk
theorem u_9_2 (F : CallFix p m c cc nL s args TB own) (w : Wd D B cy s H0 M H locs) {a idx : Nat} {x : Int32} (hk : kd a = (9, 0, 0)) (hlink : Cond.fieldLink own idx "ToneLines$Word" "heavy" "I" ∈ TB) (hdg : decode cc pc = .ok (.putfield idx, 3)) (kk : ∀ (H1 : Heap) (locs1 : List Loc), Wd D B cy s H0 (st M a 2 x) H1 locs1 → W p l e R s m args below meth c H1 locs1 cells slots Q (F0 m (pc + 3) ls rest)) : W p l e R s m args below meth c H locs cells slots Q (F0 m pc ls (.int x :: .ref (B + a) :: rest)) :=
  g_put F w (C := RX9) (T := TX9) (N := 6) (ci := 9) (k := 2) (ty := .int) tyX9 tyX9_ok nmX9 (kd_lt hk (by decide)) (sh_9 hk _ _) (by rw [sh_9 hk]; simp [upd]) rfl inT9 (by decide) rfl hlink rfl (by decide +kernel) rfl rfl (Nat.le_of_ble_eq_true rfl) hdg kk
theorem f_9_3 (F : CallFix p m c cc nL s args TB own) (w : Wd D B cy s H0 M H locs) {a idx : Nat} (hk : kd a = (9, 0, 0)) (hlink : Cond.fieldLink own idx "ToneLines$Word" "edges" "I" ∈ TB) (hdg : decode cc pc = .ok (.getfield idx, 3)) (kk : W p l e R s m args below meth c H locs cells slots Q (F0 m (pc + 3) ls (.int (M.1 a 3) :: rest))) : W p l e R s m args below meth c H locs cells slots Q (F0 m pc ls (.ref (B + a) :: rest)) :=
  g_get F w (C := RX9) (T := TX9) (N := 6) (ci := 9) (k := 3) (kd_lt hk (by decide)) (sh_9 hk _ _) rfl inT9 (by decide) rfl hlink rfl hdg kk
theorem u_9_3 (F : CallFix p m c cc nL s args TB own) (w : Wd D B cy s H0 M H locs) {a idx : Nat} {x : Int32} (hk : kd a = (9, 0, 0)) (hlink : Cond.fieldLink own idx "ToneLines$Word" "edges" "I" ∈ TB) (hdg : decode cc pc = .ok (.putfield idx, 3)) (kk : ∀ (H1 : Heap) (locs1 : List Loc), Wd D B cy s H0 (st M a 3 x) H1 locs1 → W p l e R s m args below meth c H1 locs1 cells slots Q (F0 m (pc + 3) ls rest)) : W p l e R s m args below meth c H locs cells slots Q (F0 m pc ls (.int x :: .ref (B + a) :: rest)) :=
  g_put F w (C := RX9) (T := TX9) (N := 6) (ci := 9) (k := 3) (ty := .int) tyX9 tyX9_ok nmX9 (kd_lt hk (by decide)) (sh_9 hk _ _) (by rw [sh_9 hk]; simp [upd]) rfl inT9 (by decide) rfl hlink rfl (by decide +kernel) rfl rfl (Nat.le_of_ble_eq_true rfl) hdg kk
theorem f_9_4 (F : CallFix p m c cc nL s args TB own) (w : Wd D B cy s H0 M H locs) {a idx : Nat} (hk : kd a = (9, 0, 0)) (hlink : Cond.fieldLink own idx "ToneLines$Word" "kinds" "[I" ∈ TB) (hdg : decode cc pc = .ok (.getfield idx, 3)) (kk : W p l e R s m args below meth c H locs cells slots Q (F0 m (pc + 3) ls (.ref (B + (a + 1)) :: rest))) : W p l e R s m args below meth c H locs cells slots Q (F0 m pc ls (.ref (B + a) :: rest)) :=
  g_get F w (C := RX9) (T := TX9) (N := 6) (ci := 9) (k := 4) (kd_lt hk (by decide)) (sh_9 hk _ _) rfl inT9 (by decide) rfl hlink rfl hdg kk
theorem f_9_5 (F : CallFix p m c cc nL s args TB own) (w : Wd D B cy s H0 M H locs) {a idx : Nat} (hk : kd a = (9, 0, 0)) (hlink : Cond.fieldLink own idx "ToneLines$Word" "lines" "[I" ∈ TB) (hdg : decode cc pc = .ok (.getfield idx, 3)) (kk : W p l e R s m args below meth c H locs cells slots Q (F0 m (pc + 3) ls (.ref (B + (a + 2)) :: rest))) : W p l e R s m args below meth c H locs cells slots Q (F0 m pc ls (.ref (B + a) :: rest)) :=
  g_get F w (C := RX9) (T := TX9) (N := 6) (ci := 9) (k := 5) (kd_lt hk (by decide)) (sh_9 hk _ _) rfl inT9 (by decide) rfl hlink rfl hdg kk
theorem f_10_0 (F : CallFix p m c cc nL s args TB own) (w : Wd D B cy s H0 M H locs) {a idx : Nat} (hk : kd a = (10, 0, 0)) (hlink : Cond.fieldLink own idx "ToneLines$WordReader" "tape" "LToneLines$Tape;" ∈ TB) (hdg : decode cc pc = .ok (.getfield idx, 3)) (kk : W p l e R s m args below meth c H locs cells slots Q (F0 m (pc + 3) ls (.ref (B + 1) :: rest))) : W p l e R s m args below meth c H locs cells slots Q (F0 m pc ls (.ref (B + a) :: rest)) :=
  g_get F w (C := RX10) (T := TX10) (N := 2) (ci := 10) (k := 0) (kd_lt hk (by decide)) (sh_10 hk _ _) rfl inT10 (by decide) rfl hlink rfl hdg kk
theorem f_10_1 (F : CallFix p m c cc nL s args TB own) (w : Wd D B cy s H0 M H locs) {a idx : Nat} (hk : kd a = (10, 0, 0)) (hlink : Cond.fieldLink own idx "ToneLines$WordReader" "at" "I" ∈ TB) (hdg : decode cc pc = .ok (.getfield idx, 3)) (kk : W p l e R s m args below meth c H locs cells slots Q (F0 m (pc + 3) ls (.int (M.1 a 1) :: rest))) : W p l e R s m args below meth c H locs cells slots Q (F0 m pc ls (.ref (B + a) :: rest)) :=
  g_get F w (C := RX10) (T := TX10) (N := 2) (ci := 10) (k := 1) (kd_lt hk (by decide)) (sh_10 hk _ _) rfl inT10 (by decide) rfl hlink rfl hdg kk
theorem u_10_1 (F : CallFix p m c cc nL s args TB own) (w : Wd D B cy s H0 M H locs) {a idx : Nat} {x : Int32} (hk : kd a = (10, 0, 0)) (hlink : Cond.fieldLink own idx "ToneLines$WordReader" "at" "I" ∈ TB) (hdg : decode cc pc = .ok (.putfield idx, 3)) (kk : ∀ (H1 : Heap) (locs1 : List Loc), Wd D B cy s H0 (st M a 1 x) H1 locs1 → W p l e R s m args below meth c H1 locs1 cells slots Q (F0 m (pc + 3) ls rest)) : W p l e R s m args below meth c H locs cells slots Q (F0 m pc ls (.int x :: .ref (B + a) :: rest)) :=
  g_put F w (C := RX10) (T := TX10) (N := 2) (ci := 10) (k := 1) (ty := .int) tyX10 tyX10_ok nmX10 (kd_lt hk (by decide)) (sh_10 hk _ _) (by rw [sh_10 hk]; simp [upd]) rfl inT10 (by decide) rfl hlink rfl (by decide +kernel) rfl rfl (Nat.le_of_ble_eq_true rfl) hdg kk
theorem f_11_0 (F : CallFix p m c cc nL s args TB own) (w : Wd D B cy s H0 M H locs) {a idx : Nat} (hk : kd a = (11, 0, 0)) (hlink : Cond.fieldLink own idx "ToneLines" "tape" "LToneLines$Tape;" ∈ TB) (hdg : decode cc pc = .ok (.getfield idx, 3)) (kk : W p l e R s m args below meth c H locs cells slots Q (F0 m (pc + 3) ls (.ref (B + 1) :: rest))) : W p l e R s m args below meth c H locs cells slots Q (F0 m pc ls (.ref (B + a) :: rest)) :=
  g_get F w (C := RX11) (T := TX11) (N := 10) (ci := 11) (k := 0) (kd_lt hk (by decide)) (sh_11 hk _ _) rfl inT11 (by decide) rfl hlink rfl hdg kk
theorem f_11_1 (F : CallFix p m c cc nL s args TB own) (w : Wd D B cy s H0 M H locs) {a idx : Nat} (hk : kd a = (11, 0, 0)) (hlink : Cond.fieldLink own idx "ToneLines" "wordReader" "LToneLines$WordReader;" ∈ TB) (hdg : decode cc pc = .ok (.getfield idx, 3)) (kk : W p l e R s m args below meth c H locs cells slots Q (F0 m (pc + 3) ls (.ref (B + 3) :: rest))) : W p l e R s m args below meth c H locs cells slots Q (F0 m pc ls (.ref (B + a) :: rest)) :=
  g_get F w (C := RX11) (T := TX11) (N := 10) (ci := 11) (k := 1) (kd_lt hk (by decide)) (sh_11 hk _ _) rfl inT11 (by decide) rfl hlink rfl hdg kk
theorem f_11_2 (F : CallFix p m c cc nL s args TB own) (w : Wd D B cy s H0 M H locs) {a idx : Nat} (hk : kd a = (11, 0, 0)) (hlink : Cond.fieldLink own idx "ToneLines" "ruleReader" "LToneLines$RuleReader;" ∈ TB) (hdg : decode cc pc = .ok (.getfield idx, 3)) (kk : W p l e R s m args below meth c H locs cells slots Q (F0 m (pc + 3) ls (.ref (B + 4) :: rest))) : W p l e R s m args below meth c H locs cells slots Q (F0 m pc ls (.ref (B + a) :: rest)) :=
  g_get F w (C := RX11) (T := TX11) (N := 10) (ci := 11) (k := 2) (kd_lt hk (by decide)) (sh_11 hk _ _) rfl inT11 (by decide) rfl hlink rfl hdg kk
theorem f_11_3 (F : CallFix p m c cc nL s args TB own) (w : Wd D B cy s H0 M H locs) {a idx : Nat} (hk : kd a = (11, 0, 0)) (hlink : Cond.fieldLink own idx "ToneLines" "derivation" "LToneLines$Derivation;" ∈ TB) (hdg : decode cc pc = .ok (.getfield idx, 3)) (kk : W p l e R s m args below meth c H locs cells slots Q (F0 m (pc + 3) ls (.ref (B + 22) :: rest))) : W p l e R s m args below meth c H locs cells slots Q (F0 m pc ls (.ref (B + a) :: rest)) :=
  g_get F w (C := RX11) (T := TX11) (N := 10) (ci := 11) (k := 3) (kd_lt hk (by decide)) (sh_11 hk _ _) rfl inT11 (by decide) rfl hlink rfl hdg kk
theorem f_11_4 (F : CallFix p m c cc nL s args TB own) (w : Wd D B cy s H0 M H locs) {a idx : Nat} (hk : kd a = (11, 0, 0)) (hlink : Cond.fieldLink own idx "ToneLines" "told" "LToneLines$Word;" ∈ TB) (hdg : decode cc pc = .ok (.getfield idx, 3)) (kk : W p l e R s m args below meth c H locs cells slots Q (F0 m (pc + 3) ls (.ref (B + 44) :: rest))) : W p l e R s m args below meth c H locs cells slots Q (F0 m pc ls (.ref (B + a) :: rest)) :=
  g_get F w (C := RX11) (T := TX11) (N := 10) (ci := 11) (k := 4) (kd_lt hk (by decide)) (sh_11 hk _ _) rfl inT11 (by decide) rfl hlink rfl hdg kk
theorem f_11_5 (F : CallFix p m c cc nL s args TB own) (w : Wd D B cy s H0 M H locs) {a idx : Nat} (hk : kd a = (11, 0, 0)) (hlink : Cond.fieldLink own idx "ToneLines" "history" "LToneLines$History;" ∈ TB) (hdg : decode cc pc = .ok (.getfield idx, 3)) (kk : W p l e R s m args below meth c H locs cells slots Q (F0 m (pc + 3) ls (.ref (B + 71) :: rest))) : W p l e R s m args below meth c H locs cells slots Q (F0 m pc ls (.ref (B + a) :: rest)) :=
  g_get F w (C := RX11) (T := TX11) (N := 10) (ci := 11) (k := 5) (kd_lt hk (by decide)) (sh_11 hk _ _) rfl inT11 (by decide) rfl hlink rfl hdg kk
theorem f_11_6 (F : CallFix p m c cc nL s args TB own) (w : Wd D B cy s H0 M H locs) {a idx : Nat} (hk : kd a = (11, 0, 0)) (hlink : Cond.fieldLink own idx "ToneLines" "ordering" "LToneLines$Orders;" ∈ TB) (hdg : decode cc pc = .ok (.getfield idx, 3)) (kk : W p l e R s m args below meth c H locs cells slots Q (F0 m (pc + 3) ls (.ref (B + 109) :: rest))) : W p l e R s m args below meth c H locs cells slots Q (F0 m pc ls (.ref (B + a) :: rest)) :=
  g_get F w (C := RX11) (T := TX11) (N := 10) (ci := 11) (k := 6) (kd_lt hk (by decide)) (sh_11 hk _ _) rfl inT11 (by decide) rfl hlink rfl hdg kk
theorem f_11_7 (F : CallFix p m c cc nL s args TB own) (w : Wd D B cy s H0 M H locs) {a idx : Nat} (hk : kd a = (11, 0, 0)) (hlink : Cond.fieldLink own idx "ToneLines" "alikes" "LToneLines$Sources;" ∈ TB) (hdg : decode cc pc = .ok (.getfield idx, 3)) (kk : W p l e R s m args below meth c H locs cells slots Q (F0 m (pc + 3) ls (.ref (B + 135) :: rest))) : W p l e R s m args below meth c H locs cells slots Q (F0 m pc ls (.ref (B + a) :: rest)) :=
  g_get F w (C := RX11) (T := TX11) (N := 10) (ci := 11) (k := 7) (kd_lt hk (by decide)) (sh_11 hk _ _) rfl inT11 (by decide) rfl hlink rfl hdg kk
theorem f_11_8 (F : CallFix p m c cc nL s args TB own) (w : Wd D B cy s H0 M H locs) {a idx : Nat} (hk : kd a = (11, 0, 0)) (hlink : Cond.fieldLink own idx "ToneLines" "speller" "LToneLines$Speller;" ∈ TB) (hdg : decode cc pc = .ok (.getfield idx, 3)) (kk : W p l e R s m args below meth c H locs cells slots Q (F0 m (pc + 3) ls (.ref (B + 141) :: rest))) : W p l e R s m args below meth c H locs cells slots Q (F0 m pc ls (.ref (B + a) :: rest)) :=
  g_get F w (C := RX11) (T := TX11) (N := 10) (ci := 11) (k := 8) (kd_lt hk (by decide)) (sh_11 hk _ _) rfl inT11 (by decide) rfl hlink rfl hdg kk
theorem f_11_9 (F : CallFix p m c cc nL s args TB own) (w : Wd D B cy s H0 M H locs) {a idx : Nat} (hk : kd a = (11, 0, 0)) (hlink : Cond.fieldLink own idx "ToneLines" "draft" "LToneLines$Word;" ∈ TB) (hdg : decode cc pc = .ok (.getfield idx, 3)) (kk : W p l e R s m args below meth c H locs cells slots Q (F0 m (pc + 3) ls (.ref (B + 143) :: rest))) : W p l e R s m args below meth c H locs cells slots Q (F0 m pc ls (.ref (B + a) :: rest)) :=
  g_get F w (C := RX11) (T := TX11) (N := 10) (ci := 11) (k := 9) (kd_lt hk (by decide)) (sh_11 hk _ _) rfl inT11 (by decide) rfl hlink rfl hdg kk
theorem f_12_0 (F : CallFix p m c cc nL s args TB own) (w : Wd D B cy s H0 M H locs) {a idx : Nat} (hk : kd a = (12, 0, 0)) (hlink : Cond.fieldLink own idx "ToneLinesModel" "thrown" "I" ∈ TB) (hdg : decode cc pc = .ok (.getfield idx, 3)) (kk : W p l e R s m args below meth c H locs cells slots Q (F0 m (pc + 3) ls (.int (M.1 a 0) :: rest))) : W p l e R s m args below meth c H locs cells slots Q (F0 m pc ls (.ref (B + a) :: rest)) :=
  g_get F w (C := RX12) (T := TX12) (N := 27) (ci := 12) (k := 0) (kd_lt hk (by decide)) (sh_12 hk _ _) rfl inT12 (by decide) rfl hlink rfl hdg kk
theorem u_12_0 (F : CallFix p m c cc nL s args TB own) (w : Wd D B cy s H0 M H locs) {a idx : Nat} {x : Int32} (hk : kd a = (12, 0, 0)) (hlink : Cond.fieldLink own idx "ToneLinesModel" "thrown" "I" ∈ TB) (hdg : decode cc pc = .ok (.putfield idx, 3)) (kk : ∀ (H1 : Heap) (locs1 : List Loc), Wd D B cy s H0 (st M a 0 x) H1 locs1 → W p l e R s m args below meth c H1 locs1 cells slots Q (F0 m (pc + 3) ls rest)) : W p l e R s m args below meth c H locs cells slots Q (F0 m pc ls (.int x :: .ref (B + a) :: rest)) :=
  g_put F w (C := RX12) (T := TX12) (N := 27) (ci := 12) (k := 0) (ty := .int) tyX12 tyX12_ok nmX12 (kd_lt hk (by decide)) (sh_12 hk _ _) (by rw [sh_12 hk]; simp [upd]) rfl inT12 (by decide) rfl hlink rfl (by decide +kernel) rfl rfl (Nat.le_of_ble_eq_true rfl) hdg kk
theorem f_12_1 (F : CallFix p m c cc nL s args TB own) (w : Wd D B cy s H0 M H locs) {a idx : Nat} (hk : kd a = (12, 0, 0)) (hlink : Cond.fieldLink own idx "ToneLinesModel" "told" "[I" ∈ TB) (hdg : decode cc pc = .ok (.getfield idx, 3)) (kk : W p l e R s m args below meth c H locs cells slots Q (F0 m (pc + 3) ls (.ref (B + 147) :: rest))) : W p l e R s m args below meth c H locs cells slots Q (F0 m pc ls (.ref (B + a) :: rest)) :=
  g_get F w (C := RX12) (T := TX12) (N := 27) (ci := 12) (k := 1) (kd_lt hk (by decide)) (sh_12 hk _ _) rfl inT12 (by decide) rfl hlink rfl hdg kk
theorem f_12_2 (F : CallFix p m c cc nL s args TB own) (w : Wd D B cy s H0 M H locs) {a idx : Nat} (hk : kd a = (12, 0, 0)) (hlink : Cond.fieldLink own idx "ToneLinesModel" "now" "[I" ∈ TB) (hdg : decode cc pc = .ok (.getfield idx, 3)) (kk : W p l e R s m args below meth c H locs cells slots Q (F0 m (pc + 3) ls (.ref (B + 148) :: rest))) : W p l e R s m args below meth c H locs cells slots Q (F0 m pc ls (.ref (B + a) :: rest)) :=
  g_get F w (C := RX12) (T := TX12) (N := 27) (ci := 12) (k := 2) (kd_lt hk (by decide)) (sh_12 hk _ _) rfl inT12 (by decide) rfl hlink rfl hdg kk
theorem f_12_3 (F : CallFix p m c cc nL s args TB own) (w : Wd D B cy s H0 M H locs) {a idx : Nat} (hk : kd a = (12, 0, 0)) (hlink : Cond.fieldLink own idx "ToneLinesModel" "changes" "I" ∈ TB) (hdg : decode cc pc = .ok (.getfield idx, 3)) (kk : W p l e R s m args below meth c H locs cells slots Q (F0 m (pc + 3) ls (.int (M.1 a 3) :: rest))) : W p l e R s m args below meth c H locs cells slots Q (F0 m pc ls (.ref (B + a) :: rest)) :=
  g_get F w (C := RX12) (T := TX12) (N := 27) (ci := 12) (k := 3) (kd_lt hk (by decide)) (sh_12 hk _ _) rfl inT12 (by decide) rfl hlink rfl hdg kk
theorem u_12_3 (F : CallFix p m c cc nL s args TB own) (w : Wd D B cy s H0 M H locs) {a idx : Nat} {x : Int32} (hk : kd a = (12, 0, 0)) (hlink : Cond.fieldLink own idx "ToneLinesModel" "changes" "I" ∈ TB) (hdg : decode cc pc = .ok (.putfield idx, 3)) (kk : ∀ (H1 : Heap) (locs1 : List Loc), Wd D B cy s H0 (st M a 3 x) H1 locs1 → W p l e R s m args below meth c H1 locs1 cells slots Q (F0 m (pc + 3) ls rest)) : W p l e R s m args below meth c H locs cells slots Q (F0 m pc ls (.int x :: .ref (B + a) :: rest)) :=
  g_put F w (C := RX12) (T := TX12) (N := 27) (ci := 12) (k := 3) (ty := .int) tyX12 tyX12_ok nmX12 (kd_lt hk (by decide)) (sh_12 hk _ _) (by rw [sh_12 hk]; simp [upd]) rfl inT12 (by decide) rfl hlink rfl (by decide +kernel) rfl rfl (Nat.le_of_ble_eq_true rfl) hdg kk
theorem f_12_4 (F : CallFix p m c cc nL s args TB own) (w : Wd D B cy s H0 M H locs) {a idx : Nat} (hk : kd a = (12, 0, 0)) (hlink : Cond.fieldLink own idx "ToneLinesModel" "rule" "[I" ∈ TB) (hdg : decode cc pc = .ok (.getfield idx, 3)) (kk : W p l e R s m args below meth c H locs cells slots Q (F0 m (pc + 3) ls (.ref (B + 149) :: rest))) : W p l e R s m args below meth c H locs cells slots Q (F0 m pc ls (.ref (B + a) :: rest)) :=
  g_get F w (C := RX12) (T := TX12) (N := 27) (ci := 12) (k := 4) (kd_lt hk (by decide)) (sh_12 hk _ _) rfl inT12 (by decide) rfl hlink rfl hdg kk
theorem f_12_5 (F : CallFix p m c cc nL s args TB own) (w : Wd D B cy s H0 M H locs) {a idx : Nat} (hk : kd a = (12, 0, 0)) (hlink : Cond.fieldLink own idx "ToneLinesModel" "ruleMany" "I" ∈ TB) (hdg : decode cc pc = .ok (.getfield idx, 3)) (kk : W p l e R s m args below meth c H locs cells slots Q (F0 m (pc + 3) ls (.int (M.1 a 5) :: rest))) : W p l e R s m args below meth c H locs cells slots Q (F0 m pc ls (.ref (B + a) :: rest)) :=
  g_get F w (C := RX12) (T := TX12) (N := 27) (ci := 12) (k := 5) (kd_lt hk (by decide)) (sh_12 hk _ _) rfl inT12 (by decide) rfl hlink rfl hdg kk
theorem u_12_5 (F : CallFix p m c cc nL s args TB own) (w : Wd D B cy s H0 M H locs) {a idx : Nat} {x : Int32} (hk : kd a = (12, 0, 0)) (hlink : Cond.fieldLink own idx "ToneLinesModel" "ruleMany" "I" ∈ TB) (hdg : decode cc pc = .ok (.putfield idx, 3)) (kk : ∀ (H1 : Heap) (locs1 : List Loc), Wd D B cy s H0 (st M a 5 x) H1 locs1 → W p l e R s m args below meth c H1 locs1 cells slots Q (F0 m (pc + 3) ls rest)) : W p l e R s m args below meth c H locs cells slots Q (F0 m pc ls (.int x :: .ref (B + a) :: rest)) :=
  g_put F w (C := RX12) (T := TX12) (N := 27) (ci := 12) (k := 5) (ty := .int) tyX12 tyX12_ok nmX12 (kd_lt hk (by decide)) (sh_12 hk _ _) (by rw [sh_12 hk]; simp [upd]) rfl inT12 (by decide) rfl hlink rfl (by decide +kernel) rfl rfl (Nat.le_of_ble_eq_true rfl) hdg kk
theorem f_12_6 (F : CallFix p m c cc nL s args TB own) (w : Wd D B cy s H0 M H locs) {a idx : Nat} (hk : kd a = (12, 0, 0)) (hlink : Cond.fieldLink own idx "ToneLinesModel" "passMany" "I" ∈ TB) (hdg : decode cc pc = .ok (.getfield idx, 3)) (kk : W p l e R s m args below meth c H locs cells slots Q (F0 m (pc + 3) ls (.int (M.1 a 6) :: rest))) : W p l e R s m args below meth c H locs cells slots Q (F0 m pc ls (.ref (B + a) :: rest)) :=
  g_get F w (C := RX12) (T := TX12) (N := 27) (ci := 12) (k := 6) (kd_lt hk (by decide)) (sh_12 hk _ _) rfl inT12 (by decide) rfl hlink rfl hdg kk
theorem u_12_6 (F : CallFix p m c cc nL s args TB own) (w : Wd D B cy s H0 M H locs) {a idx : Nat} {x : Int32} (hk : kd a = (12, 0, 0)) (hlink : Cond.fieldLink own idx "ToneLinesModel" "passMany" "I" ∈ TB) (hdg : decode cc pc = .ok (.putfield idx, 3)) (kk : ∀ (H1 : Heap) (locs1 : List Loc), Wd D B cy s H0 (st M a 6 x) H1 locs1 → W p l e R s m args below meth c H1 locs1 cells slots Q (F0 m (pc + 3) ls rest)) : W p l e R s m args below meth c H locs cells slots Q (F0 m pc ls (.int x :: .ref (B + a) :: rest)) :=
  g_put F w (C := RX12) (T := TX12) (N := 27) (ci := 12) (k := 6) (ty := .int) tyX12 tyX12_ok nmX12 (kd_lt hk (by decide)) (sh_12 hk _ _) (by rw [sh_12 hk]; simp [upd]) rfl inT12 (by decide) rfl hlink rfl (by decide +kernel) rfl rfl (Nat.le_of_ble_eq_true rfl) hdg kk
theorem f_12_7 (F : CallFix p m c cc nL s args TB own) (w : Wd D B cy s H0 M H locs) {a idx : Nat} (hk : kd a = (12, 0, 0)) (hlink : Cond.fieldLink own idx "ToneLinesModel" "tape" "[I" ∈ TB) (hdg : decode cc pc = .ok (.getfield idx, 3)) (kk : W p l e R s m args below meth c H locs cells slots Q (F0 m (pc + 3) ls (.ref (B + 150) :: rest))) : W p l e R s m args below meth c H locs cells slots Q (F0 m pc ls (.ref (B + a) :: rest)) :=
  g_get F w (C := RX12) (T := TX12) (N := 27) (ci := 12) (k := 7) (kd_lt hk (by decide)) (sh_12 hk _ _) rfl inT12 (by decide) rfl hlink rfl hdg kk
theorem f_12_8 (F : CallFix p m c cc nL s args TB own) (w : Wd D B cy s H0 M H locs) {a idx : Nat} (hk : kd a = (12, 0, 0)) (hlink : Cond.fieldLink own idx "ToneLinesModel" "taped" "I" ∈ TB) (hdg : decode cc pc = .ok (.getfield idx, 3)) (kk : W p l e R s m args below meth c H locs cells slots Q (F0 m (pc + 3) ls (.int (M.1 a 8) :: rest))) : W p l e R s m args below meth c H locs cells slots Q (F0 m pc ls (.ref (B + a) :: rest)) :=
  g_get F w (C := RX12) (T := TX12) (N := 27) (ci := 12) (k := 8) (kd_lt hk (by decide)) (sh_12 hk _ _) rfl inT12 (by decide) rfl hlink rfl hdg kk
theorem u_12_8 (F : CallFix p m c cc nL s args TB own) (w : Wd D B cy s H0 M H locs) {a idx : Nat} {x : Int32} (hk : kd a = (12, 0, 0)) (hlink : Cond.fieldLink own idx "ToneLinesModel" "taped" "I" ∈ TB) (hdg : decode cc pc = .ok (.putfield idx, 3)) (kk : ∀ (H1 : Heap) (locs1 : List Loc), Wd D B cy s H0 (st M a 8 x) H1 locs1 → W p l e R s m args below meth c H1 locs1 cells slots Q (F0 m (pc + 3) ls rest)) : W p l e R s m args below meth c H locs cells slots Q (F0 m pc ls (.int x :: .ref (B + a) :: rest)) :=
  g_put F w (C := RX12) (T := TX12) (N := 27) (ci := 12) (k := 8) (ty := .int) tyX12 tyX12_ok nmX12 (kd_lt hk (by decide)) (sh_12 hk _ _) (by rw [sh_12 hk]; simp [upd]) rfl inT12 (by decide) rfl hlink rfl (by decide +kernel) rfl rfl (Nat.le_of_ble_eq_true rfl) hdg kk
theorem f_12_9 (F : CallFix p m c cc nL s args TB own) (w : Wd D B cy s H0 M H locs) {a idx : Nat} (hk : kd a = (12, 0, 0)) (hlink : Cond.fieldLink own idx "ToneLinesModel" "at" "I" ∈ TB) (hdg : decode cc pc = .ok (.getfield idx, 3)) (kk : W p l e R s m args below meth c H locs cells slots Q (F0 m (pc + 3) ls (.int (M.1 a 9) :: rest))) : W p l e R s m args below meth c H locs cells slots Q (F0 m pc ls (.ref (B + a) :: rest)) :=
  g_get F w (C := RX12) (T := TX12) (N := 27) (ci := 12) (k := 9) (kd_lt hk (by decide)) (sh_12 hk _ _) rfl inT12 (by decide) rfl hlink rfl hdg kk
theorem u_12_9 (F : CallFix p m c cc nL s args TB own) (w : Wd D B cy s H0 M H locs) {a idx : Nat} {x : Int32} (hk : kd a = (12, 0, 0)) (hlink : Cond.fieldLink own idx "ToneLinesModel" "at" "I" ∈ TB) (hdg : decode cc pc = .ok (.putfield idx, 3)) (kk : ∀ (H1 : Heap) (locs1 : List Loc), Wd D B cy s H0 (st M a 9 x) H1 locs1 → W p l e R s m args below meth c H1 locs1 cells slots Q (F0 m (pc + 3) ls rest)) : W p l e R s m args below meth c H locs cells slots Q (F0 m pc ls (.int x :: .ref (B + a) :: rest)) :=
  g_put F w (C := RX12) (T := TX12) (N := 27) (ci := 12) (k := 9) (ty := .int) tyX12 tyX12_ok nmX12 (kd_lt hk (by decide)) (sh_12 hk _ _) (by rw [sh_12 hk]; simp [upd]) rfl inT12 (by decide) rfl hlink rfl (by decide +kernel) rfl rfl (Nat.le_of_ble_eq_true rfl) hdg kk
theorem f_12_10 (F : CallFix p m c cc nL s args TB own) (w : Wd D B cy s H0 M H locs) {a idx : Nat} (hk : kd a = (12, 0, 0)) (hlink : Cond.fieldLink own idx "ToneLinesModel" "read" "[I" ∈ TB) (hdg : decode cc pc = .ok (.getfield idx, 3)) (kk : W p l e R s m args below meth c H locs cells slots Q (F0 m (pc + 3) ls (.ref (B + 151) :: rest))) : W p l e R s m args below meth c H locs cells slots Q (F0 m pc ls (.ref (B + a) :: rest)) :=
  g_get F w (C := RX12) (T := TX12) (N := 27) (ci := 12) (k := 10) (kd_lt hk (by decide)) (sh_12 hk _ _) rfl inT12 (by decide) rfl hlink rfl hdg kk
theorem f_12_11 (F : CallFix p m c cc nL s args TB own) (w : Wd D B cy s H0 M H locs) {a idx : Nat} (hk : kd a = (12, 0, 0)) (hlink : Cond.fieldLink own idx "ToneLinesModel" "number" "I" ∈ TB) (hdg : decode cc pc = .ok (.getfield idx, 3)) (kk : W p l e R s m args below meth c H locs cells slots Q (F0 m (pc + 3) ls (.int (M.1 a 11) :: rest))) : W p l e R s m args below meth c H locs cells slots Q (F0 m pc ls (.ref (B + a) :: rest)) :=
  g_get F w (C := RX12) (T := TX12) (N := 27) (ci := 12) (k := 11) (kd_lt hk (by decide)) (sh_12 hk _ _) rfl inT12 (by decide) rfl hlink rfl hdg kk
theorem u_12_11 (F : CallFix p m c cc nL s args TB own) (w : Wd D B cy s H0 M H locs) {a idx : Nat} {x : Int32} (hk : kd a = (12, 0, 0)) (hlink : Cond.fieldLink own idx "ToneLinesModel" "number" "I" ∈ TB) (hdg : decode cc pc = .ok (.putfield idx, 3)) (kk : ∀ (H1 : Heap) (locs1 : List Loc), Wd D B cy s H0 (st M a 11 x) H1 locs1 → W p l e R s m args below meth c H1 locs1 cells slots Q (F0 m (pc + 3) ls rest)) : W p l e R s m args below meth c H locs cells slots Q (F0 m pc ls (.int x :: .ref (B + a) :: rest)) :=
  g_put F w (C := RX12) (T := TX12) (N := 27) (ci := 12) (k := 11) (ty := .int) tyX12 tyX12_ok nmX12 (kd_lt hk (by decide)) (sh_12 hk _ _) (by rw [sh_12 hk]; simp [upd]) rfl inT12 (by decide) rfl hlink rfl (by decide +kernel) rfl rfl (Nat.le_of_ble_eq_true rfl) hdg kk
theorem f_12_12 (F : CallFix p m c cc nL s args TB own) (w : Wd D B cy s H0 M H locs) {a idx : Nat} (hk : kd a = (12, 0, 0)) (hlink : Cond.fieldLink own idx "ToneLinesModel" "words" "[B" ∈ TB) (hdg : decode cc pc = .ok (.getfield idx, 3)) (kk : W p l e R s m args below meth c H locs cells slots Q (F0 m (pc + 3) ls (.ref (B + 152) :: rest))) : W p l e R s m args below meth c H locs cells slots Q (F0 m pc ls (.ref (B + a) :: rest)) :=
  g_get F w (C := RX12) (T := TX12) (N := 27) (ci := 12) (k := 12) (kd_lt hk (by decide)) (sh_12 hk _ _) rfl inT12 (by decide) rfl hlink rfl hdg kk
theorem f_12_13 (F : CallFix p m c cc nL s args TB own) (w : Wd D B cy s H0 M H locs) {a idx : Nat} (hk : kd a = (12, 0, 0)) (hlink : Cond.fieldLink own idx "ToneLinesModel" "token" "I" ∈ TB) (hdg : decode cc pc = .ok (.getfield idx, 3)) (kk : W p l e R s m args below meth c H locs cells slots Q (F0 m (pc + 3) ls (.int (M.1 a 13) :: rest))) : W p l e R s m args below meth c H locs cells slots Q (F0 m pc ls (.ref (B + a) :: rest)) :=
  g_get F w (C := RX12) (T := TX12) (N := 27) (ci := 12) (k := 13) (kd_lt hk (by decide)) (sh_12 hk _ _) rfl inT12 (by decide) rfl hlink rfl hdg kk
theorem u_12_13 (F : CallFix p m c cc nL s args TB own) (w : Wd D B cy s H0 M H locs) {a idx : Nat} {x : Int32} (hk : kd a = (12, 0, 0)) (hlink : Cond.fieldLink own idx "ToneLinesModel" "token" "I" ∈ TB) (hdg : decode cc pc = .ok (.putfield idx, 3)) (kk : ∀ (H1 : Heap) (locs1 : List Loc), Wd D B cy s H0 (st M a 13 x) H1 locs1 → W p l e R s m args below meth c H1 locs1 cells slots Q (F0 m (pc + 3) ls rest)) : W p l e R s m args below meth c H locs cells slots Q (F0 m pc ls (.int x :: .ref (B + a) :: rest)) :=
  g_put F w (C := RX12) (T := TX12) (N := 27) (ci := 12) (k := 13) (ty := .int) tyX12 tyX12_ok nmX12 (kd_lt hk (by decide)) (sh_12 hk _ _) (by rw [sh_12 hk]; simp [upd]) rfl inT12 (by decide) rfl hlink rfl (by decide +kernel) rfl rfl (Nat.le_of_ble_eq_true rfl) hdg kk
theorem f_12_14 (F : CallFix p m c cc nL s args TB own) (w : Wd D B cy s H0 M H locs) {a idx : Nat} (hk : kd a = (12, 0, 0)) (hlink : Cond.fieldLink own idx "ToneLinesModel" "begun" "I" ∈ TB) (hdg : decode cc pc = .ok (.getfield idx, 3)) (kk : W p l e R s m args below meth c H locs cells slots Q (F0 m (pc + 3) ls (.int (M.1 a 14) :: rest))) : W p l e R s m args below meth c H locs cells slots Q (F0 m pc ls (.ref (B + a) :: rest)) :=
  g_get F w (C := RX12) (T := TX12) (N := 27) (ci := 12) (k := 14) (kd_lt hk (by decide)) (sh_12 hk _ _) rfl inT12 (by decide) rfl hlink rfl hdg kk
theorem u_12_14 (F : CallFix p m c cc nL s args TB own) (w : Wd D B cy s H0 M H locs) {a idx : Nat} {x : Int32} (hk : kd a = (12, 0, 0)) (hlink : Cond.fieldLink own idx "ToneLinesModel" "begun" "I" ∈ TB) (hdg : decode cc pc = .ok (.putfield idx, 3)) (kk : ∀ (H1 : Heap) (locs1 : List Loc), Wd D B cy s H0 (st M a 14 x) H1 locs1 → W p l e R s m args below meth c H1 locs1 cells slots Q (F0 m (pc + 3) ls rest)) : W p l e R s m args below meth c H locs cells slots Q (F0 m pc ls (.int x :: .ref (B + a) :: rest)) :=
  g_put F w (C := RX12) (T := TX12) (N := 27) (ci := 12) (k := 14) (ty := .int) tyX12 tyX12_ok nmX12 (kd_lt hk (by decide)) (sh_12 hk _ _) (by rw [sh_12 hk]; simp [upd]) rfl inT12 (by decide) rfl hlink rfl (by decide +kernel) rfl rfl (Nat.le_of_ble_eq_true rfl) hdg kk
theorem f_12_15 (F : CallFix p m c cc nL s args TB own) (w : Wd D B cy s H0 M H locs) {a idx : Nat} (hk : kd a = (12, 0, 0)) (hlink : Cond.fieldLink own idx "ToneLinesModel" "spelt" "I" ∈ TB) (hdg : decode cc pc = .ok (.getfield idx, 3)) (kk : W p l e R s m args below meth c H locs cells slots Q (F0 m (pc + 3) ls (.int (M.1 a 15) :: rest))) : W p l e R s m args below meth c H locs cells slots Q (F0 m pc ls (.ref (B + a) :: rest)) :=
  g_get F w (C := RX12) (T := TX12) (N := 27) (ci := 12) (k := 15) (kd_lt hk (by decide)) (sh_12 hk _ _) rfl inT12 (by decide) rfl hlink rfl hdg kk
theorem u_12_15 (F : CallFix p m c cc nL s args TB own) (w : Wd D B cy s H0 M H locs) {a idx : Nat} {x : Int32} (hk : kd a = (12, 0, 0)) (hlink : Cond.fieldLink own idx "ToneLinesModel" "spelt" "I" ∈ TB) (hdg : decode cc pc = .ok (.putfield idx, 3)) (kk : ∀ (H1 : Heap) (locs1 : List Loc), Wd D B cy s H0 (st M a 15 x) H1 locs1 → W p l e R s m args below meth c H1 locs1 cells slots Q (F0 m (pc + 3) ls rest)) : W p l e R s m args below meth c H locs cells slots Q (F0 m pc ls (.int x :: .ref (B + a) :: rest)) :=
  g_put F w (C := RX12) (T := TX12) (N := 27) (ci := 12) (k := 15) (ty := .int) tyX12 tyX12_ok nmX12 (kd_lt hk (by decide)) (sh_12 hk _ _) (by rw [sh_12 hk]; simp [upd]) rfl inT12 (by decide) rfl hlink rfl (by decide +kernel) rfl rfl (Nat.le_of_ble_eq_true rfl) hdg kk
theorem f_12_16 (F : CallFix p m c cc nL s args TB own) (w : Wd D B cy s H0 M H locs) {a idx : Nat} (hk : kd a = (12, 0, 0)) (hlink : Cond.fieldLink own idx "ToneLinesModel" "wrong" "Z" ∈ TB) (hdg : decode cc pc = .ok (.getfield idx, 3)) (kk : W p l e R s m args below meth c H locs cells slots Q (F0 m (pc + 3) ls (.int (M.1 a 16) :: rest))) : W p l e R s m args below meth c H locs cells slots Q (F0 m pc ls (.ref (B + a) :: rest)) :=
  g_get F w (C := RX12) (T := TX12) (N := 27) (ci := 12) (k := 16) (kd_lt hk (by decide)) (sh_12 hk _ _) rfl inT12 (by decide) rfl hlink rfl hdg kk
theorem u_12_16 (F : CallFix p m c cc nL s args TB own) (w : Wd D B cy s H0 M H locs) {a idx : Nat} {x : Int32} (hk : kd a = (12, 0, 0)) (hn : narrow .boolean (.int x) = .int x) (hfit : fits .boolean (.int x) = true) (hlink : Cond.fieldLink own idx "ToneLinesModel" "wrong" "Z" ∈ TB) (hdg : decode cc pc = .ok (.putfield idx, 3)) (kk : ∀ (H1 : Heap) (locs1 : List Loc), Wd D B cy s H0 (st M a 16 x) H1 locs1 → W p l e R s m args below meth c H1 locs1 cells slots Q (F0 m (pc + 3) ls rest)) : W p l e R s m args below meth c H locs cells slots Q (F0 m pc ls (.int x :: .ref (B + a) :: rest)) :=
  g_put F w (C := RX12) (T := TX12) (N := 27) (ci := 12) (k := 16) (ty := .boolean) tyX12 tyX12_ok nmX12 (kd_lt hk (by decide)) (sh_12 hk _ _) (by rw [sh_12 hk]; simp [upd]) rfl inT12 (by decide) rfl hlink rfl (by decide +kernel) hn hfit (Nat.le_of_ble_eq_true rfl) hdg kk
theorem f_12_17 (F : CallFix p m c cc nL s args TB own) (w : Wd D B cy s H0 M H locs) {a idx : Nat} (hk : kd a = (12, 0, 0)) (hlink : Cond.fieldLink own idx "ToneLinesModel" "own" "[I" ∈ TB) (hdg : decode cc pc = .ok (.getfield idx, 3)) (kk : W p l e R s m args below meth c H locs cells slots Q (F0 m (pc + 3) ls (.ref (B + 153) :: rest))) : W p l e R s m args below meth c H locs cells slots Q (F0 m pc ls (.ref (B + a) :: rest)) :=
  g_get F w (C := RX12) (T := TX12) (N := 27) (ci := 12) (k := 17) (kd_lt hk (by decide)) (sh_12 hk _ _) rfl inT12 (by decide) rfl hlink rfl hdg kk
theorem f_12_18 (F : CallFix p m c cc nL s args TB own) (w : Wd D B cy s H0 M H locs) {a idx : Nat} (hk : kd a = (12, 0, 0)) (hlink : Cond.fieldLink own idx "ToneLinesModel" "ruleRead" "[I" ∈ TB) (hdg : decode cc pc = .ok (.getfield idx, 3)) (kk : W p l e R s m args below meth c H locs cells slots Q (F0 m (pc + 3) ls (.ref (B + 154) :: rest))) : W p l e R s m args below meth c H locs cells slots Q (F0 m pc ls (.ref (B + a) :: rest)) :=
  g_get F w (C := RX12) (T := TX12) (N := 27) (ci := 12) (k := 18) (kd_lt hk (by decide)) (sh_12 hk _ _) rfl inT12 (by decide) rfl hlink rfl hdg kk
theorem f_12_19 (F : CallFix p m c cc nL s args TB own) (w : Wd D B cy s H0 M H locs) {a idx : Nat} (hk : kd a = (12, 0, 0)) (hlink : Cond.fieldLink own idx "ToneLinesModel" "before" "[I" ∈ TB) (hdg : decode cc pc = .ok (.getfield idx, 3)) (kk : W p l e R s m args below meth c H locs cells slots Q (F0 m (pc + 3) ls (.ref (B + 155) :: rest))) : W p l e R s m args below meth c H locs cells slots Q (F0 m pc ls (.ref (B + a) :: rest)) :=
  g_get F w (C := RX12) (T := TX12) (N := 27) (ci := 12) (k := 19) (kd_lt hk (by decide)) (sh_12 hk _ _) rfl inT12 (by decide) rfl hlink rfl hdg kk
theorem f_12_20 (F : CallFix p m c cc nL s args TB own) (w : Wd D B cy s H0 M H locs) {a idx : Nat} (hk : kd a = (12, 0, 0)) (hlink : Cond.fieldLink own idx "ToneLinesModel" "acts" "I" ∈ TB) (hdg : decode cc pc = .ok (.getfield idx, 3)) (kk : W p l e R s m args below meth c H locs cells slots Q (F0 m (pc + 3) ls (.int (M.1 a 20) :: rest))) : W p l e R s m args below meth c H locs cells slots Q (F0 m pc ls (.ref (B + a) :: rest)) :=
  g_get F w (C := RX12) (T := TX12) (N := 27) (ci := 12) (k := 20) (kd_lt hk (by decide)) (sh_12 hk _ _) rfl inT12 (by decide) rfl hlink rfl hdg kk
theorem u_12_20 (F : CallFix p m c cc nL s args TB own) (w : Wd D B cy s H0 M H locs) {a idx : Nat} {x : Int32} (hk : kd a = (12, 0, 0)) (hlink : Cond.fieldLink own idx "ToneLinesModel" "acts" "I" ∈ TB) (hdg : decode cc pc = .ok (.putfield idx, 3)) (kk : ∀ (H1 : Heap) (locs1 : List Loc), Wd D B cy s H0 (st M a 20 x) H1 locs1 → W p l e R s m args below meth c H1 locs1 cells slots Q (F0 m (pc + 3) ls rest)) : W p l e R s m args below meth c H locs cells slots Q (F0 m pc ls (.int x :: .ref (B + a) :: rest)) :=
  g_put F w (C := RX12) (T := TX12) (N := 27) (ci := 12) (k := 20) (ty := .int) tyX12 tyX12_ok nmX12 (kd_lt hk (by decide)) (sh_12 hk _ _) (by rw [sh_12 hk]; simp [upd]) rfl inT12 (by decide) rfl hlink rfl (by decide +kernel) rfl rfl (Nat.le_of_ble_eq_true rfl) hdg kk
theorem f_12_21 (F : CallFix p m c cc nL s args TB own) (w : Wd D B cy s H0 M H locs) {a idx : Nat} (hk : kd a = (12, 0, 0)) (hlink : Cond.fieldLink own idx "ToneLinesModel" "text" "[I" ∈ TB) (hdg : decode cc pc = .ok (.getfield idx, 3)) (kk : W p l e R s m args below meth c H locs cells slots Q (F0 m (pc + 3) ls (.ref (B + 156) :: rest))) : W p l e R s m args below meth c H locs cells slots Q (F0 m pc ls (.ref (B + a) :: rest)) :=
  g_get F w (C := RX12) (T := TX12) (N := 27) (ci := 12) (k := 21) (kd_lt hk (by decide)) (sh_12 hk _ _) rfl inT12 (by decide) rfl hlink rfl hdg kk
theorem f_12_22 (F : CallFix p m c cc nL s args TB own) (w : Wd D B cy s H0 M H locs) {a idx : Nat} (hk : kd a = (12, 0, 0)) (hlink : Cond.fieldLink own idx "ToneLinesModel" "textMany" "I" ∈ TB) (hdg : decode cc pc = .ok (.getfield idx, 3)) (kk : W p l e R s m args below meth c H locs cells slots Q (F0 m (pc + 3) ls (.int (M.1 a 22) :: rest))) : W p l e R s m args below meth c H locs cells slots Q (F0 m pc ls (.ref (B + a) :: rest)) :=
  g_get F w (C := RX12) (T := TX12) (N := 27) (ci := 12) (k := 22) (kd_lt hk (by decide)) (sh_12 hk _ _) rfl inT12 (by decide) rfl hlink rfl hdg kk
theorem u_12_22 (F : CallFix p m c cc nL s args TB own) (w : Wd D B cy s H0 M H locs) {a idx : Nat} {x : Int32} (hk : kd a = (12, 0, 0)) (hlink : Cond.fieldLink own idx "ToneLinesModel" "textMany" "I" ∈ TB) (hdg : decode cc pc = .ok (.putfield idx, 3)) (kk : ∀ (H1 : Heap) (locs1 : List Loc), Wd D B cy s H0 (st M a 22 x) H1 locs1 → W p l e R s m args below meth c H1 locs1 cells slots Q (F0 m (pc + 3) ls rest)) : W p l e R s m args below meth c H locs cells slots Q (F0 m pc ls (.int x :: .ref (B + a) :: rest)) :=
  g_put F w (C := RX12) (T := TX12) (N := 27) (ci := 12) (k := 22) (ty := .int) tyX12 tyX12_ok nmX12 (kd_lt hk (by decide)) (sh_12 hk _ _) (by rw [sh_12 hk]; simp [upd]) rfl inT12 (by decide) rfl hlink rfl (by decide +kernel) rfl rfl (Nat.le_of_ble_eq_true rfl) hdg kk
theorem f_12_23 (F : CallFix p m c cc nL s args TB own) (w : Wd D B cy s H0 M H locs) {a idx : Nat} (hk : kd a = (12, 0, 0)) (hlink : Cond.fieldLink own idx "ToneLinesModel" "due" "[I" ∈ TB) (hdg : decode cc pc = .ok (.getfield idx, 3)) (kk : W p l e R s m args below meth c H locs cells slots Q (F0 m (pc + 3) ls (.ref (B + 157) :: rest))) : W p l e R s m args below meth c H locs cells slots Q (F0 m pc ls (.ref (B + a) :: rest)) :=
  g_get F w (C := RX12) (T := TX12) (N := 27) (ci := 12) (k := 23) (kd_lt hk (by decide)) (sh_12 hk _ _) rfl inT12 (by decide) rfl hlink rfl hdg kk
theorem f_12_24 (F : CallFix p m c cc nL s args TB own) (w : Wd D B cy s H0 M H locs) {a idx : Nat} (hk : kd a = (12, 0, 0)) (hlink : Cond.fieldLink own idx "ToneLinesModel" "readings" "[I" ∈ TB) (hdg : decode cc pc = .ok (.getfield idx, 3)) (kk : W p l e R s m args below meth c H locs cells slots Q (F0 m (pc + 3) ls (.ref (B + 158) :: rest))) : W p l e R s m args below meth c H locs cells slots Q (F0 m pc ls (.ref (B + a) :: rest)) :=
  g_get F w (C := RX12) (T := TX12) (N := 27) (ci := 12) (k := 24) (kd_lt hk (by decide)) (sh_12 hk _ _) rfl inT12 (by decide) rfl hlink rfl hdg kk
theorem f_12_25 (F : CallFix p m c cc nL s args TB own) (w : Wd D B cy s H0 M H locs) {a idx : Nat} (hk : kd a = (12, 0, 0)) (hlink : Cond.fieldLink own idx "ToneLinesModel" "readingMany" "I" ∈ TB) (hdg : decode cc pc = .ok (.getfield idx, 3)) (kk : W p l e R s m args below meth c H locs cells slots Q (F0 m (pc + 3) ls (.int (M.1 a 25) :: rest))) : W p l e R s m args below meth c H locs cells slots Q (F0 m pc ls (.ref (B + a) :: rest)) :=
  g_get F w (C := RX12) (T := TX12) (N := 27) (ci := 12) (k := 25) (kd_lt hk (by decide)) (sh_12 hk _ _) rfl inT12 (by decide) rfl hlink rfl hdg kk
theorem u_12_25 (F : CallFix p m c cc nL s args TB own) (w : Wd D B cy s H0 M H locs) {a idx : Nat} {x : Int32} (hk : kd a = (12, 0, 0)) (hlink : Cond.fieldLink own idx "ToneLinesModel" "readingMany" "I" ∈ TB) (hdg : decode cc pc = .ok (.putfield idx, 3)) (kk : ∀ (H1 : Heap) (locs1 : List Loc), Wd D B cy s H0 (st M a 25 x) H1 locs1 → W p l e R s m args below meth c H1 locs1 cells slots Q (F0 m (pc + 3) ls rest)) : W p l e R s m args below meth c H locs cells slots Q (F0 m pc ls (.int x :: .ref (B + a) :: rest)) :=
  g_put F w (C := RX12) (T := TX12) (N := 27) (ci := 12) (k := 25) (ty := .int) tyX12 tyX12_ok nmX12 (kd_lt hk (by decide)) (sh_12 hk _ _) (by rw [sh_12 hk]; simp [upd]) rfl inT12 (by decide) rfl hlink rfl (by decide +kernel) rfl rfl (Nat.le_of_ble_eq_true rfl) hdg kk
theorem f_12_26 (F : CallFix p m c cc nL s args TB own) (w : Wd D B cy s H0 M H locs) {a idx : Nat} (hk : kd a = (12, 0, 0)) (hlink : Cond.fieldLink own idx "ToneLinesModel" "firstSource" "I" ∈ TB) (hdg : decode cc pc = .ok (.getfield idx, 3)) (kk : W p l e R s m args below meth c H locs cells slots Q (F0 m (pc + 3) ls (.int (M.1 a 26) :: rest))) : W p l e R s m args below meth c H locs cells slots Q (F0 m pc ls (.ref (B + a) :: rest)) :=
  g_get F w (C := RX12) (T := TX12) (N := 27) (ci := 12) (k := 26) (kd_lt hk (by decide)) (sh_12 hk _ _) rfl inT12 (by decide) rfl hlink rfl hdg kk
theorem u_12_26 (F : CallFix p m c cc nL s args TB own) (w : Wd D B cy s H0 M H locs) {a idx : Nat} {x : Int32} (hk : kd a = (12, 0, 0)) (hlink : Cond.fieldLink own idx "ToneLinesModel" "firstSource" "I" ∈ TB) (hdg : decode cc pc = .ok (.putfield idx, 3)) (kk : ∀ (H1 : Heap) (locs1 : List Loc), Wd D B cy s H0 (st M a 26 x) H1 locs1 → W p l e R s m args below meth c H1 locs1 cells slots Q (F0 m (pc + 3) ls rest)) : W p l e R s m args below meth c H locs cells slots Q (F0 m pc ls (.int x :: .ref (B + a) :: rest)) :=
  g_put F w (C := RX12) (T := TX12) (N := 27) (ci := 12) (k := 26) (ty := .int) tyX12 tyX12_ok nmX12 (kd_lt hk (by decide)) (sh_12 hk _ _) (by rw [sh_12 hk]; simp [upd]) rfl inT12 (by decide) rfl hlink rfl (by decide +kernel) rfl rfl (Nat.le_of_ble_eq_true rfl) hdg kk
end Rows2
