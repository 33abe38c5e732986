-- more of values; what is known of a word's and a rule's place
theorem nar_c {z : Int} (h : 0 ≤ z ∧ z ≤ 65535) : vp_nar .char (zI z) = zI z := by
  obtain ⟨k, rfl⟩ : ∃ k : Nat, z = (k : Int) := ⟨z.toNat, by omega⟩
  rw [zI_nI]
  show (((nI k).toUInt32 % 65536).toInt32 : Int32) = _
  unfold nI
  refine Int32.toBitVec_inj.mp (BitVec.eq_of_toNat_eq ?_)
  show ((BitVec.ofNat 32 k) % 65536#32).toNat = (BitVec.ofNat 32 k).toNat
  rw [BitVec.toNat_umod, BitVec.toNat_ofNat, Nat.mod_eq_of_lt (show k < 2 ^ 32 by omega)]
  exact Nat.mod_eq_of_lt (by show k < 65536; omega)
theorem nar_z {z : Int} (h : z = 0 ∨ z = 1) : narrow .boolean (.int (zI z)) = .int (zI z) := by rcases h with rfl | rfl <;> rfl
theorem nz_z {y : Int} (hy : -2147483648 ≤ y ∧ y ≤ 2147483647) (h : y ≠ 0) : ¬ zI y = 0 := fun e => h ((zI_eq (b := 0) (by constructor <;> omega) (by decide)).mp (by rw [e]; rfl))
theorem min_ex (x y : Int) (hx : -2147483648 ≤ x ∧ x ≤ 2147483647) (hy : -2147483648 ≤ y ∧ y ≤ 2147483647) : ∃ z : Int, ((z = x ∧ x ≤ y) ∨ (z = y ∧ y < x)) ∧ (if zI y < zI x then zI y else zI x) = zI z := by
  by_cases h : y < x
  · exact ⟨y, by omega, if_pos ((zI_lt (by constructor <;> omega) (by constructor <;> omega)).mpr h)⟩
  · exact ⟨x, by omega, if_neg (fun q => h ((zI_lt (by constructor <;> omega) (by constructor <;> omega)).mp q))⟩
theorem max_ex (x y : Int) (hx : -2147483648 ≤ x ∧ x ≤ 2147483647) (hy : -2147483648 ≤ y ∧ y ≤ 2147483647) : ∃ z : Int, ((z = x ∧ y ≤ x) ∨ (z = y ∧ x < y)) ∧ (if zI x < zI y then zI y else zI x) = zI z := by
  by_cases h : x < y
  · exact ⟨y, by omega, if_pos ((zI_lt (by constructor <;> omega) (by constructor <;> omega)).mpr h)⟩
  · exact ⟨x, by omega, if_neg (fun q => h ((zI_lt (by constructor <;> omega) (by constructor <;> omega)).mp q))⟩
theorem w_ap {a : Nat} (hk : kd a = (9, 0, 0)) : (44 ≤ a ∧ a ≤ 68) ∨ (73 ≤ a ∧ a ≤ 106) ∨ (114 ≤ a ∧ a ≤ 132) ∨ a = 138 ∨ a = 143 := (by decide +kernel : ∀ a, a < 159 → kd a = (9, 0, 0) → (44 ≤ a ∧ a ≤ 68) ∨ (73 ≤ a ∧ a ≤ 106) ∨ (114 ≤ a ∧ a ≤ 132) ∨ a = 138 ∨ a = 143) a (kd_lt hk (by decide)) hk
theorem u_ap {a : Nat} (hk : kd a = (4, 0, 0)) : (6 ≤ a ∧ a ≤ 20) ∨ (28 ≤ a ∧ a ≤ 42) := (by decide +kernel : ∀ a, a < 159 → kd a = (4, 0, 0) → (6 ≤ a ∧ a ≤ 20) ∨ (28 ≤ a ∧ a ≤ 42)) a (kd_lt hk (by decide)) hk
theorem fit_z {z : Int} (h : z = 0 ∨ z = 1) : fits .boolean (.int (zI z)) = true := by rcases h with rfl | rfl <;> rfl
theorem div_zI {x y : Int} (hx : 0 ≤ x ∧ x ≤ 2147483647) (hy : 0 < y ∧ y ≤ 2147483647) : zI x / zI y = zI (x / y) := by
  have h1 : 0 ≤ x / y := Int.ediv_nonneg hx.1 (by omega)
  have h2 : x / y ≤ x := Int.ediv_le_self y hx.1
  refine Int32.toInt_inj.mp ?_
  rw [Int32.toInt_div, zI_toInt (by constructor <;> omega), zI_toInt (by constructor <;> omega), zI_toInt (by constructor <;> omega), Int.tdiv_eq_ediv_of_nonneg hx.1]
  exact Int.bmod_eq_of_le (by omega) (by omega)
theorem div_ex (x y : Int) (hx : -2147483648 ≤ x ∧ x ≤ 2147483647) (hy : -2147483648 ≤ y ∧ y ≤ 2147483647) : ∃ z : Int, (-2147483648 ≤ z ∧ z ≤ 2147483647) ∧ (x < 0 ∨ y ≤ 0 ∨ (0 ≤ z ∧ z ≤ x ∧ z = x / y)) ∧ zI x / zI y = zI z := by
  by_cases h : x < 0 ∨ y ≤ 0
  · obtain ⟨z, h1, h2⟩ := rg_ex (zI x / zI y)
    exact ⟨z, h1, by omega, h2⟩
  · have h1 : 0 ≤ x / y := Int.ediv_nonneg (by omega) (by omega)
    have h2 : x / y ≤ x := Int.ediv_le_self y (by omega)
    exact ⟨x / y, by omega, Or.inr (Or.inr ⟨h1, h2, rfl⟩), div_zI (by omega) (by omega)⟩
theorem rem_ex (x y : Int) (hx : -2147483648 ≤ x ∧ x ≤ 2147483647) (hy : -2147483648 ≤ y ∧ y ≤ 2147483647) : ∃ z : Int, (-2147483648 ≤ z ∧ z ≤ 2147483647) ∧ (x < 0 ∨ y ≤ 0 ∨ (0 ≤ z ∧ z < y ∧ z ≤ x ∧ z = x % y)) ∧ zI x - zI x / zI y * zI y = zI z := by
  by_cases h : x < 0 ∨ y ≤ 0
  · obtain ⟨z, h1, h2⟩ := rg_ex (zI x - zI x / zI y * zI y)
    exact ⟨z, h1, by omega, h2⟩
  · have h1 : 0 ≤ x % y := Int.emod_nonneg x (by omega)
    have h2 : x % y < y := Int.emod_lt_of_pos x (by omega)
    have h3 : x % y = x - y * (x / y) := Int.emod_def x y
    have h4 : 0 ≤ y * (x / y) := Int.mul_nonneg (by omega) (Int.ediv_nonneg (by omega) (by omega))
    refine ⟨x % y, by omega, Or.inr (Or.inr ⟨h1, h2, by omega, rfl⟩), ?_⟩
    rw [div_zI (by omega) (by omega), zI_mul, zI_sub, h3, Int.mul_comm y]
theorem shr_0 {x y : Int} (h : 0 ≤ x ∧ x ≤ 2147483647) (hy : y = 0) : zI x >>> (zI y &&& 31) = zI x := by
  subst hy
  have h3 := zb_shr (a := x.toNat) (n := 0) (by omega) (by omega)
  rw [Nat.shiftRight_zero, show ((x.toNat : Nat) : Int) = x by omega] at h3
  exact h3
theorem nrv_c {z : Int} (h : 0 ≤ z ∧ z ≤ 65535) : narrow .char (.int (zI z)) = .int (zI z) := congrArg Value.int (nar_c h)
theorem nrv_b {z : Int} (h : -128 ≤ z ∧ z ≤ 127) : narrow .byte (.int (zI z)) = .int (zI z) := congrArg Value.int (nar_b h)
-- written texts: rows and what is known of their bytes
def slN (i : Nat) : Int := ((slB.getD i []).length : Int)
theorem sl_len {i : Nat} (h : i < NSL) : 2 ≤ slN i ∧ slN i ≤ 52 := (by decide +kernel : ∀ i, i < 11 → 2 ≤ slN i ∧ slN i ≤ 52) i h
theorem sl_byt : ∀ i, i < 11 → ∀ x ∈ slB.getD i [], ∃ k : Nat, k < 123 ∧ 32 ≤ k ∧ x = nI k := by
  have h : ∀ i, i < 11 → ∀ x ∈ slB.getD i [], (nI x.toNatClampNeg = x ∧ x.toNatClampNeg < 123 ∧ 32 ≤ x.toNatClampNeg) := by decide +kernel
  intro i hi x hx
  exact ⟨x.toNatClampNeg, (h i hi x hx).2.1, (h i hi x hx).2.2, (h i hi x hx).1.symm⟩
theorem sl_ex {i : Nat} (hi : i < NSL) {j : Nat} (hj : (j : Int) < slN i) : ∃ z : Int, (32 ≤ z ∧ z ≤ 122) ∧ (slB.getD i []).getD j 0 = zI z := by
  have hj : j < (slB.getD i []).length := by unfold slN at hj; omega
  obtain ⟨k, h1, h2, h3⟩ := sl_byt i hi _ (List.getElem_mem hj)
  refine ⟨(k : Int), by omega, ?_⟩
  rw [List.getD_eq_getElem?_getD, List.getElem?_eq_getElem hj, Option.getD_some, h3, zI_nI]
section Texts
variable {p : Program} {l : Launch} {e : Env} {R : Room} {s : State} {m : MethodId} {args : Array Value} {below : List Frame} {meth : Method} {c : Code} {H : Heap} {locs : List Loc} {cells slots : Nat} {Q : State → Prop}
variable {pc nL : Nat} {cc : ByteArray} {own : String} {ls : Array Slot} {rest : List Value} {D : va_G} {B : Nat} {cy : Nat → ClassId} {M : Mem}
theorem g_sval (F : CallFix p m c cc nL s args TB own) (w : Wd D B cy s s.heap M H locs) {i idx : Nat} (hi : i < NSL) (hlink : Cond.fieldLink own idx "java/lang/String" "value" "[B" ∈ TB) (hdg : decode cc pc = .ok (.getfield idx, 3)) (kk : W p l e R s m args below meth c H locs cells slots Q (F0 m (pc + 3) ls (.ref (D.2 201 i) :: rest))) : W p l e R s m args below meth c H locs cells slots Q (F0 m pc ls (.ref (D.2 200 i) :: rest)) :=
  vk_getf F.1 F.2.1 ((w.2.2.2.2.1 i hi).2.1 0 Nat.one_pos).2.2.1 w.2.2.1 F.2.2.2.1 (F.2.2.2.2 _ hlink) (fun _ h => h) hdg kk
theorem g_scod (F : CallFix p m c cc nL s args TB own) (w : Wd D B cy s s.heap M H locs) {i idx : Nat} (hi : i < NSL) (hlink : Cond.fieldLink own idx "java/lang/String" "coder" "B" ∈ TB) (hdg : decode cc pc = .ok (.getfield idx, 3)) (kk : W p l e R s m args below meth c H locs cells slots Q (F0 m (pc + 3) ls (.int (zI 0) :: rest))) : W p l e R s m args below meth c H locs cells slots Q (F0 m pc ls (.ref (D.2 200 i) :: rest)) :=
  vk_getf F.1 F.2.1 ((w.2.2.2.2.1 i hi).2.1 0 Nat.one_pos).2.1 w.2.2.1 F.2.2.2.1 (F.2.2.2.2 _ hlink) (fun _ h => h) hdg kk
theorem g_comp (F : CallFix p m c cc nL s args TB own) (w : Wd D B cy s s.heap M H locs) {idx : Nat} (hlink : Cond.fieldLink own idx "java/lang/String" "COMPACT_STRINGS" "Z" ∈ TB) (hdg : decode cc pc = .ok (.getstatic idx, 3)) (kk : W p l e R s m args below meth c H locs cells slots Q (F0 m (pc + 3) ls (.int (zI 1) :: rest))) : W p l e R s m args below meth c H locs cells slots Q (F0 m pc ls rest) :=
  va_gets F.1 F.2.1 w.2.2.2.2.2.1 w.2.2.1 F.2.2.2.1 (F.2.2.2.2 _ hlink) (fun _ h => h) hdg kk
theorem g_sio (F : CallFix p m c cc nL s args TB own) (w : Wd D B cy s s.heap M H locs) {idx : Nat} (hlink : Cond.fieldLink own idx "jdk/internal/util/Preconditions" "SIOOBE_FORMATTER" "Ljava/util/function/BiFunction;" ∈ TB) (hdg : decode cc pc = .ok (.getstatic idx, 3)) (k0 : W p l e R s m args below meth c H locs cells slots Q (F0 m (pc + 3) ls (.null :: rest))) (k1 : ∀ t : Nat, W p l e R s m args below meth c H locs cells slots Q (F0 m (pc + 3) ls (.ref t :: rest))) : W p l e R s m args below meth c H locs cells slots Q (F0 m pc ls rest) := by
  rcases w.2.2.2.2.2.2 with h | ⟨t, h⟩
  · exact va_gets F.1 F.2.1 h w.2.2.1 F.2.2.2.1 (F.2.2.2.2 _ hlink) (fun _ h => h) hdg k0
  · exact va_gets F.1 F.2.1 h w.2.2.1 F.2.2.2.1 (F.2.2.2.2 _ hlink) (fun _ h => h) hdg (k1 t)
theorem g_slen (F : CallFix p m c cc nL s args TB own) (w : Wd D B cy s s.heap M H locs) {i : Nat} (hi : i < NSL) (hdg : decode cc pc = .ok (.arraylength, 1)) (kk : W p l e R s m args below meth c H locs cells slots Q (F0 m (pc + 1) ls (.int (zI (slN i)) :: rest))) : W p l e R s m args below meth c H locs cells slots Q (F0 m pc ls (.ref (D.2 201 i) :: rest)) :=
  va_tlen F.1 F.2.1 ((w.2.2.2.2.1 i hi).2.1 0 Nat.one_pos).2.2.2 w.2.2.1 (v := zI (slN i)) (by unfold slN; rw [zI_nI]; rfl) hdg kk
theorem g_sbyt (F : CallFix p m c cc nL s args TB own) (w : Wd D B cy s s.heap M H locs) {i : Nat} (hi : i < NSL) {x : Int32} {j : Nat} (hx : ix x j) (hj : (j : Int) < slN i) {v : Int32} (hv : (slB.getD i []).getD j 0 = v) (hdg : decode cc pc = .ok (.baload, 1)) (kk : W p l e R s m args below meth c H locs cells slots Q (F0 m (pc + 1) ls (.int v :: rest))) : W p l e R s m args below meth c H locs cells slots Q (F0 m pc ls (.int x :: .ref (D.2 201 i) :: rest)) :=
  va_tb F.1 F.2.1 ((w.2.2.2.2.1 i hi).2.1 0 Nat.one_pos).2.2.2 w.2.2.1 (vpi hx.1 (by rw [hx.2]; show j < (slB.getD i []).length; unfold slN at hj; omega)) (v := .int v) (by rw [hx.2]; exact congrArg Value.int hv) hdg kk
end Texts
