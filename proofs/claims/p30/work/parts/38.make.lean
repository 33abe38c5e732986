-- MAKING: n cells from B on, what each holds a function E of its place
def wn (B n : Nat) (E : Nat → va_E) : va_W := (List.range n).map (fun i => (B + i, E i))
theorem wn_len {B n : Nat} {E : Nat → va_E} : (wn B n E).length = n := by simp [wn]
theorem wn_at {B n a : Nat} {E : Nat → va_E} (h : a < n) : (wn B n E)[a]? = some (B + a, E a) := by
  unfold wn
  rw [List.getElem?_map, List.getElem?_range h]
  rfl
theorem wn_inv {B n k : Nat} {E : Nat → va_E} {q : Nat × va_E} (h : (wn B n E)[k]? = some q) : k < n ∧ q = (B + k, E k) := by
  have hk : k < n := by
    have := (List.getElem?_eq_some_iff.mp h).1
    rwa [wn_len] at this
  rw [wn_at hk] at h
  cases h
  exact ⟨hk, rfl⟩
theorem wn_D (B n : Nat) (E : Nat → va_E) : va_D (fun q => B ≤ q) (wn B n E) := by
  refine ⟨fun i j p q hp hq e => ?_, fun k q hq => ?_⟩
  · have h1 := (wn_inv hp).2
    have h2 := (wn_inv hq).2
    subst h1
    subst h2
    have e : B + i = B + j := e
    omega
  · have h1 := (wn_inv hq).2
    subst h1
    show B ≤ B + k
    omega
theorem wn_set {B n a : Nat} {E : Nat → va_E} {e : va_E} (ha : a < n) : (wn B n E).set a (B + a, e) = wn B n (va_up E a e) := by
  refine List.ext_getElem? fun k => ?_
  by_cases hk : k < n
  · rw [List.getElem?_set, wn_at hk, wn_at hk, wn_len]
    by_cases hka : a = k
    · subst hka
      rw [if_pos rfl, if_pos ha]
      simp [va_up]
    · rw [if_neg hka]
      simp [va_up, show ¬ k = a from fun h => hka h.symm]
  · rw [List.getElem?_eq_none (by rw [List.length_set, wn_len]; omega), List.getElem?_eq_none (by rw [wn_len]; omega)]
theorem wn_push {B n : Nat} {E : Nat → va_E} {e : va_E} : wn B n E ++ [(B + n, e)] = wn B (n + 1) (va_up E n e) := by
  refine List.ext_getElem? fun k => ?_
  by_cases hk : k < n
  · rw [List.getElem?_append_left (by rw [wn_len]; exact hk), wn_at hk, wn_at (by omega)]
    simp [va_up, show ¬ k = n by omega]
  · rw [List.getElem?_append_right (by rw [wn_len]; omega), wn_len]
    by_cases hk2 : k = n
    · subst hk2
      rw [Nat.sub_self, wn_at (by omega)]
      simp [va_up]
    · rw [List.getElem?_eq_none (by show 1 ≤ k - n; omega), List.getElem?_eq_none (by rw [wn_len]; omega)]
theorem up_at {E : Nat → va_E} {a : Nat} {e : va_E} : va_up E a e a = e := by simp [va_up]
theorem up_ne {E : Nat → va_E} {a b : Nat} {e : va_E} (h : b ≠ a) : va_up E a e b = E b := by simp [va_up, h]
theorem up_up {E : Nat → va_E} {a : Nat} {e1 e2 : va_E} : va_up (va_up E a e1) a e2 = va_up E a e2 := by
  funext b
  by_cases hb : b = a
  · simp [va_up, hb]
  · simp [va_up, hb]
def Aov (U : State) : Prop := va_AO "ToneLines$Rule" U ∧ va_AO "ToneLines$Word" U
theorem Aov_moved {u U : State} (hvm : u.vm.Alike U.vm) (h : Aov u) : Aov U := ⟨va_AO.moved hvm h.1, va_AO.moved hvm h.2⟩
def Wn (D : va_G) (B : Nat) (cy : Nat → ClassId) (s : State) (H0 : Heap) (n : Nat) (E : Nat → va_E) (H : Heap) (locs : List Loc) : Prop := va_K D vwCl (tys cy) s ∧ va_P D vwCl (wn B n E) H ∧ va_S (fun q => B ≤ q) H0 H locs ∧ H.size = B + n ∧ Nst s ∧ Aov s ∧ B ≤ H0.size
def Pn (D : va_G) (B : Nat) (cy : Nat → ClassId) (n : Nat) (E : Nat → va_E) (U : State) : Prop := va_K D vwCl (tys cy) U ∧ va_P D vwCl (wn B n E) U.heap ∧ U.heap.size = B + n ∧ Nst U ∧ Aov U
abbrev Cn (l : Launch) (D : va_G) (B : Nat) (cy : Nat → ClassId) (y : MethodName) (cc : ByteArray) (nL : Nat) (fr lo mc ms : Nat) (av : List Value) (n : Nat) (E : Nat → va_E) (n1 : Nat) (E1 : Nat → va_E) : Prop :=
  Met l y (cw y cc nL none) { frames := fr, cells := mc, slots := ms, locals := lo } (va_Pc av (Pn D B cy n E)) (va_Qv (fun _ : Unit => True) (fun _ t => Pn D B cy n1 E1 t) (fun q => B ≤ q)) mc ms (fun q => B ≤ q)
theorem Pn_blind {D : va_G} {B n : Nat} {cy : Nat → ClassId} {E : Nat → va_E} {av : List Value} : FrameBlind (va_Pc av (Pn D B cy n E)) := fun a U g mk q => ⟨q.1, va_K.moved (u := U) (U := U.calling g mk a) (Vm.Alike.refl U.vm) q.2.1, q.2.2.1, q.2.2.2.1, Nst_same (s := U) (U := U.calling g mk a) rfl q.2.2.2.2.1, Aov_moved (u := U) (U := U.calling g mk a) (Vm.Alike.refl U.vm) q.2.2.2.2.2⟩
section Make
variable {p : Program} {l : Launch} {e : Env} {R : Room} {s : State} {m : MethodId} {args : Array Value} {below : List Frame} {meth : Method} {c : Code} {H : Heap} {locs : List Loc} {cells slots : Nat} {Q : State → Prop}
variable {cc : ByteArray} {pc : Nat} {ls : Array Slot} {rest : List Value} {D : va_G} {B n : Nat} {cy : Nat → ClassId} {E : Nat → va_E} {H0 : Heap} {own : String} {nL : Nat}
theorem n_pre {U : State} (w : Wn D B cy s H0 n E H locs) (hU : U.heap = H) (hW : s.WarmedH U.vm) : Pn D B cy n E U := ⟨va_K.moved hW.alike w.1, by rw [hU]; exact w.2.1, by rw [hU]; exact w.2.2.2.1, Nst_warm hW w.2.2.2.2.1, Aov_moved hW.alike w.2.2.2.2.2.1⟩
theorem n_start {y : MethodName} {n1 : Nat} {E1 : Nat → va_E} {fr lo mc ms : Nat} {av : List Value} (hy : plainName y.cls = true) (hn : (lg_sl av).length ≤ nL) (hi : y.name = "<init>")
    (body : ∀ (p : Program) (e : Env) (s : State) (m : MethodId) (below : List Frame) (meth : Method) (c : Code) (ls : Array Slot), CallFix p m c cc nL s av.toArray TB y.cls → meth.sig.returnType = none → meth.locks = false → meth.name = "<init>" → Wn D B cy s s.heap n E s.heap [] → lv_has ls nL (lv_args 0 av) → W p l e ({ frames := fr, cells := mc, slots := ms, locals := lo } : Room) s m av.toArray below meth c s.heap [] 0 0 (MQ below (va_Qv (fun _ : Unit => True) (fun _ t => Pn D B cy n1 E1 t) (fun q => B ≤ q)) av.toArray s mc ms (fun q => B ≤ q)) (F0 m 0 ls [])) : Cn l D B cy y cc nL fr lo mc ms av n E n1 E1 := by
  refine Met.ofW (cc := cc) (maxL := nL) (ret := none) hy rfl ?_
  intro p e s m args below meth c s₁ Bd hml hv
  obtain ⟨rfl, hK, hP, hz, hN, hO⟩ := hv
  have hts := atoms_spec (ws := cw y cc nL none) Bd.pre
  have hown : s.vm.findClass y.cls = some m.cls := findClass_of_methodNamed Bd.named
  have hl := lv_entry av (n := nL) hn
  rw [lg_entry_eq]
  exact body p e s m below meth c _ ⟨Bd.exec, Bd.bytes, hml, hown, fun w hw => hts w (List.mem_cons_of_mem _ hw)⟩ Bd.returns Bd.notSynchronized (((name_of_methodNamed Bd.named Bd.method).1).trans hi) ⟨hK, hP, va_S.rf, hz, hN, hO, by omega⟩ hl
theorem n_end (F : CallFix p m c cc nL s args TB own) (w : Wn D B cy s s.heap n E H locs) (hr : meth.sig.returnType = none) (hlocks : meth.locks = false) (hdg : decode cc pc = .ok (.return_, 1)) : W p l e R s m args below meth c H locs cells slots (MQ below (va_Qv (fun _ : Unit => True) (fun _ t => Pn D B cy n E t) (fun q => B ≤ q)) args s cells slots (fun q => B ≤ q)) (F0 m pc ls []) :=
  W.vret F.1 F.2.1 hr (fun t ht hW => ⟨⟨(), rfl, trivial, n_pre w ht hW⟩, w.2.2.1.F ht⟩) w.2.2.1.2.2 hdg hlocks
theorem n_obj (F : CallFix p m c cc nL s args TB own) {idx : Nat} {a : Addr} (hls : ls.size = nL) (hlink : Cond.methodLink own idx Lib.objectInit ∈ TB) (hinst : Cond.instanceMethod Lib.objectInit ∈ TB) (hcode : Cond.code Lib.objectInit ⟨#[0xb1]⟩ 1 none ∈ TB) (hdg : decode cc pc = .ok (.invokespecial idx, 3)) (hframes : 1 ≤ R.frames) (hlocals : (rest.map fun v => v.category).sum + 12 ≤ R.locals)
    (kk : W p l e R s m args below meth c H locs cells slots Q (F0 m (pc + 3) ls rest)) : W p l e R s m args below meth c H locs cells slots Q (F0 m pc ls (.ref a :: rest)) := by
  refine W.objInit F.1 F.2.1 F.2.2.2.1 (F.2.2.2.2 _ hlink) (F.2.2.2.2 _ hinst) (F.2.2.2.2 _ hcode) rfl (hls.trans F.2.2.1.symm) rfl hdg hframes ?_ kk
  show 2 * 0 + _ + 12 ≤ _
  omega
theorem n_push {H1 : Heap} {ce : va_E} (w : Wn D B cy s H0 n E H locs) (z1 : H1.size = H.size + 1) (o1 : ∀ q, q < H.size → H1[q]? = H[q]?) (hc : va_at D vwCl (B + n, ce) H1) : Wn D B cy s H0 (n + 1) (va_up E n ce) H1 locs := by
  obtain ⟨hK, hP, hS, hz, hN, hO, hB⟩ := w
  refine ⟨hK, ?_, ⟨Nat.le_trans hS.1 (by omega), fun x h1 h2 => (o1 x (Nat.lt_of_lt_of_le h1 hS.1)).trans (hS.2.1 x h1 h2), hS.2.2⟩, by omega, hN, hO, hB⟩
  rw [← wn_push]
  refine (hP.kept (fun k x hx => o1 x.1 ((hP k x hx).lt))).app (fun k x hx => ?_)
  have hk : k < 1 := (List.getElem?_eq_some_iff.mp hx).1
  rw [show k = 0 by omega] at hx
  cases hx
  exact hc
theorem n_new (F : CallFix p m c cc nL s args TB own) (w : Wn D B cy s H0 n E H locs) {ci idx N c1 s1 n1 : Nat} {C : String} {T : u_T} {fs : List Value} (ty : Nat → FieldType) (hty : ∀ k, k < N → parseFieldDescriptor (T k).2.2.1 = some (ty k)) (hin : ∀ w ∈ u_ws C T N, w ∈ TB) (hcl : Cond.classLink own idx C ∈ TB) (hinst : Cond.instantiable C N ∈ TB) (hini : Cond.initialized C ∈ TB) (hc : vwCl[ci]? = some (C, T, N)) (hfs : ∀ j, j < N → defaultValue (ty j) = vp_V fs j) (hcells : cells + 1 ≤ R.cells) (hslots : slots + N ≤ R.slots) (ec : cells + 1 = c1) (es : slots + N = s1) (en : n + 1 = n1) (hdg : decode cc pc = .ok (.new idx, 3))
    (kk : ∀ (H1 : Heap), Wn D B cy s H0 n1 (va_up E n (.inr (ci, fs))) H1 locs → W p l e R s m args below meth c H1 locs c1 s1 Q (F0 m (pc + 3) ls (.ref (B + n) :: rest))) : W p l e R s m args below meth c H locs cells slots Q (F0 m pc ls rest) := by
  subst ec es en
  have hKn := w.1.1 ci _ hc
  refine W.newcK F.1 F.2.1 F.2.2.2.1 (F.2.2.2.2 _ hcl) (F.2.2.2.2 _ hinst) (F.2.2.2.2 _ hini) rfl hdg hcells hslots hKn.2.1 w.2.2.2.1 fun H1 kC hkC e1 z1 o1 => ?_
  exact kk H1 (n_push w (by rw [z1, w.2.2.2.1]) (fun q hq => o1 q (by rw [← w.2.2.2.1]; exact hq)) ⟨_, hc, (u_born ty F.2.2.2.2 hin hKn hkC e1 hty).to hfs⟩)
theorem n_newa (F : CallFix p m c cc nL s args TB own) (w : Wn D B cy s H0 n E H locs) {atype : ArrayType} {ty : FieldType} {t N c1 s1 n1 : Nat} {k : Int32} {cA : ClassId} {a0 : vp_A} (harr : Cond.arrayClass (newarray.typeOf atype) ∈ TB) (hty : newarray.typeOf atype = ty) (hra : ∀ cB : ClassId, va_RA s cB ty → s.vm.findClass ("[" ++ ty.toString) = some cB) (ht : (tys cy)[t]? = some (cA, ty)) (ha : ∀ cA : ClassId, vp_cell cA a0 = arrV cA N (fun _ => defaultValue ty)) (hn : ¬ k < 0) (hN : k.toNatClampNeg = N) (hbytes : N * componentBytes ty ≤ 536870912) (hcells : cells + 1 ≤ R.cells) (hslots : slots + N ≤ R.slots) (ec : cells + 1 = c1) (es : slots + N = s1) (en : n + 1 = n1) (hdg : decode cc pc = .ok (.newarray atype, 2))
    (kk : ∀ (H1 : Heap), Wn D B cy s H0 n1 (va_up E n (.inl (cA, a0))) H1 locs → W p l e R s m args below meth c H1 locs c1 s1 Q (F0 m (pc + 2) ls (.ref (B + n) :: rest))) : W p l e R s m args below meth c H locs cells slots Q (F0 m pc ls (.int k :: rest)) := by
  subst ec es en hty
  refine va_newaK F.1 F.2.1 (F.2.2.2.2 _ harr) rfl hdg rfl hn hN hbytes hcells hslots w.2.2.2.1 fun H1 cB e1 z1 o1 hAr hNm => ?_
  have hcB : cB = cA := Option.some.inj (hNm.symm.trans (hra cA (w.1.2 t _ ht).2))
  subst hcB
  refine kk H1 (n_push w (by rw [z1, w.2.2.2.1]) (fun q hq => o1 q (by rw [← w.2.2.2.1]; exact hq)) ?_)
  show H1[B + n]? = some (vp_cell _ _)
  rw [ha]
  exact e1
theorem n_newq (F : CallFix p m c cc nL s args TB own) (w : Wn D B cy s H0 n E H locs) {t N c1 s1 n1 idx : Nat} {k : Int32} {cA : ClassId} {C : String} (hover : va_AO C s) (hclink : Cond.classLink own idx C ∈ TB) (ht : (tys cy)[t]? = some (cA, .object C)) (hn : ¬ k < 0) (hN : k.toNatClampNeg = N) (hbytes : N * 4 ≤ 536870912) (hcells : cells + 1 ≤ R.cells) (hslots : slots + N ≤ R.slots) (ec : cells + 1 = c1) (es : slots + N = s1) (en : n + 1 = n1) (hdg : decode cc pc = .ok (.anewarray idx, 3))
    (kk : ∀ (H1 : Heap), Wn D B cy s H0 n1 (va_up E n (.inl (cA, N, .inr (.inr (.inr (.inr (fun _ => none))))))) H1 locs → W p l e R s m args below meth c H1 locs c1 s1 Q (F0 m (pc + 3) ls (.ref (B + n) :: rest))) : W p l e R s m args below meth c H locs cells slots Q (F0 m pc ls (.int k :: rest)) := by
  subst ec es en hN
  refine W.anew F.1 F.2.1 F.2.2.2.1 (F.2.2.2.2 _ hclink) (va_AO.use hover) rfl hdg rfl hn hbytes hcells hslots fun cB kA comp f1 f2 f3 f4 => ?_
  obtain ⟨kA', comp', g1, g2, g3, g4⟩ := (w.1.2 t _ ht).2
  have hcB : cB = cA := Option.some.inj (f1.symm.trans g4)
  subst hcB
  generalize hH1 : H.push ({ cls := cB, slots := Array.replicate k.toNatClampNeg .null, vm := .none } : Cell) = H1
  have z1 : H1.size = H.size + 1 := by rw [← hH1, Array.size_push]
  have e1 : H1[H.size]? = some (arrV cB k.toNatClampNeg (fun _ => .null)) := by rw [← hH1, Array.getElem?_push_size, ← arrV_new]
  have o1 : ∀ q : Nat, q < H.size → H1[q]? = H[q]? := fun q hq => by rw [← hH1, Array.getElem?_push, if_neg (Nat.ne_of_lt hq)]
  rw [w.2.2.2.1] at e1
  rw [show F0 m (pc + 3) ls (.ref (B + n) :: rest) = F0 m (pc + 3) ls (.ref H.size :: rest) by rw [w.2.2.2.1]] at kk
  exact kk H1 (n_push w z1 o1 (by show H1[B + n]? = some (vp_cell _ _); rw [vp_cell_q]; exact e1))
theorem n_get (F : CallFix p m c cc nL s args TB own) (w : Wn D B cy s H0 n E H locs) {a ci k idx : Nat} {ref C : String} {T : u_T} {N : Nat} {fs : List Value} {v : Value} (ha : a < n) (he : E a = .inr (ci, fs)) (hc : vwCl[ci]? = some (C, T, N)) (hin : ∀ w ∈ u_ws C T N, w ∈ TB) (hk : k < N) (hT : (T k).1 = ref) (hlink : Cond.fieldLink own idx ref (T k).2.1 (T k).2.2.1 ∈ TB) (hv : fs[k]? = some v) (hdg : decode cc pc = .ok (.getfield idx, 3))
    (kk : W p l e R s m args below meth c H locs cells slots Q (F0 m (pc + 3) ls (v :: rest))) : W p l e R s m args below meth c H locs cells slots Q (F0 m pc ls (.ref (B + a) :: rest)) :=
  va_get (D := D) (T := T) F.1 F.2.1 F.2.2.2.2 hin F.2.2.2.1 w.1 w.2.1 a (by rw [wn_at ha, he]) hc k hk (F.2.2.2.2 _ hlink) (fun x h => by rw [hT] at h; exact h) hv hdg kk
theorem n_put (F : CallFix p m c cc nL s args TB own) (w : Wn D B cy s H0 n E H locs) {a ci k idx : Nat} {ref C : String} {T : u_T} {N : Nat} {fs fs1 : List Value} {x : Value} {ty : FieldType} (ty0 : Nat → FieldType) (hty : ∀ k, k < N → parseFieldDescriptor (T k).2.2.1 = some (ty0 k)) (hnm : ∀ a, a < N → ∀ b, b < N → a ≠ b → (T a).2.1 ≠ (T b).2.1) (ha : a < n) (he : E a = .inr (ci, fs)) (he' : fs.set k x = fs1) (hc : vwCl[ci]? = some (C, T, N)) (hin : ∀ w ∈ u_ws C T N, w ∈ TB) (hk : k < N) (hT : (T k).1 = ref) (hlink : Cond.fieldLink own idx ref (T k).2.1 (T k).2.2.1 ∈ TB) (hfin : (T k).2.2.2 = false) (hd : parseFieldDescriptor (T k).2.2.1 = some ty) (hn : narrow ty x = x) (hfit : fits ty x = true) (hl : k < fs.length) (hdg : decode cc pc = .ok (.putfield idx, 3))
    (kk : ∀ (H1 : Heap) (locs1 : List Loc), Wn D B cy s H0 n (va_up E a (.inr (ci, fs1))) H1 locs1 → W p l e R s m args below meth c H1 locs1 cells slots Q (F0 m (pc + 3) ls rest)) : W p l e R s m args below meth c H locs cells slots Q (F0 m pc ls (x :: .ref (B + a) :: rest)) := by
  subst he'
  obtain ⟨hK, hP, hS0, hz, hN, hO, hB⟩ := w
  have hw := wn_at (B := B) (E := E) ha
  rw [he] at hw
  have hap := va_apart (own := own) F.2.2.2.2 hin ty0 hty hnm hK hc
  obtain ⟨r, h1, cell, q1, q2, q3, q4⟩ := hP a _ hw
  have hr : r = (C, T, N) := Option.some.inj (h1.symm.trans hc)
  subst hr
  obtain ⟨hS, hfc, kC, hkC, hkind⟩ := hK.1 ci _ hc
  obtain ⟨cf, kf, fi, f, hi, hsl⟩ := hS k hk
  have hlay := F.2.2.2.2 _ (hin _ (u_in_lay hk))
  unfold u_lay at hlay
  rw [if_neg (by rw [hfin]; decide)] at hlay
  have hst := (u_facts hfc hkC (u_lays F.2.2.2.2 hin hk) hi).1
  have h6 := u_store hfc hkC hkind hlay hi hd hn hfit
  refine W.putK F.1 F.2.1 (f := f) ⟨F.2.2.2.1, F.2.2.2.2 _ hlink, ⟨_, _, _, (by rw [hT] at hi; exact hi)⟩, hst⟩ (by rw [q2]; exact h6) q1 q3 (by rw [hsl]; exact k2_hasslot (q4 k hk)) rfl rfl hdg fun H' e1 e2 e3 => ?_
  rw [hsl] at e1 ⊢
  refine kk H' _ ⟨hK, ?_, hS0.put e2 e3 (by show B ≤ B + a; omega), by rw [e2]; exact hz, hN, hO, hB⟩
  rw [← wn_set ha]
  exact hP.set (wn_D B n E) hw ⟨_, hc, t_OB.to (V := updV (vp_V fs) k x) ⟨_, e1, q2, q3, t_set q4 hap hk x⟩ (fun j _ => vp_updV_set hl x j)⟩ e3
theorem n_putF (F : CallFix p m c cc nL s args TB own) (w : Wn D B cy s H0 n E H locs) {a ci k idx : Nat} {ref C : String} {T : u_T} {N : Nat} {fs fs1 : List Value} {x : Value} {ty : FieldType} (ty0 : Nat → FieldType) (hty : ∀ k, k < N → parseFieldDescriptor (T k).2.2.1 = some (ty0 k)) (hnm : ∀ a, a < N → ∀ b, b < N → a ≠ b → (T a).2.1 ≠ (T b).2.1) (ha : a < n) (he : E a = .inr (ci, fs)) (he' : fs.set k x = fs1) (hc : vwCl[ci]? = some (C, T, N)) (hin : ∀ w ∈ u_ws C T N, w ∈ TB) (hk : k < N) (hT : (T k).1 = ref) (hlink : Cond.fieldLink own idx ref (T k).2.1 (T k).2.2.1 ∈ TB) (hfin : (T k).2.2.2 = true) (hin2 : meth.name = "<init>") (hdecl : (T k).1 = own) (hd : parseFieldDescriptor (T k).2.2.1 = some ty) (hn : narrow ty x = x) (hfit : fits ty x = true) (hl : k < fs.length) (hdg : decode cc pc = .ok (.putfield idx, 3))
    (kk : ∀ (H1 : Heap) (locs1 : List Loc), Wn D B cy s H0 n (va_up E a (.inr (ci, fs1))) H1 locs1 → W p l e R s m args below meth c H1 locs1 cells slots Q (F0 m (pc + 3) ls rest)) : W p l e R s m args below meth c H locs cells slots Q (F0 m pc ls (x :: .ref (B + a) :: rest)) := by
  subst he'
  obtain ⟨hK, hP, hS0, hz, hN, hO, hB⟩ := w
  have hw := wn_at (B := B) (E := E) ha
  rw [he] at hw
  have hap := va_apart (own := own) F.2.2.2.2 hin ty0 hty hnm hK hc
  obtain ⟨r, h1, cell, q1, q2, q3, q4⟩ := hP a _ hw
  have hr : r = (C, T, N) := Option.some.inj (h1.symm.trans hc)
  subst hr
  obtain ⟨hS, hfc, kC, hkC, hkind⟩ := hK.1 ci _ hc
  obtain ⟨cf, kf, fi, f, hi, hsl⟩ := hS k hk
  have hlay := F.2.2.2.2 _ (hin _ (u_in_lay hk))
  unfold u_lay at hlay
  rw [if_pos hfin] at hlay
  have hst := (u_facts hfc hkC (u_lays F.2.2.2.2 hin hk) hi).1
  have hcf : m.cls = cf := by
    obtain ⟨_, _, c', _, _, _, -, -, hf', -, -, -, hown2, -⟩ := Cond.laysFinal_spec hlay
    have e1 : c' = cf := by have := hi.symm.trans hf'; simp at this; exact this.1.symm
    rw [hdecl] at hown2
    rw [← e1]; exact Option.some.inj (F.2.2.2.1.symm.trans hown2)
  have h6 := u_fits hfc hkC hkind (Or.inr hlay) hi hd hn hfit
  refine W.putFinK F.1 F.2.1 F.2.2.2.1 (F.2.2.2.2 _ hlink) (by rw [hT] at hi; exact hi) hst hcf hin2 (by rw [q2]; exact h6) q1 q3 (by rw [hsl]; exact k2_hasslot (q4 k hk)) rfl rfl hdg fun H' e1 e2 e3 => ?_
  rw [hsl] at e1 ⊢
  refine kk H' _ ⟨hK, ?_, hS0.put e2 e3 (by show B ≤ B + a; omega), by rw [e2]; exact hz, hN, hO, hB⟩
  rw [← wn_set ha]
  exact hP.set (wn_D B n E) hw ⟨_, hc, t_OB.to (V := updV (vp_V fs) k x) ⟨_, e1, q2, q3, t_set q4 hap hk x⟩ (fun j _ => vp_updV_set hl x j)⟩ e3
/-- a row of objects gets one -/
theorem n_ast (F : CallFix p m c cc nL s args TB own) (w : Wn D B cy s H0 n E H locs) {a v j t ci N : Nat} {cA : ClassId} {r : vw_C} {vs : List Value} {f : Nat → Option Nat} {i : Int32} (ha : a < n) (hv0 : v < n) (he : E a = .inl (cA, N, .inr (.inr (.inr (.inr f))))) (ht : (tys cy)[t]? = some (cA, .object r.1)) (hv : E v = .inr (ci, vs)) (hc : vwCl[ci]? = some r) (hi : ix i j) (hj : j < N) (hdg : decode cc pc = .ok (.aastore, 1))
    (kk : ∀ (H1 : Heap) (locs1 : List Loc), Wn D B cy s H0 n (va_up E a (.inl (cA, N, .inr (.inr (.inr (.inr (va_up f j (some (B + v))))))))) H1 locs1 → W p l e R s m args below meth c H1 locs1 cells slots Q (F0 m (pc + 1) ls rest)) : W p l e R s m args below meth c H locs cells slots Q (F0 m pc ls (.ref (B + v) :: .int i :: .ref (B + a) :: rest)) := by
  obtain ⟨h0, rfl⟩ := hi
  obtain ⟨hK, hP, hS, hz, hN, hO, hB⟩ := w
  have hwa := wn_at (B := B) (E := E) ha
  rw [he] at hwa
  have hwv := wn_at (B := B) (E := E) hv0
  rw [hv] at hwv
  obtain ⟨r', hr', cellV, g1, g2, g3, -⟩ := hP v _ hwv
  have hcls := (hK.1 ci r hc).2
  obtain ⟨kA, comp, k1, k2, k3, -⟩ := (hK.2 t _ ht).2
  have hcomp : comp = D.1 ci := Option.some.inj (k3.symm.trans hcls.1)
  subst hcomp
  obtain ⟨kC, hkC, -⟩ := hcls.2
  refine W.aast F.1 F.2.1 (hP a _ hwa) (fun q h => by cases h) (fun h => by cases h) k1 k2 rfl hkC ⟨h0, by show _ < (arrV _ _ _).slots.size; rw [arrV_size]; exact hj⟩ g1 (fun q h => by rw [g3] at h; cases h) (by rw [g2]; exact hkC) (by rw [g2]; exact va_assign hcls) rfl rfl hdg fun H1 e z oq => ?_
  refine kk H1 _ ⟨hK, ?_, hS.put z oq (by show B ≤ B + a; omega), by rw [z]; exact hz, hN, hO, hB⟩
  rw [← wn_set ha]
  refine hP.set (wn_D B n E) hwa ?_ oq
  show H1[B + a]? = some (vp_cell _ _)
  rw [e]
  rw [vp_cell_q, vp_cell_q, arrV_store]
  congr 2
  funext q
  by_cases hq : q = i.toNatClampNeg
  · subst hq
    simp [updV, va_up, va_rf]
  · simp [updV, va_up, hq]
/-- a byte into the row that was made last -/
theorem n_bast (F : CallFix p m c cc nL s args TB own) {a N j : Nat} {f : Nat → Int32} {cA : ClassId} (w : Wn D B cy s H0 n (va_up E a (.inl (cA, N, .inl f))) H locs) {i x y : Int32} (ha : a < n) (ht : cA = cy 0) (hi : ix i j) (hj : j < N) (hy : vp_nar .byte x = y) (hdg : decode cc pc = .ok (.bastore, 1))
    (kk : ∀ (H1 : Heap) (locs1 : List Loc), Wn D B cy s H0 n (va_up E a (.inl (cA, N, .inl (upd f j y)))) H1 locs1 → W p l e R s m args below meth c H1 locs1 cells slots Q (F0 m (pc + 1) ls rest)) : W p l e R s m args below meth c H locs cells slots Q (F0 m pc ls (.int x :: .int i :: .ref (B + a) :: rest)) := by
  subst hy ht
  obtain ⟨h0, rfl⟩ := hi
  obtain ⟨hK, hP, hS, hz, hN, hO, hB⟩ := w
  have hwa := wn_at (B := B) (E := va_up E a (.inl (cy 0, N, .inl f))) ha
  rw [up_at] at hwa
  refine W.bast F.1 F.2.1 (hP a _ hwa) ((hK.2 0 (cy 0, .byte) rfl).1 N (fun j => .int (f j))) (fun q => by cases q) (by show ¬ (i < 0 ∨ (arrV _ _ _).slots.size ≤ _); rw [arrV_size]; exact vpi h0 hj) rfl rfl hdg fun H1 e z oq => ?_
  refine kk H1 _ ⟨hK, ?_, hS.put z oq (by show B ≤ B + a; omega), by rw [z]; exact hz, hN, hO, hB⟩
  rw [← up_up (e1 := .inl (cy 0, N, .inl f)), ← wn_set ha]
  refine hP.set (wn_D B n _) hwa ?_ oq
  show H1[B + a]? = some (vp_cell _ _)
  rw [e]
  rw [vp_cell_i, vp_cell_i, arrV_store]
  congr 2
  funext q
  by_cases hq : q = i.toNatClampNeg
  · subst hq
    simp [updV, upd, vp_nar]
    try rfl
  · simp [updV, upd, hq]
theorem up_same {E : Nat → va_E} {a : Nat} {e : va_E} (h : E a = e) : va_up E a e = E := by
  funext b
  by_cases hb : b = a
  · subst hb; simp [va_up, h]
  · simp [va_up, hb]
theorem n_aald (F : CallFix p m c cc nL s args TB own) (w : Wn D B cy s H0 n E H locs) {a t j o N : Nat} {cA : ClassId} {C : String} {f : Nat → Option Nat} {i : Int32} (ha : a < n) (he : E a = .inl (cA, N, .inr (.inr (.inr (.inr f))))) (ht : (tys cy)[t]? = some (cA, .object C)) (hf : f j = some (B + o)) (hi : ix i j) (hj : j < N) (hdg : decode cc pc = .ok (.aaload, 1))
    (kk : W p l e R s m args below meth c H locs cells slots Q (F0 m (pc + 1) ls (.ref (B + o) :: rest))) : W p l e R s m args below meth c H locs cells slots Q (F0 m pc ls (.int i :: .ref (B + a) :: rest)) := by
  obtain ⟨h0, rfl⟩ := hi
  refine va_aldq F.1 F.2.1 w.1 w.2.1 a t (cA := cA) (n := N) (f := f) (by rw [wn_at ha, he]) ht (vpi h0 hj) hdg ?_
  rw [hf]
  exact kk
theorem n_back {H1 : Heap} {locs1 : List Loc} {t : State} {n1 : Nat} {E1 : Nat → va_E} (w : Wn D B cy s H0 n E H locs) (ht : t.heap = H1) (hB : Pn D B cy n1 E1 t) (hS : va_S (fun q => B ≤ q) H0 H1 locs1) : Wn D B cy s H0 n1 E1 H1 locs1 :=
  ⟨w.1, by rw [← ht]; exact hB.2.1, hS, by rw [← ht]; exact hB.2.2.1, w.2.2.2.2.1, w.2.2.2.2.2.1, w.2.2.2.2.2.2⟩
/-- a constructor is called, plain, or a nest mate's -/
theorem n_callI (F : CallFix p m c cc nL s args TB own) (w : Wn D B cy s H0 n E H locs) {y : MethodName} {c1 : ByteArray} {nL1 fr lo mc ms idx n1 b k1 k2 : Nat} {E1 : Nat → va_E} {As st0 : List Value} (hM : Cn l D B cy y c1 nL1 fr lo mc ms (.ref (B + b) :: As) n E n1 E1) (hG : GoodIn TB (cw y c1 nL1 none)) (hy1 : y.name = "<init>") (hini : Cond.initialized y.cls ∈ TB) (hlink : Cond.methodLink own idx y ∈ TB) (hin : Cond.instanceMethod y ∈ TB) (hd : y.cls ≠ "java/lang/invoke/MethodHandle" ∧ y.cls ≠ "java/lang/invoke/VarHandle" ∧ (parseMethodDescriptor y.desc).map (fun d => d.parameters.length) = some As.length) (hR : fr + 1 ≤ R.frames ∧ 8 + (nL1 + 11) + lo ≤ R.locals) (hls : ls.size = nL) (hst : st0 = As.reverse ++ .ref (B + b) :: rest) (hcat : (rest.map fun v => v.category).sum ≤ 8) (hcs : cells + mc ≤ R.cells ∧ slots + ms ≤ R.slots) (e1 : cells + mc = k1) (e2 : slots + ms = k2) (hdg : decode cc pc = .ok (.invokespecial idx, 3))
    (kk : ∀ (H1 : Heap) (locs1 : List Loc), Wn D B cy s H0 n1 E1 H1 locs1 → W p l e R s m args below meth c H1 locs1 k1 k2 Q (F0 m (pc + 3) ls rest)) : W p l e R s m args below meth c H locs cells slots Q (F0 m pc ls st0) := by
  subst e1 e2
  refine va_callv (va_runI (As := As) (rest := rest) F hM (cwI As.length F.2.2.2.2 hG rfl rfl rfl (F.2.2.2.2 _ hini) (F.2.2.2.2 _ hlink) (F.2.2.2.2 _ hin) hy1 hd hR) ⟨Pn_blind, fun U hU hW => ⟨rfl, n_pre w hU hW⟩⟩ rfl rfl hls hst (lv_room hcat) hdg hcs) w.2.2.1 (fun q _ h => h) (fun q h => h) (fun u t H1 locs1 ht hvm hp hB hz hk hS => ?_)
  exact kk H1 locs1 (n_back w ht hB hS)
theorem n_callN (F : CallFix p m c cc nL s args TB own) (w : Wn D B cy s H0 n E H locs) {y : MethodName} {c1 : ByteArray} {nL1 fr lo mc ms idx n1 b k1 k2 : Nat} {E1 : Nat → va_E} {As st0 : List Value} (hM : Cn l D B cy y c1 nL1 fr lo mc ms (.ref (B + b) :: As) n E n1 E1) (hG : GoodIn TB (cw y c1 nL1 none)) (hy1 : y.name = "<init>") (hini : Cond.initialized y.cls ∈ TB) (hnl : (own, idx, y) ∈ NST) (hin : Cond.instanceMethod y ∈ TB) (hd : y.cls ≠ "java/lang/invoke/MethodHandle" ∧ y.cls ≠ "java/lang/invoke/VarHandle" ∧ (parseMethodDescriptor y.desc).map (fun d => d.parameters.length) = some As.length) (hR : fr + 1 ≤ R.frames ∧ 8 + (nL1 + 11) + lo ≤ R.locals) (hls : ls.size = nL) (hst : st0 = As.reverse ++ .ref (B + b) :: rest) (hcat : (rest.map fun v => v.category).sum ≤ 8) (hcs : cells + mc ≤ R.cells ∧ slots + ms ≤ R.slots) (e1 : cells + mc = k1) (e2 : slots + ms = k2) (hdg : decode cc pc = .ok (.invokespecial idx, 3))
    (kk : ∀ (H1 : Heap) (locs1 : List Loc), Wn D B cy s H0 n1 E1 H1 locs1 → W p l e R s m args below meth c H1 locs1 k1 k2 Q (F0 m (pc + 3) ls rest)) : W p l e R s m args below meth c H locs cells slots Q (F0 m pc ls st0) := by
  subst e1 e2
  refine va_callv (va_runIN (host := "ToneLines") (As := As) (rest := rest) F hM ⟨va_cnB As.length F.2.2.2.2 hG rfl rfl rfl (w.2.2.2.2.1 _ hnl) (F.2.2.2.2 _ hini) hd hR, hy1, F.2.2.2.2 _ hin⟩ ⟨Pn_blind, fun U hU hW => ⟨rfl, n_pre w hU hW⟩⟩ rfl rfl hls hst (lv_room hcat) hdg hcs) w.2.2.1 (fun q _ h => h) (fun q h => h) (fun u t H1 locs1 ht hvm hp hB hz hk hS => ?_)
  exact kk H1 locs1 (n_back w ht hB hS)
end Make
