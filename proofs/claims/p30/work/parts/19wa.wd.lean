-- the text of a word: what is read of it
def kndI (z : Int) : Int := if z = 108 then 0 else if z = 109 then 1 else if z = 104 then 2 else -1
theorem knd_a (z : Int) : (z = 108 ∧ kndI z = 0) ∨ (z = 109 ∧ kndI z = 1) ∨ (z = 104 ∧ kndI z = 2) ∨ (z ≠ 108 ∧ z ≠ 109 ∧ z ≠ 104 ∧ kndI z = -1) := by
  unfold kndI
  by_cases h1 : z = 108
  · rw [if_pos h1]; exact Or.inl ⟨h1, rfl⟩
  · rw [if_neg h1]
    by_cases h2 : z = 109
    · rw [if_pos h2]; exact Or.inr (Or.inl ⟨h2, rfl⟩)
    · rw [if_neg h2]
      by_cases h3 : z = 104
      · rw [if_pos h3]; exact Or.inr (Or.inr (Or.inl ⟨h3, rfl⟩))
      · rw [if_neg h3]; exact Or.inr (Or.inr (Or.inr ⟨h1, h2, h3, rfl⟩))
theorem sb_a {v : Nat} (h : v < 256) : (v < 128 ∧ sb v = (v : Int)) ∨ (128 ≤ v ∧ sb v = (v : Int) - 256) := by
  unfold sb
  by_cases h1 : v < 128
  · rw [if_pos h1]; exact Or.inl ⟨h1, rfl⟩
  · rw [if_neg h1]; exact Or.inr ⟨by omega, rfl⟩
theorem i2b_k : ∀ v, v < 256 → (zI ((v : Nat) : Int)).toInt8.toInt32 = zI (sb v) := by decide +kernel
/-- a tone comes behind all -/
def tnO (o : Wo) (k : Nat) : Wo := (o.1 + 1, insF o.2.1 o.1 k, insF o.2.2 o.1 0)
def rtF (T : Nat → Nat) (N : Nat) : Nat → Nat → Wo → Option (Nat × Wo)
  | 0, _, _ => none
  | f + 1, i, o => if i < N then (if T i = 47 then some (i + 1, o) else if 0 ≤ kndI (T i : Int) ∧ o.1 < 12 then rtF T N f (sk T N (i + 1)) (tnO o (kndI (T i : Int)).toNat) else none) else none
theorem rt_e {T : Nat → Nat} {N f i : Nat} {o : Wo} (h : N ≤ i) : rtF T N f i o = none := by
  cases f with
  | zero => rfl
  | succ f => rw [rtF, if_neg (by omega)]
theorem rt_s {T : Nat → Nat} {N f i : Nat} {o : Wo} (h : i < N) (h1 : T i = 47) (hf : 0 < f) : rtF T N f i o = some (i + 1, o) := by
  obtain ⟨f, rfl⟩ : ∃ g, f = g + 1 := ⟨f - 1, by omega⟩
  rw [rtF, if_pos h, if_pos h1]
theorem rt_y {T : Nat → Nat} {N f i k : Nat} {o : Wo} (h : i < N) (h1 : T i ≠ 47) (h2 : kndI (T i : Int) = (k : Int)) (h3 : o.1 < 12) (hf : 0 < f) : rtF T N f i o = rtF T N (f - 1) (sk T N (i + 1)) (tnO o k) := by
  obtain ⟨f, rfl⟩ : ∃ g, f = g + 1 := ⟨f - 1, by omega⟩
  rw [rtF, if_pos h, if_neg h1, if_pos ⟨by omega, h3⟩, h2]
  rfl
theorem rt_n {T : Nat → Nat} {N f i : Nat} {o : Wo} (h : i < N) (h1 : T i ≠ 47) (h2 : kndI (T i : Int) < 0 ∨ 12 ≤ o.1) : rtF T N f i o = none := by
  cases f with
  | zero => rfl
  | succ f => rw [rtF, if_pos h, if_neg h1, if_neg (by omega)]
abbrev Sy : Type := Nat × Nat × Nat
/-- a syllable comes behind all -/
def syO (y : Sy) (h e : Nat) : Sy := (y.1 + 1, sbit y.2.1 y.1 h, sbit y.2.2 y.1 e)
def hO (v : Nat) : Nat := if v = 79 then 1 else 0
theorem hO_a (v : Nat) : (v = 79 ∧ hO v = 1) ∨ (v ≠ 79 ∧ hO v = 0) := by
  unfold hO
  by_cases h : v = 79
  · rw [if_pos h]; exact Or.inl ⟨h, rfl⟩
  · rw [if_neg h]; exact Or.inr ⟨h, rfl⟩
def rsF (T : Nat → Nat) (N : Nat) : Nat → Nat → Nat → Sy → Option (Nat × Sy)
  | 0, _, _, _ => none
  | f + 1, i, e, y => if i < N then (if T i = 47 ∧ e = 0 then some (i + 1, y) else if T i = 45 ∧ e = 0 then rsF T N f (sk T N (i + 1)) 1 y else if (T i = 111 ∨ T i = 79) ∧ y.1 < 12 then rsF T N f (sk T N (i + 1)) 0 (syO y (hO (T i)) e) else none) else none
theorem rs_e {T : Nat → Nat} {N f i e : Nat} {y : Sy} (h : N ≤ i) : rsF T N f i e y = none := by
  cases f with
  | zero => rfl
  | succ f => rw [rsF, if_neg (by omega)]
theorem rs_s {T : Nat → Nat} {N f i e : Nat} {y : Sy} (h : i < N) (h1 : T i = 47) (h2 : e = 0) (hf : 0 < f) : rsF T N f i e y = some (i + 1, y) := by
  obtain ⟨f, rfl⟩ : ∃ g, f = g + 1 := ⟨f - 1, by omega⟩
  rw [rsF, if_pos h, if_pos ⟨h1, h2⟩]
theorem rs_d {T : Nat → Nat} {N f i e : Nat} {y : Sy} (h : i < N) (h1 : T i = 45) (h2 : e = 0) (hf : 0 < f) : rsF T N f i e y = rsF T N (f - 1) (sk T N (i + 1)) 1 y := by
  obtain ⟨f, rfl⟩ : ∃ g, f = g + 1 := ⟨f - 1, by omega⟩
  rw [rsF, if_pos h, if_neg (by omega), if_pos ⟨h1, h2⟩]
  rfl
theorem rs_y {T : Nat → Nat} {N f i e b : Nat} {y : Sy} (h : i < N) (h1 : T i = 111 ∨ T i = 79) (h2 : y.1 < 12) (hb : hO (T i) = b) (hf : 0 < f) : rsF T N f i e y = rsF T N (f - 1) (sk T N (i + 1)) 0 (syO y b e) := by
  obtain ⟨f, rfl⟩ : ∃ g, f = g + 1 := ⟨f - 1, by omega⟩
  rw [rsF, if_pos h, if_neg (by omega), if_neg (by omega), if_pos ⟨h1, h2⟩, hb]
  rfl
theorem rs_n {T : Nat → Nat} {N f i e : Nat} {y : Sy} (h1 : ¬ (T i = 47 ∧ e = 0)) (h2 : ¬ (T i = 45 ∧ e = 0)) (h3 : ¬ ((T i = 111 ∨ T i = 79) ∧ y.1 < 12)) : rsF T N f i e y = none := by
  cases f with
  | zero => rfl
  | succ f =>
    rw [rsF]
    by_cases h : i < N
    · rw [if_pos h, if_neg h1, if_neg h2, if_neg h3]
    · rw [if_neg h]
def dgP (z : Int) : Prop := 48 ≤ z ∧ z ≤ 57
/-- a number below another one -/
def nmF (T : Nat → Nat) (N i bl : Nat) : Option (Nat × Nat) := if 48 ≤ sg T N (i : Int) ∧ sg T N (i : Int) ≤ 57 then (if 48 ≤ sg T N ((i + 1 : Nat) : Int) ∧ sg T N ((i + 1 : Nat) : Int) ≤ 57 then (if 10 * (sg T N (i : Int) - 48) + (sg T N ((i + 1 : Nat) : Int) - 48) < (bl : Int) then some ((10 * (sg T N (i : Int) - 48) + (sg T N ((i + 1 : Nat) : Int) - 48)).toNat, i + 2) else none) else (if sg T N (i : Int) - 48 < (bl : Int) then some ((sg T N (i : Int) - 48).toNat, i + 1) else none)) else none
theorem nm_0 {T : Nat → Nat} {N i bl : Nat} (h : ¬ (48 ≤ sg T N (i : Int) ∧ sg T N (i : Int) ≤ 57)) : nmF T N i bl = none := by unfold nmF; rw [if_neg h]
theorem nm_2 {T : Nat → Nat} {N i bl v : Nat} (h : 48 ≤ sg T N (i : Int) ∧ sg T N (i : Int) ≤ 57) (h1 : 48 ≤ sg T N ((i + 1 : Nat) : Int) ∧ sg T N ((i + 1 : Nat) : Int) ≤ 57) (hv : (v : Int) = 10 * (sg T N (i : Int) - 48) + (sg T N ((i + 1 : Nat) : Int) - 48)) (h2 : v < bl) : nmF T N i bl = some (v, i + 2) := by
  unfold nmF
  rw [if_pos h, if_pos h1, if_pos (by omega), ← hv]
  rfl
theorem nm_2n {T : Nat → Nat} {N i bl : Nat} (h : 48 ≤ sg T N (i : Int) ∧ sg T N (i : Int) ≤ 57) (h1 : 48 ≤ sg T N ((i + 1 : Nat) : Int) ∧ sg T N ((i + 1 : Nat) : Int) ≤ 57) (h2 : ¬ (10 * (sg T N (i : Int) - 48) + (sg T N ((i + 1 : Nat) : Int) - 48) < (bl : Int))) : nmF T N i bl = none := by
  unfold nmF
  rw [if_pos h, if_pos h1, if_neg h2]
theorem nm_1 {T : Nat → Nat} {N i bl v : Nat} (h : 48 ≤ sg T N (i : Int) ∧ sg T N (i : Int) ≤ 57) (h1 : ¬ (48 ≤ sg T N ((i + 1 : Nat) : Int) ∧ sg T N ((i + 1 : Nat) : Int) ≤ 57)) (hv : (v : Int) = sg T N (i : Int) - 48) (h2 : v < bl) : nmF T N i bl = some (v, i + 1) := by
  unfold nmF
  rw [if_pos h, if_neg h1, if_pos (by omega), ← hv]
  rfl
theorem nm_1n {T : Nat → Nat} {N i bl : Nat} (h : 48 ≤ sg T N (i : Int) ∧ sg T N (i : Int) ≤ 57) (h1 : ¬ (48 ≤ sg T N ((i + 1 : Nat) : Int) ∧ sg T N ((i + 1 : Nat) : Int) ≤ 57)) (h2 : ¬ (sg T N (i : Int) - 48 < (bl : Int))) : nmF T N i bl = none := by
  unfold nmF
  rw [if_pos h, if_neg h1, if_neg h2]
/-- a line: its tone, its syllable, where it ends -/
noncomputable def lnF (T : Nat → Nat) (N n q : Nat) (L : Nat → Nat) (i : Nat) : Option (Nat × Nat × Nat) := match nmF T N i n with
  | none => none
  | some (t, i1) => if sg T N ((sk T N i1 : Nat) : Int) = 58 then (match nmF T N (sk T N (sk T N i1 + 1)) q with
    | none => none
    | some (u, i4) => @ite (Option (Nat × Nat × Nat)) (openP n L t u ∧ ¬ (i4 < N ∧ T i4 ≠ 32)) (Classical.propDecidable _) (some (t, u, i4)) none) else none
theorem ln_1 {T : Nat → Nat} {N n q i : Nat} {L : Nat → Nat} (h : nmF T N i n = none) : lnF T N n q L i = none := by unfold lnF; rw [h]
theorem ln_2 {T : Nat → Nat} {N n q i t i1 : Nat} {L : Nat → Nat} (h : nmF T N i n = some (t, i1)) (h1 : sg T N ((sk T N i1 : Nat) : Int) ≠ 58) : lnF T N n q L i = none := by
  unfold lnF
  rw [h]
  exact if_neg h1
theorem ln_3 {T : Nat → Nat} {N n q i t i1 : Nat} {L : Nat → Nat} (h : nmF T N i n = some (t, i1)) (h2 : nmF T N (sk T N (sk T N i1 + 1)) q = none) : lnF T N n q L i = none := by
  unfold lnF
  rw [h]
  show (if sg T N ((sk T N i1 : Nat) : Int) = 58 then (match nmF T N (sk T N (sk T N i1 + 1)) q with
    | none => none
    | some (u, i4) => @ite (Option (Nat × Nat × Nat)) (openP n L t u ∧ ¬ (i4 < N ∧ T i4 ≠ 32)) (Classical.propDecidable _) (some (t, u, i4)) none) else none) = none
  rw [h2]
  by_cases h9 : sg T N ((sk T N i1 : Nat) : Int) = 58
  · rw [if_pos h9]
  · rw [if_neg h9]
theorem ln_4 {T : Nat → Nat} {N n q i t i1 u i4 : Nat} {L : Nat → Nat} (h : nmF T N i n = some (t, i1)) (h2 : nmF T N (sk T N (sk T N i1 + 1)) q = some (u, i4)) (h3 : ¬ (openP n L t u ∧ ¬ (i4 < N ∧ T i4 ≠ 32))) : lnF T N n q L i = none := by
  unfold lnF
  rw [h]
  show (if sg T N ((sk T N i1 : Nat) : Int) = 58 then (match nmF T N (sk T N (sk T N i1 + 1)) q with
    | none => none
    | some (u, i4) => @ite (Option (Nat × Nat × Nat)) (openP n L t u ∧ ¬ (i4 < N ∧ T i4 ≠ 32)) (Classical.propDecidable _) (some (t, u, i4)) none) else none) = none
  rw [h2]
  by_cases h9 : sg T N ((sk T N i1 : Nat) : Int) = 58
  · rw [if_pos h9]
    exact @if_neg _ (Classical.propDecidable _) h3 _ _ _
  · rw [if_neg h9]
theorem ln_y {T : Nat → Nat} {N n q i t i1 u i4 : Nat} {L : Nat → Nat} (h : nmF T N i n = some (t, i1)) (h1 : sg T N ((sk T N i1 : Nat) : Int) = 58) (h2 : nmF T N (sk T N (sk T N i1 + 1)) q = some (u, i4)) (h3 : openP n L t u) (h4 : ¬ (i4 < N ∧ T i4 ≠ 32)) : lnF T N n q L i = some (t, u, i4) := by
  unfold lnF
  rw [h]
  show (if sg T N ((sk T N i1 : Nat) : Int) = 58 then (match nmF T N (sk T N (sk T N i1 + 1)) q with
    | none => none
    | some (u, i4) => @ite (Option (Nat × Nat × Nat)) (openP n L t u ∧ ¬ (i4 < N ∧ T i4 ≠ 32)) (Classical.propDecidable _) (some (t, u, i4)) none) else none) = some (t, u, i4)
  rw [if_pos h1, h2]
  exact @if_pos _ (Classical.propDecidable _) ⟨h3, h4⟩ _ _ _
/-- a line comes -/
def lnO (o : Wo) (t u : Nat) : Wo := (o.1, o.2.1, updF o.2.2 t (o.2.2 t ||| 2 ^ u))
noncomputable def rlnF (T : Nat → Nat) (N q : Nat) : Nat → Nat → Wo → Option Wo
  | 0, _, o => some o
  | f + 1, i, o => if i < N then (match lnF T N o.1 q o.2.2 i with
    | none => none
    | some (t, u, j) => rlnF T N q f (sk T N j) (lnO o t u)) else some o
theorem rl_e {T : Nat → Nat} {N q f i : Nat} {o : Wo} (h : N ≤ i) : rlnF T N q f i o = some o := by
  cases f with
  | zero => rfl
  | succ f => rw [rlnF, if_neg (by omega)]
theorem rl_n {T : Nat → Nat} {N q f i : Nat} {o : Wo} (h : i < N) (h1 : lnF T N o.1 q o.2.2 i = none) (hf : 0 < f) : rlnF T N q f i o = none := by
  obtain ⟨f, rfl⟩ : ∃ g, f = g + 1 := ⟨f - 1, by omega⟩
  rw [rlnF, if_pos h, h1]
theorem rl_y {T : Nat → Nat} {N q f i t u j : Nat} {o : Wo} (h : i < N) (h1 : lnF T N o.1 q o.2.2 i = some (t, u, j)) (hf : 0 < f) : rlnF T N q f i o = rlnF T N q (f - 1) (sk T N j) (lnO o t u) := by
  obtain ⟨f, rfl⟩ : ∃ g, f = g + 1 := ⟨f - 1, by omega⟩
  rw [rlnF, if_pos h, h1]
  rfl
def wo0 : Wo := (0, fun _ => 0, fun _ => 0)
/-- the word that a text tells; none: there is a fault -/
noncomputable def wdF (T : Nat → Nat) (N : Nat) : Option Fw := match rtF T N 301 (sk T N 0) wo0 with
  | none => none
  | some (i, o) => match rsF T N 301 (sk T N i) 0 (0, 0, 0) with
    | none => none
    | some (i2, y) => match rlnF T N y.1 301 (sk T N i2) o with
      | none => none
      | some o2 => some (y.1, y.2.1, y.2.2, o2)
theorem wd_1 {T : Nat → Nat} {N : Nat} (h : rtF T N 301 (sk T N 0) wo0 = none) : wdF T N = none := by unfold wdF; rw [h]
theorem wd_2 {T : Nat → Nat} {N i : Nat} {o : Wo} (h : rtF T N 301 (sk T N 0) wo0 = some (i, o)) (h1 : rsF T N 301 (sk T N i) 0 (0, 0, 0) = none) : wdF T N = none := by
  unfold wdF
  rw [h]
  show (match rsF T N 301 (sk T N i) 0 (0, 0, 0) with
    | none => none
    | some (i2, y) => match rlnF T N y.1 301 (sk T N i2) o with
      | none => none
      | some o2 => some (y.1, y.2.1, y.2.2, o2)) = none
  rw [h1]
theorem wd_3 {T : Nat → Nat} {N i i2 : Nat} {o : Wo} {y : Sy} (h : rtF T N 301 (sk T N 0) wo0 = some (i, o)) (h1 : rsF T N 301 (sk T N i) 0 (0, 0, 0) = some (i2, y)) (h2 : rlnF T N y.1 301 (sk T N i2) o = none) : wdF T N = none := by
  unfold wdF
  rw [h]
  show (match rsF T N 301 (sk T N i) 0 (0, 0, 0) with
    | none => none
    | some (i2, y) => match rlnF T N y.1 301 (sk T N i2) o with
      | none => none
      | some o2 => some (y.1, y.2.1, y.2.2, o2)) = none
  rw [h1]
  show (match rlnF T N y.1 301 (sk T N i2) o with
      | none => none
      | some o2 => some (y.1, y.2.1, y.2.2, o2)) = none
  rw [h2]
theorem wd_y {T : Nat → Nat} {N i i2 : Nat} {o o2 : Wo} {y : Sy} (h : rtF T N 301 (sk T N 0) wo0 = some (i, o)) (h1 : rsF T N 301 (sk T N i) 0 (0, 0, 0) = some (i2, y)) (h2 : rlnF T N y.1 301 (sk T N i2) o = some o2) : wdF T N = some (y.1, y.2.1, y.2.2, o2) := by
  unfold wdF
  rw [h]
  show (match rsF T N 301 (sk T N i) 0 (0, 0, 0) with
    | none => none
    | some (i2, y) => match rlnF T N y.1 301 (sk T N i2) o with
      | none => none
      | some o2 => some (y.1, y.2.1, y.2.2, o2)) = _
  rw [h1]
  show (match rlnF T N y.1 301 (sk T N i2) o with
      | none => none
      | some o2 => some (y.1, y.2.1, y.2.2, o2)) = _
  rw [h2]
-- the class's reader of words: at i, a word in the draft
def FrD (M1 M : Mem) : Prop := (∀ b, b ≠ 3 → b ≠ 143 → b ≠ 144 → b ≠ 145 → M1.1 b = M.1 b) ∧ M1.2 = M.2
theorem FrD.rf {M : Mem} : FrD M M := ⟨fun _ _ _ _ _ => rfl, rfl⟩
theorem FrD.tr {M M1 M2 : Mem} (h1 : FrD M1 M) (h2 : FrD M2 M1) : FrD M2 M := ⟨fun b x y z u => (h2.1 b x y z u).trans (h1.1 b x y z u), h2.2.trans h1.2⟩
theorem FrD.w {M M1 : Mem} (h : Fr3 M1 M 143) : FrD M1 M := ⟨fun b _ y z u => h.1 b y z u, h.2⟩
theorem FrD.s {M : Mem} {k : Nat} {x : Int32} : FrD (st M 3 k x) M := ⟨fun b h _ _ _ => st_ob h, rfl⟩
theorem isTc.d {M M1 : Mem} {T : Nat → Nat} {N : Nat} (h : isTc M T N) (hf : FrD M1 M) : isTc M1 T N := ⟨by rw [hf.1 1 (by decide) (by decide) (by decide) (by decide)]; exact h.1, fun i hi => by rw [hf.1 2 (by decide) (by decide) (by decide) (by decide)]; exact h.2 i hi⟩
theorem CW.s3 {M : Mem} {q hv ed k : Nat} {o : Wo} {x : Int32} (h : CW M 143 q hv ed o) : CW (st M 3 k x) 143 q hv ed o := h.fr (st_ob (by decide)) (st_ob (by decide)) (st_ob (by decide))
/-- the reader at i, with a word in the draft -/
def DS (M : Mem) (T : Nat → Nat) (N i : Nat) (y : Sy) (o : Wo) : Prop := isTc M T N ∧ M.1 3 1 = zI (i : Int) ∧ i ≤ N ∧ CW M 143 y.1 y.2.1 y.2.2 o
theorem DS.at {M : Mem} {T : Nat → Nat} {N i j : Nat} {y : Sy} {o : Wo} (h : DS M T N i y o) (hj : j ≤ N) : DS (st M 3 1 (zI (j : Int))) T N j y o := ⟨h.1.o (by decide) (by decide), st_at, hj, h.2.2.2.s3⟩
theorem DS.w {M M1 : Mem} {T : Nat → Nat} {N i : Nat} {y y1 : Sy} {o o1 : Wo} (h : DS M T N i y o) (hF : Fr3 M1 M 143) (hC : CW M1 143 y1.1 y1.2.1 y1.2.2 o1) : DS M1 T N i y1 o1 := ⟨h.1.d (FrD.w hF), by rw [hF.1 3 (by decide) (by decide) (by decide)]; exact h.2.1, h.2.2.1, hC⟩
theorem andn_id {m j : Nat} (h : m < 2 ^ j) : andn m (2 ^ j) = m := by
  refine Nat.eq_of_testBit_eq fun i => ?_
  rw [andn_bit]
  by_cases h1 : i = j
  · rw [h1, Nat.testBit_lt_two_pow h]; rfl
  · rw [Nat.testBit_two_pow_of_ne (fun q => h1 q.symm)]; simp
theorem sbit_2 {m j x : Nat} (h : m < 2 ^ j) : sbit m j x < 2 ^ (j + 1) := by
  have hp : (2 : Nat) ^ j < 2 ^ (j + 1) := Nat.pow_lt_pow_right (by decide) (Nat.lt_succ_self j)
  unfold sbit
  by_cases h1 : x = 0
  · rw [if_pos h1, andn_id h]; omega
  · rw [if_neg h1]; exact Nat.or_lt_two_pow (by omega) hp
theorem CW.sy {M : Mem} {y : Sy} {o : Wo} {h e : Nat} (hC : CW M 143 y.1 y.2.1 y.2.2 o) {M1 : Mem} (hW : isW M1 143 o.1 (y.1 + 1) (sbit y.2.1 y.1 h) (sbit y.2.2 y.1 e) o.2.1 o.2.2) (hq : y.1 < 12) : CW M1 143 (syO y h e).1 (syO y h e).2.1 (syO y h e).2.2 o := ⟨hW, okW_q hC.2.1 (Nat.le_succ _) hq, sbit_lt hC.2.2.1 hq, sbit_lt hC.2.2.2 hq⟩
theorem okW_ln {q t u : Nat} {o : Wo} (h : okW q o) (ht : t < o.1) (hu : u < q) : okW q (lnO o t u) := okW_line h (or_ltq (h.2.2 t ht).2 hu)
theorem udJ1_canEncode_9a6ad_0 : decode cJ1_canEncode_9a6ad 0 = .ok (.iload_n 0, 1) := dq0 kk_26 (by decide +kernel)
theorem udJ1_canEncode_9a6ad_1 : decode cJ1_canEncode_9a6ad 1 = .ok (.ifCond .lt 14, 3) := dqT kk_155 (by decide +kernel)
theorem udJ1_canEncode_9a6ad_4 : decode cJ1_canEncode_9a6ad 4 = .ok (.iload_n 0, 1) := dq0 kk_26 (by decide +kernel)
theorem udJ1_canEncode_9a6ad_5 : decode cJ1_canEncode_9a6ad 5 = .ok (.sipush 255, 3) := dqT kk_17 (by decide +kernel)
theorem udJ1_canEncode_9a6ad_8 : decode cJ1_canEncode_9a6ad 8 = .ok (.if_icmp .gt 7, 3) := dqT kk_163 (by decide +kernel)
theorem udJ1_canEncode_9a6ad_11 : decode cJ1_canEncode_9a6ad 11 = .ok (.iconst 1, 1) := dq0 kk_4 (by decide +kernel)
theorem udJ1_canEncode_9a6ad_12 : decode cJ1_canEncode_9a6ad 12 = .ok (.goto 4, 3) := dqT kk_167 (by decide +kernel)
theorem udJ1_canEncode_9a6ad_16 : decode cJ1_canEncode_9a6ad 16 = .ok (.ireturn, 1) := dq0 kk_172 (by decide +kernel)
set_option maxRecDepth 4000 in
theorem t_canEncode {l : Launch} {D : va_G} {B : Nat} {cy : Nat → ClassId} {M : Mem} {v : Nat} (hv : v < 256) : Ci l D B cy yJ1_canEncode_9a6ad cJ1_canEncode_9a6ad 1 (some .boolean) 0 0 [.int (zI (v : Int))] M (fun r M1 => r = zI 1 ∧ M1 = M) := by
  refine s_any (by decide) (Nat.le_of_ble_eq_true rfl) ?_
  intro p e s m below meth c ls F hr hlocks w hl
  have F : CallFix p m c cJ1_canEncode_9a6ad 1 s _ TB RJ1 := F
  have hx := F.1
  have hb := F.2.1
  have hl : lv_has ls 1 [(0, .int (zI (v : Int)))] := hl
  refine lv_iload_n hx hb udJ1_canEncode_9a6ad_0 rfl (lv_at hl 0 rfl) ?_
  refine z_if_lt (tgt := 15) hx hb (by omega) udJ1_canEncode_9a6ad_1 (by decide) (fun c1 => False.elim (by omega)) (fun c1 => ?_)
  refine lv_iload_n hx hb udJ1_canEncode_9a6ad_4 rfl (lv_at hl 0 rfl) ?_
  refine lv_sipush (v := zI 255) hx hb udJ1_canEncode_9a6ad_5 (by decide) ?_
  refine z_icmp_gt (tgt := 15) hx hb (by omega) (by omega) udJ1_canEncode_9a6ad_8 (by decide) (fun c2 => False.elim (by omega)) (fun c2 => ?_)
  refine lv_iconst (v := zI 1) hx hb udJ1_canEncode_9a6ad_11 rfl ?_
  refine lv_goto (tgt := 16) hx hb udJ1_canEncode_9a6ad_12 (by decide) ?_
  exact e_z F w hr hlocks (nar_z (by omega)) ⟨rfl, rfl⟩ udJ1_canEncode_9a6ad_16
theorem udJ1_indexOfChar_4cfef_0 : decode cJ1_indexOfChar_4cfef 0 = .ok (.iload_n 1, 1) := dq0 kk_27 (by decide +kernel)
theorem udJ1_indexOfChar_4cfef_1 : decode cJ1_indexOfChar_4cfef 1 = .ok (.i2b, 1) := dq0 kk_145 (by decide +kernel)
theorem udJ1_indexOfChar_4cfef_2 : decode cJ1_indexOfChar_4cfef 2 = .ok (.istore 4, 2) := dqU kk_54 (by decide +kernel)
theorem udJ1_indexOfChar_4cfef_4 : decode cJ1_indexOfChar_4cfef 4 = .ok (.iload_n 2, 1) := dq0 kk_28 (by decide +kernel)
theorem udJ1_indexOfChar_4cfef_5 : decode cJ1_indexOfChar_4cfef 5 = .ok (.istore 5, 2) := dqU kk_54 (by decide +kernel)
theorem udJ1_indexOfChar_4cfef_7 : decode cJ1_indexOfChar_4cfef 7 = .ok (.iload 5, 2) := dqU kk_21 (by decide +kernel)
theorem udJ1_indexOfChar_4cfef_9 : decode cJ1_indexOfChar_4cfef 9 = .ok (.iload_n 3, 1) := dq0 kk_29 (by decide +kernel)
theorem udJ1_indexOfChar_4cfef_10 : decode cJ1_indexOfChar_4cfef 10 = .ok (.if_icmp .ge 21, 3) := dqT kk_162 (by decide +kernel)
theorem udJ1_indexOfChar_4cfef_13 : decode cJ1_indexOfChar_4cfef 13 = .ok (.aload_n 0, 1) := dq0 kk_42 (by decide +kernel)
theorem udJ1_indexOfChar_4cfef_14 : decode cJ1_indexOfChar_4cfef 14 = .ok (.iload 5, 2) := dqU kk_21 (by decide +kernel)
theorem udJ1_indexOfChar_4cfef_16 : decode cJ1_indexOfChar_4cfef 16 = .ok (.baload, 1) := dq0 kk_51 (by decide +kernel)
theorem udJ1_indexOfChar_4cfef_17 : decode cJ1_indexOfChar_4cfef 17 = .ok (.iload 4, 2) := dqU kk_21 (by decide +kernel)
theorem udJ1_indexOfChar_4cfef_19 : decode cJ1_indexOfChar_4cfef 19 = .ok (.if_icmp .ne 6, 3) := dqT kk_160 (by decide +kernel)
theorem udJ1_indexOfChar_4cfef_25 : decode cJ1_indexOfChar_4cfef 25 = .ok (.iinc 5 1, 3) := dqI kk_132 (by decide +kernel)
theorem udJ1_indexOfChar_4cfef_28 : decode cJ1_indexOfChar_4cfef 28 = .ok (.goto (-21), 3) := dqT kk_167 (by decide +kernel)
theorem udJ1_indexOfChar_4cfef_31 : decode cJ1_indexOfChar_4cfef 31 = .ok (.iconst (-1), 1) := dq0 kk_2 (by decide +kernel)
theorem udJ1_indexOfChar_4cfef_32 : decode cJ1_indexOfChar_4cfef 32 = .ok (.ireturn, 1) := dq0 kk_172 (by decide +kernel)
theorem udJ1_indexOfChar_4cfef_22 : decode cJ1_indexOfChar_4cfef 22 = .ok (.iload 5, 2) := dqU kk_21 (by decide +kernel)
theorem udJ1_indexOfChar_4cfef_24 : decode cJ1_indexOfChar_4cfef 24 = .ok (.ireturn, 1) := dq0 kk_172 (by decide +kernel)
set_option maxRecDepth 4000 in
theorem t_indexOfChar {l : Launch} {D : va_G} {B : Nat} {cy : Nat → ClassId} {M : Mem} {v : Nat} (hv : v < 256) : Ci l D B cy yJ1_indexOfChar_4cfef cJ1_indexOfChar_4cfef 6 (some .int) 0 0 [.ref (D.2 201 0), .int (zI (v : Int)), .int (zI 0), .int (zI 3)] M (fun r M1 => r = zI (kndI (v : Int)) ∧ M1 = M) := by
  refine s_any (by decide) (Nat.le_of_ble_eq_true rfl) ?_
  intro p e s m below meth c ls F hr hlocks w hl
  have F : CallFix p m c cJ1_indexOfChar_4cfef 6 s _ TB RJ1 := F
  have hx := F.1
  have hb := F.2.1
  have hl : lv_has ls 6 [(0, .ref (D.2 201 0)), (1, .int (zI (v : Int))), (2, .int (zI 0)), (3, .int (zI 3))] := hl
  have hsb := sb_a hv
  have hkn := knd_a (v : Int)
  have hsl : slN 0 = 3 := rfl
  refine lv_iload_n hx hb udJ1_indexOfChar_4cfef_0 rfl (lv_at hl 1 rfl) ?_
  refine lv_i2b (v := (zI (sb v))) hx hb udJ1_indexOfChar_4cfef_1 (i2b_k v hv) ?_
  refine lv_istore (lv' := [(4, .int (zI (sb v))), (0, .ref (D.2 201 0)), (1, .int (zI (v : Int))), (2, .int (zI 0)), (3, .int (zI 3))]) hx hb udJ1_indexOfChar_4cfef_2 hl (by decide) rfl (fun ls hl => ?_)
  refine lv_iload_n hx hb udJ1_indexOfChar_4cfef_4 rfl (lv_at hl 3 rfl) ?_
  refine lv_istore (lv' := [(5, .int (zI 0)), (4, .int (zI (sb v))), (0, .ref (D.2 201 0)), (1, .int (zI (v : Int))), (2, .int (zI 0)), (3, .int (zI 3))]) hx hb udJ1_indexOfChar_4cfef_5 hl (by decide) rfl (fun ls hl => ?_)
  refine lv_iload hx hb udJ1_indexOfChar_4cfef_7 (lv_at hl 0 rfl) ?_
  refine lv_iload_n hx hb udJ1_indexOfChar_4cfef_9 rfl (lv_at hl 5 rfl) ?_
  refine z_icmp_ge (tgt := 31) hx hb (by omega) (by omega) udJ1_indexOfChar_4cfef_10 (by decide) (fun c1 => False.elim (by omega)) (fun c1 => ?_)
  refine lv_aload_n hx hb udJ1_indexOfChar_4cfef_13 rfl (lv_at hl 2 rfl) ?_
  refine lv_iload hx hb udJ1_indexOfChar_4cfef_14 (lv_at hl 0 rfl) ?_
  have hsx1 := slx_b (i := 0) (show 0 < NSL by decide) (j := 0) (by omega)
  refine g_sbyt F w (i := 0) (show 0 < NSL by decide) (j := 0) ⟨by decide, by decide⟩ (by omega) (slx_e (i := 0) (show 0 < NSL by decide) (j := 0) (by omega)) udJ1_indexOfChar_4cfef_16 ?_
  refine r_val (v := zI 108) (congrArg zI (by decide)) ?_
  refine lv_iload hx hb udJ1_indexOfChar_4cfef_17 (lv_at hl 1 rfl) ?_
  refine z_icmp_ne (tgt := 25) hx hb (by omega) (by omega) udJ1_indexOfChar_4cfef_19 (by decide) (fun c2 => ?_) (fun c2 => ?_)
  · refine z_iinc (v := 1) (lv' := [(5, .int (zI 1)), (4, .int (zI (sb v))), (0, .ref (D.2 201 0)), (1, .int (zI (v : Int))), (2, .int (zI 0)), (3, .int (zI 3))]) hx hb udJ1_indexOfChar_4cfef_25 hl (k := 0) rfl (by omega) (by decide) rfl (fun ls hl => ?_)
    refine lv_goto (tgt := 7) hx hb udJ1_indexOfChar_4cfef_28 (by decide) ?_
    refine lv_iload hx hb udJ1_indexOfChar_4cfef_7 (lv_at hl 0 rfl) ?_
    refine lv_iload_n hx hb udJ1_indexOfChar_4cfef_9 rfl (lv_at hl 5 rfl) ?_
    refine z_icmp_ge (tgt := 31) hx hb (by omega) (by omega) udJ1_indexOfChar_4cfef_10 (by decide) (fun c3 => False.elim (by omega)) (fun c3 => ?_)
    refine lv_aload_n hx hb udJ1_indexOfChar_4cfef_13 rfl (lv_at hl 2 rfl) ?_
    refine lv_iload hx hb udJ1_indexOfChar_4cfef_14 (lv_at hl 0 rfl) ?_
    have hsx3 := slx_b (i := 0) (show 0 < NSL by decide) (j := 1) (by omega)
    refine g_sbyt F w (i := 0) (show 0 < NSL by decide) (j := 1) ⟨by decide, by decide⟩ (by omega) (slx_e (i := 0) (show 0 < NSL by decide) (j := 1) (by omega)) udJ1_indexOfChar_4cfef_16 ?_
    refine r_val (v := zI 109) (congrArg zI (by decide)) ?_
    refine lv_iload hx hb udJ1_indexOfChar_4cfef_17 (lv_at hl 1 rfl) ?_
    refine z_icmp_ne (tgt := 25) hx hb (by omega) (by omega) udJ1_indexOfChar_4cfef_19 (by decide) (fun c4 => ?_) (fun c4 => ?_)
    · refine z_iinc (v := 2) (lv' := [(5, .int (zI 2)), (4, .int (zI (sb v))), (0, .ref (D.2 201 0)), (1, .int (zI (v : Int))), (2, .int (zI 0)), (3, .int (zI 3))]) hx hb udJ1_indexOfChar_4cfef_25 hl (k := 0) rfl (by omega) (by decide) rfl (fun ls hl => ?_)
      refine lv_goto (tgt := 7) hx hb udJ1_indexOfChar_4cfef_28 (by decide) ?_
      refine lv_iload hx hb udJ1_indexOfChar_4cfef_7 (lv_at hl 0 rfl) ?_
      refine lv_iload_n hx hb udJ1_indexOfChar_4cfef_9 rfl (lv_at hl 5 rfl) ?_
      refine z_icmp_ge (tgt := 31) hx hb (by omega) (by omega) udJ1_indexOfChar_4cfef_10 (by decide) (fun c5 => False.elim (by omega)) (fun c5 => ?_)
      refine lv_aload_n hx hb udJ1_indexOfChar_4cfef_13 rfl (lv_at hl 2 rfl) ?_
      refine lv_iload hx hb udJ1_indexOfChar_4cfef_14 (lv_at hl 0 rfl) ?_
      have hsx5 := slx_b (i := 0) (show 0 < NSL by decide) (j := 2) (by omega)
      refine g_sbyt F w (i := 0) (show 0 < NSL by decide) (j := 2) ⟨by decide, by decide⟩ (by omega) (slx_e (i := 0) (show 0 < NSL by decide) (j := 2) (by omega)) udJ1_indexOfChar_4cfef_16 ?_
      refine r_val (v := zI 104) (congrArg zI (by decide)) ?_
      refine lv_iload hx hb udJ1_indexOfChar_4cfef_17 (lv_at hl 1 rfl) ?_
      refine z_icmp_ne (tgt := 25) hx hb (by omega) (by omega) udJ1_indexOfChar_4cfef_19 (by decide) (fun c6 => ?_) (fun c6 => ?_)
      · refine z_iinc (v := 3) (lv' := [(5, .int (zI 3)), (4, .int (zI (sb v))), (0, .ref (D.2 201 0)), (1, .int (zI (v : Int))), (2, .int (zI 0)), (3, .int (zI 3))]) hx hb udJ1_indexOfChar_4cfef_25 hl (k := 0) rfl (by omega) (by decide) rfl (fun ls hl => ?_)
        refine lv_goto (tgt := 7) hx hb udJ1_indexOfChar_4cfef_28 (by decide) ?_
        refine lv_iload hx hb udJ1_indexOfChar_4cfef_7 (lv_at hl 0 rfl) ?_
        refine lv_iload_n hx hb udJ1_indexOfChar_4cfef_9 rfl (lv_at hl 5 rfl) ?_
        refine z_icmp_ge (tgt := 31) hx hb (by omega) (by omega) udJ1_indexOfChar_4cfef_10 (by decide) (fun c7 => ?_) (fun c7 => False.elim (by omega))
        refine lv_iconst (v := zI (-1)) hx hb udJ1_indexOfChar_4cfef_31 rfl ?_
        exact e_i F w hr hlocks ⟨congrArg zI (by omega), rfl⟩ udJ1_indexOfChar_4cfef_32
      · refine lv_iload hx hb udJ1_indexOfChar_4cfef_22 (lv_at hl 0 rfl) ?_
        exact e_i F w hr hlocks ⟨congrArg zI (by omega), rfl⟩ udJ1_indexOfChar_4cfef_24
    · refine lv_iload hx hb udJ1_indexOfChar_4cfef_22 (lv_at hl 0 rfl) ?_
      exact e_i F w hr hlocks ⟨congrArg zI (by omega), rfl⟩ udJ1_indexOfChar_4cfef_24
  · refine lv_iload hx hb udJ1_indexOfChar_4cfef_22 (lv_at hl 0 rfl) ?_
    exact e_i F w hr hlocks ⟨congrArg zI (by omega), rfl⟩ udJ1_indexOfChar_4cfef_24
theorem udJ1_indexOf_4cfef_0 : decode cJ1_indexOf_4cfef 0 = .ok (.iload_n 1, 1) := dq0 kk_27 (by decide +kernel)
theorem udJ1_indexOf_4cfef_1 : decode cJ1_indexOf_4cfef 1 = .ok (.invokestatic 88, 3) := dqV kk_184 (by decide +kernel)
theorem utk_J1_canEncode_9a6ad : Cond.code yJ1_canEncode_9a6ad cJ1_canEncode_9a6ad 1 (some .boolean) ∈ TB := tbm (tc2 (List.mem_of_getElem? (i := 152) rfl)) rfl
theorem ugc_J1_canEncode_9a6ad : GoodIn TB (cw yJ1_canEncode_9a6ad cJ1_canEncode_9a6ad 1 (some .boolean)) := goodIn_c2 utk_J1_canEncode_9a6ad
theorem utb_0 : Cond.methodLink "java/lang/StringLatin1" 88 yJ1_canEncode_9a6ad ∈ TB := tbm (tc2 (List.mem_of_getElem? (i := 150) rfl)) rfl
theorem utb_1 : Cond.static yJ1_canEncode_9a6ad ∈ TB := tbm (tc2 (List.mem_of_getElem? (i := 151) rfl)) rfl
theorem utb_2 : Cond.initialized "java/lang/StringLatin1" ∈ TB := rtb_18
theorem ugs_J1_88 : GoodIn TB (va_wsS RJ1 88 yJ1_canEncode_9a6ad (cw yJ1_canEncode_9a6ad cJ1_canEncode_9a6ad 1 (some .boolean))) := goodIn_3 utb_0 utb_1 utb_2 ugc_J1_canEncode_9a6ad
theorem uhs_J1_canEncode_9a6ad : yJ1_canEncode_9a6ad.cls ≠ "java/lang/invoke/MethodHandle" ∧ yJ1_canEncode_9a6ad.cls ≠ "java/lang/invoke/VarHandle" ∧ (parseMethodDescriptor yJ1_canEncode_9a6ad.desc).map (fun d => d.parameters.length) = some 1 := by decide +kernel
theorem udJ1_indexOf_4cfef_4 : decode cJ1_indexOf_4cfef 4 = .ok (.ifCond .ne 5, 3) := dqT kk_154 (by decide +kernel)
theorem udJ1_indexOf_4cfef_9 : decode cJ1_indexOf_4cfef 9 = .ok (.iload_n 2, 1) := dq0 kk_28 (by decide +kernel)
theorem udJ1_indexOf_4cfef_10 : decode cJ1_indexOf_4cfef 10 = .ok (.iconst 0, 1) := dq0 kk_3 (by decide +kernel)
theorem udJ1_indexOf_4cfef_11 : decode cJ1_indexOf_4cfef 11 = .ok (.invokestatic 92, 3) := dqV kk_184 (by decide +kernel)
theorem utb_3 : Cond.methodLink "java/lang/StringLatin1" 92 yJ9_max_7cf53 ∈ TB := tbm (tc2 (List.mem_of_getElem? (i := 153) rfl)) rfl
theorem utb_4 : Cond.static yJ9_max_7cf53 ∈ TB := tb_51
theorem utb_5 : Cond.initialized "java/lang/Math" ∈ TB := rtb_93
theorem utq_max : Cond.code Lib.Math.max.name Lib.Math.max.code 2 (some .int) ∈ TB := tq_max
theorem udJ1_indexOf_4cfef_14 : decode cJ1_indexOf_4cfef 14 = .ok (.istore_n 2, 1) := dq0 kk_61 (by decide +kernel)
theorem udJ1_indexOf_4cfef_15 : decode cJ1_indexOf_4cfef 15 = .ok (.iload_n 3, 1) := dq0 kk_29 (by decide +kernel)
theorem udJ1_indexOf_4cfef_16 : decode cJ1_indexOf_4cfef 16 = .ok (.aload_n 0, 1) := dq0 kk_42 (by decide +kernel)
theorem udJ1_indexOf_4cfef_17 : decode cJ1_indexOf_4cfef 17 = .ok (.arraylength, 1) := dq0 kk_190 (by decide +kernel)
theorem udJ1_indexOf_4cfef_18 : decode cJ1_indexOf_4cfef 18 = .ok (.invokestatic 38, 3) := dqV kk_184 (by decide +kernel)
theorem utb_7 : Cond.methodLink "java/lang/StringLatin1" 38 yJ9_min_7cf53 ∈ TB := tbm (tc2 (List.mem_of_getElem? (i := 156) rfl)) rfl
theorem utb_8 : Cond.static yJ9_min_7cf53 ∈ TB := rtb_92
theorem utq_min : Cond.code Lib.Math.min.name Lib.Math.min.code 2 (some .int) ∈ TB := rtq_min
theorem udJ1_indexOf_4cfef_21 : decode cJ1_indexOf_4cfef 21 = .ok (.istore_n 3, 1) := dq0 kk_62 (by decide +kernel)
theorem udJ1_indexOf_4cfef_22 : decode cJ1_indexOf_4cfef 22 = .ok (.iload_n 2, 1) := dq0 kk_28 (by decide +kernel)
theorem udJ1_indexOf_4cfef_23 : decode cJ1_indexOf_4cfef 23 = .ok (.iload_n 3, 1) := dq0 kk_29 (by decide +kernel)
theorem udJ1_indexOf_4cfef_24 : decode cJ1_indexOf_4cfef 24 = .ok (.if_icmp .lt 5, 3) := dqT kk_161 (by decide +kernel)
theorem udJ1_indexOf_4cfef_29 : decode cJ1_indexOf_4cfef 29 = .ok (.aload_n 0, 1) := dq0 kk_42 (by decide +kernel)
theorem udJ1_indexOf_4cfef_30 : decode cJ1_indexOf_4cfef 30 = .ok (.iload_n 1, 1) := dq0 kk_27 (by decide +kernel)
theorem udJ1_indexOf_4cfef_31 : decode cJ1_indexOf_4cfef 31 = .ok (.iload_n 2, 1) := dq0 kk_28 (by decide +kernel)
theorem udJ1_indexOf_4cfef_32 : decode cJ1_indexOf_4cfef 32 = .ok (.iload_n 3, 1) := dq0 kk_29 (by decide +kernel)
theorem udJ1_indexOf_4cfef_33 : decode cJ1_indexOf_4cfef 33 = .ok (.invokestatic 95, 3) := dqV kk_184 (by decide +kernel)
theorem utk_J1_indexOfChar_4cfef : Cond.code yJ1_indexOfChar_4cfef cJ1_indexOfChar_4cfef 6 (some .int) ∈ TB := tbm (tc2 (List.mem_of_getElem? (i := 161) rfl)) rfl
theorem ugc_J1_indexOfChar_4cfef : GoodIn TB (cw yJ1_indexOfChar_4cfef cJ1_indexOfChar_4cfef 6 (some .int)) := goodIn_c2 utk_J1_indexOfChar_4cfef
theorem utb_10 : Cond.methodLink "java/lang/StringLatin1" 95 yJ1_indexOfChar_4cfef ∈ TB := tbm (tc2 (List.mem_of_getElem? (i := 159) rfl)) rfl
theorem utb_11 : Cond.static yJ1_indexOfChar_4cfef ∈ TB := tbm (tc2 (List.mem_of_getElem? (i := 160) rfl)) rfl
theorem ugs_J1_95 : GoodIn TB (va_wsS RJ1 95 yJ1_indexOfChar_4cfef (cw yJ1_indexOfChar_4cfef cJ1_indexOfChar_4cfef 6 (some .int))) := goodIn_3 utb_10 utb_11 utb_2 ugc_J1_indexOfChar_4cfef
theorem uhs_J1_indexOfChar_4cfef : yJ1_indexOfChar_4cfef.cls ≠ "java/lang/invoke/MethodHandle" ∧ yJ1_indexOfChar_4cfef.cls ≠ "java/lang/invoke/VarHandle" ∧ (parseMethodDescriptor yJ1_indexOfChar_4cfef.desc).map (fun d => d.parameters.length) = some 4 := by decide +kernel
theorem udJ1_indexOf_4cfef_36 : decode cJ1_indexOf_4cfef 36 = .ok (.ireturn, 1) := dq0 kk_172 (by decide +kernel)
set_option maxRecDepth 4000 in
theorem t_indexOfL {l : Launch} {D : va_G} {B : Nat} {cy : Nat → ClassId} {M : Mem} {v : Nat} (hv : v < 256) : Ci l D B cy yJ1_indexOf_4cfef cJ1_indexOf_4cfef 4 (some .int) 1 25 [.ref (D.2 201 0), .int (zI (v : Int)), .int (zI 0), .int (zI 3)] M (fun r M1 => r = zI (kndI (v : Int)) ∧ M1 = M) := by
  refine s_any (by decide) (Nat.le_of_ble_eq_true rfl) ?_
  intro p e s m below meth c ls F hr hlocks w hl
  have F : CallFix p m c cJ1_indexOf_4cfef 4 s _ TB RJ1 := F
  have hx := F.1
  have hb := F.2.1
  have hl : lv_has ls 4 [(0, .ref (D.2 201 0)), (1, .int (zI (v : Int))), (2, .int (zI 0)), (3, .int (zI 3))] := hl
  have hkn := knd_a (v : Int)
  have hsl : slN 0 = 3 := rfl
  refine lv_iload_n hx hb udJ1_indexOf_4cfef_0 rfl (lv_at hl 1 rfl) ?_
  refine x_Si F w (As := [.int (zI (v : Int))]) (rest := []) (t_canEncode hv) ugs_J1_88 uhs_J1_canEncode_9a6ad ⟨(Nat.le_of_ble_eq_true rfl), (Nat.le_of_ble_eq_true rfl)⟩ hl.1 rfl (Nat.le_of_ble_eq_true rfl) ⟨Nat.zero_le _, Nat.zero_le _⟩ udJ1_indexOf_4cfef_1 (fun H locs w => ?_)
  refine z_if_ne (tgt := 9) hx hb (by omega) udJ1_indexOf_4cfef_4 (by decide) (fun c2 => ?_) (fun c2 => False.elim (by omega))
  refine lv_iload_n hx hb udJ1_indexOf_4cfef_9 rfl (lv_at hl 2 rfl) ?_
  refine lv_iconst (v := zI 0) hx hb udJ1_indexOf_4cfef_10 rfl ?_
  refine g_max F hl.1 utb_3 utb_4 utb_5 utq_max (Nat.le_of_ble_eq_true rfl) (Nat.le_of_ble_eq_true rfl) (Nat.zero_le _) (Nat.zero_le _) (v := (zI 0)) (by decide) udJ1_indexOf_4cfef_11 ?_
  refine lv_istore_n (lv' := [(2, .int (zI 0)), (0, .ref (D.2 201 0)), (1, .int (zI (v : Int))), (3, .int (zI 3))]) hx hb udJ1_indexOf_4cfef_14 rfl hl (by decide) rfl (fun ls hl => ?_)
  refine lv_iload_n hx hb udJ1_indexOf_4cfef_15 rfl (lv_at hl 3 rfl) ?_
  refine lv_aload_n hx hb udJ1_indexOf_4cfef_16 rfl (lv_at hl 1 rfl) ?_
  have hsl2 := sl_len (i := 0) (show 0 < NSL by decide)
  refine g_slen F w (i := 0) (show 0 < NSL by decide) udJ1_indexOf_4cfef_17 ?_
  refine g_min F hl.1 utb_7 utb_8 utb_5 utq_min (Nat.le_of_ble_eq_true rfl) (Nat.le_of_ble_eq_true rfl) (Nat.zero_le _) (Nat.zero_le _) (v := (zI 3)) (by decide) udJ1_indexOf_4cfef_18 ?_
  refine lv_istore_n (lv' := [(3, .int (zI 3)), (2, .int (zI 0)), (0, .ref (D.2 201 0)), (1, .int (zI (v : Int)))]) hx hb udJ1_indexOf_4cfef_21 rfl hl (by decide) rfl (fun ls hl => ?_)
  refine lv_iload_n hx hb udJ1_indexOf_4cfef_22 rfl (lv_at hl 1 rfl) ?_
  refine lv_iload_n hx hb udJ1_indexOf_4cfef_23 rfl (lv_at hl 0 rfl) ?_
  refine z_icmp_lt (tgt := 29) hx hb (by omega) (by omega) udJ1_indexOf_4cfef_24 (by decide) (fun c3 => ?_) (fun c3 => False.elim (by omega))
  refine lv_aload_n hx hb udJ1_indexOf_4cfef_29 rfl (lv_at hl 2 rfl) ?_
  refine lv_iload_n hx hb udJ1_indexOf_4cfef_30 rfl (lv_at hl 3 rfl) ?_
  refine lv_iload_n hx hb udJ1_indexOf_4cfef_31 rfl (lv_at hl 1 rfl) ?_
  refine lv_iload_n hx hb udJ1_indexOf_4cfef_32 rfl (lv_at hl 0 rfl) ?_
  refine x_Si F w (As := [.ref (D.2 201 0), .int (zI (v : Int)), .int (zI 0), .int (zI 3)]) (rest := []) (t_indexOfChar hv) ugs_J1_95 uhs_J1_indexOfChar_4cfef ⟨(Nat.le_of_ble_eq_true rfl), (Nat.le_of_ble_eq_true rfl)⟩ hl.1 rfl (Nat.le_of_ble_eq_true rfl) ⟨Nat.zero_le _, Nat.zero_le _⟩ udJ1_indexOf_4cfef_33 (fun H locs w => ?_)
  exact e_i F w hr hlocks ⟨rfl, rfl⟩ udJ1_indexOf_4cfef_36
theorem udJ0_indexOf_7cf53_0 : decode cJ0_indexOf_7cf53 0 = .ok (.aload_n 0, 1) := dq0 kk_42 (by decide +kernel)
theorem udJ0_indexOf_7cf53_1 : decode cJ0_indexOf_7cf53 1 = .ok (.invokevirtual 492, 3) := dqV kk_182 (by decide +kernel)
theorem utk_J0_isLatin1_aae02 : Cond.code yJ0_isLatin1_aae02 cJ0_isLatin1_aae02 1 (some .boolean) ∈ TB := rtk_J0_isLatin1_aae02
theorem ugc_J0_isLatin1_aae02 : GoodIn TB (cw yJ0_isLatin1_aae02 cJ0_isLatin1_aae02 1 (some .boolean)) := goodIn_c2 utk_J0_isLatin1_aae02
theorem utb_12 : Cond.methodLink "java/lang/String" 492 yJ0_isLatin1_aae02 ∈ TB := rtb_13
theorem utb_13 : Cond.instanceMethod yJ0_isLatin1_aae02 ∈ TB := rtb_14
theorem utb_14 : Cond.selects "java/lang/String" yJ0_isLatin1_aae02 yJ0_isLatin1_aae02 ∈ TB := rtb_15
theorem utb_15 : Cond.initialized "java/lang/String" ∈ TB := rtb_6
theorem ugv_J0_492 : GoodIn TB (wsV RJ0 492 RJ0 yJ0_isLatin1_aae02 (cw yJ0_isLatin1_aae02 cJ0_isLatin1_aae02 1 (some .boolean))) := goodIn_4 utb_12 utb_13 utb_14 utb_15 ugc_J0_isLatin1_aae02
theorem uhv_J0_isLatin1_aae02 : yJ0_isLatin1_aae02.cls = RJ0 ∧ yJ0_isLatin1_aae02.cls ≠ "java/lang/invoke/MethodHandle" ∧ yJ0_isLatin1_aae02.cls ≠ "java/lang/invoke/VarHandle" ∧ (parseMethodDescriptor yJ0_isLatin1_aae02.desc).map (fun d => d.parameters.length) = some 0 := rhv_J0_isLatin1_aae02
theorem udJ0_indexOf_7cf53_4 : decode cJ0_indexOf_7cf53 4 = .ok (.ifCond .eq 19, 3) := dqT kk_153 (by decide +kernel)
theorem udJ0_indexOf_7cf53_7 : decode cJ0_indexOf_7cf53 7 = .ok (.aload_n 0, 1) := dq0 kk_42 (by decide +kernel)
theorem udJ0_indexOf_7cf53_8 : decode cJ0_indexOf_7cf53 8 = .ok (.getfield 9, 3) := dqV kk_180 (by decide +kernel)
theorem utb_16 : Cond.fieldLink "java/lang/String" 9 "java/lang/String" "value" "[B" ∈ TB := rtb_2
theorem udJ0_indexOf_7cf53_11 : decode cJ0_indexOf_7cf53 11 = .ok (.iload_n 1, 1) := dq0 kk_27 (by decide +kernel)
theorem udJ0_indexOf_7cf53_12 : decode cJ0_indexOf_7cf53 12 = .ok (.iload_n 2, 1) := dq0 kk_28 (by decide +kernel)
theorem udJ0_indexOf_7cf53_13 : decode cJ0_indexOf_7cf53 13 = .ok (.aload_n 0, 1) := dq0 kk_42 (by decide +kernel)
theorem udJ0_indexOf_7cf53_14 : decode cJ0_indexOf_7cf53 14 = .ok (.invokevirtual 505, 3) := dqV kk_182 (by decide +kernel)
theorem utk_J0_length_8abf5 : Cond.code yJ0_length_8abf5 cJ0_length_8abf5 1 (some .int) ∈ TB := rtk_J0_length_8abf5
theorem ugc_J0_length_8abf5 : GoodIn TB (cw yJ0_length_8abf5 cJ0_length_8abf5 1 (some .int)) := goodIn_c2 utk_J0_length_8abf5
theorem utb_17 : Cond.methodLink "java/lang/String" 505 yJ0_length_8abf5 ∈ TB := tbm (tc2 (List.mem_of_getElem? (i := 139) rfl)) rfl
theorem utb_18 : Cond.instanceMethod yJ0_length_8abf5 ∈ TB := rtb_39
theorem utb_19 : Cond.selects "java/lang/String" yJ0_length_8abf5 yJ0_length_8abf5 ∈ TB := rtb_40
theorem ugv_J0_505 : GoodIn TB (wsV RJ0 505 RJ0 yJ0_length_8abf5 (cw yJ0_length_8abf5 cJ0_length_8abf5 1 (some .int))) := goodIn_4 utb_17 utb_18 utb_19 utb_15 ugc_J0_length_8abf5
theorem uhv_J0_length_8abf5 : yJ0_length_8abf5.cls = RJ0 ∧ yJ0_length_8abf5.cls ≠ "java/lang/invoke/MethodHandle" ∧ yJ0_length_8abf5.cls ≠ "java/lang/invoke/VarHandle" ∧ (parseMethodDescriptor yJ0_length_8abf5.desc).map (fun d => d.parameters.length) = some 0 := rhv_J0_length_8abf5
theorem udJ0_indexOf_7cf53_17 : decode cJ0_indexOf_7cf53 17 = .ok (.invokestatic 637, 3) := dqV kk_184 (by decide +kernel)
theorem utk_J1_indexOf_4cfef : Cond.code yJ1_indexOf_4cfef cJ1_indexOf_4cfef 4 (some .int) ∈ TB := tbm (tc2 (List.mem_of_getElem? (i := 149) rfl)) rfl
theorem ugc_J1_indexOf_4cfef : GoodIn TB (cw yJ1_indexOf_4cfef cJ1_indexOf_4cfef 4 (some .int)) := goodIn_c2 utk_J1_indexOf_4cfef
theorem utb_20 : Cond.methodLink "java/lang/String" 637 yJ1_indexOf_4cfef ∈ TB := tbm (tc2 (List.mem_of_getElem? (i := 147) rfl)) rfl
theorem utb_21 : Cond.static yJ1_indexOf_4cfef ∈ TB := tbm (tc2 (List.mem_of_getElem? (i := 148) rfl)) rfl
theorem ugs_J0_637 : GoodIn TB (va_wsS RJ0 637 yJ1_indexOf_4cfef (cw yJ1_indexOf_4cfef cJ1_indexOf_4cfef 4 (some .int))) := goodIn_3 utb_20 utb_21 utb_2 ugc_J1_indexOf_4cfef
theorem uhs_J1_indexOf_4cfef : yJ1_indexOf_4cfef.cls ≠ "java/lang/invoke/MethodHandle" ∧ yJ1_indexOf_4cfef.cls ≠ "java/lang/invoke/VarHandle" ∧ (parseMethodDescriptor yJ1_indexOf_4cfef.desc).map (fun d => d.parameters.length) = some 4 := by decide +kernel
theorem udJ0_indexOf_7cf53_20 : decode cJ0_indexOf_7cf53 20 = .ok (.goto 16, 3) := dqT kk_167 (by decide +kernel)
theorem udJ0_indexOf_7cf53_36 : decode cJ0_indexOf_7cf53 36 = .ok (.ireturn, 1) := dq0 kk_172 (by decide +kernel)
set_option maxRecDepth 4000 in
theorem t_indexOf2 {l : Launch} {D : va_G} {B : Nat} {cy : Nat → ClassId} {M : Mem} {v : Nat} (hv : v < 256) : Ci l D B cy yJ0_indexOf_7cf53 cJ0_indexOf_7cf53 3 (some .int) 2 48 [.ref (D.2 200 0), .int (zI (v : Int)), .int (zI 0)] M (fun r M1 => r = zI (kndI (v : Int)) ∧ M1 = M) := by
  refine s_any (by decide) (Nat.le_of_ble_eq_true rfl) ?_
  intro p e s m below meth c ls F hr hlocks w hl
  have F : CallFix p m c cJ0_indexOf_7cf53 3 s _ TB RJ0 := F
  have hx := F.1
  have hb := F.2.1
  have hl : lv_has ls 3 [(0, .ref (D.2 200 0)), (1, .int (zI (v : Int))), (2, .int (zI 0))] := hl
  have hkn := knd_a (v : Int)
  refine lv_aload_n hx hb udJ0_indexOf_7cf53_0 rfl (lv_at hl 0 rfl) ?_
  refine k_Qi F w (As := []) (rest := []) (i := 0) (show 0 < NSL by decide) (t_isLatin1 (i9 := 0) (show 0 < NSL by decide)) ugv_J0_492 uhv_J0_isLatin1_aae02 ⟨(Nat.le_of_ble_eq_true rfl), (Nat.le_of_ble_eq_true rfl)⟩ hl.1 rfl (Nat.le_of_ble_eq_true rfl) ⟨Nat.zero_le _, Nat.zero_le _⟩ udJ0_indexOf_7cf53_1 (fun r M1 H locs hp w => ?_)
  obtain ⟨rfl, hMe⟩ := hp
  rw [hMe] at w
  refine z_if_eq (tgt := 23) hx hb (by omega) udJ0_indexOf_7cf53_4 (by decide) (fun c1 => False.elim (by omega)) (fun c1 => ?_)
  refine lv_aload_n hx hb udJ0_indexOf_7cf53_7 rfl (lv_at hl 0 rfl) ?_
  refine g_sval F w (i := 0) (show 0 < NSL by decide) utb_16 udJ0_indexOf_7cf53_8 ?_
  refine lv_iload_n hx hb udJ0_indexOf_7cf53_11 rfl (lv_at hl 1 rfl) ?_
  refine lv_iload_n hx hb udJ0_indexOf_7cf53_12 rfl (lv_at hl 2 rfl) ?_
  refine lv_aload_n hx hb udJ0_indexOf_7cf53_13 rfl (lv_at hl 0 rfl) ?_
  refine k_Qi F w (As := []) (rest := [.int (zI 0), .int (zI (v : Int)), .ref (D.2 201 0)]) (i := 0) (show 0 < NSL by decide) (t_length (i9 := 0) (show 0 < NSL by decide)) ugv_J0_505 uhv_J0_length_8abf5 ⟨(Nat.le_of_ble_eq_true rfl), (Nat.le_of_ble_eq_true rfl)⟩ hl.1 rfl (Nat.le_of_ble_eq_true rfl) ⟨Nat.zero_le _, Nat.zero_le _⟩ udJ0_indexOf_7cf53_14 (fun r M1 H locs hp w => ?_)
  obtain ⟨rfl, hMe⟩ := hp
  rw [hMe] at w
  refine r_val (v := zI 3) (congrArg zI rfl) ?_
  refine x_Si F w (As := [.ref (D.2 201 0), .int (zI (v : Int)), .int (zI 0), .int (zI 3)]) (rest := []) (t_indexOfL hv) ugs_J0_637 uhs_J1_indexOf_4cfef ⟨(Nat.le_of_ble_eq_true rfl), (Nat.le_of_ble_eq_true rfl)⟩ hl.1 rfl (Nat.le_of_ble_eq_true rfl) ⟨Nat.zero_le _, Nat.zero_le _⟩ udJ0_indexOf_7cf53_17 (fun H locs w => ?_)
  refine lv_goto (tgt := 36) hx hb udJ0_indexOf_7cf53_20 (by decide) ?_
  exact e_i F w hr hlocks ⟨rfl, rfl⟩ udJ0_indexOf_7cf53_36
theorem udJ0_indexOf_0f7a4_0 : decode cJ0_indexOf_0f7a4 0 = .ok (.aload_n 0, 1) := dq0 kk_42 (by decide +kernel)
theorem udJ0_indexOf_0f7a4_1 : decode cJ0_indexOf_0f7a4 1 = .ok (.iload_n 1, 1) := dq0 kk_27 (by decide +kernel)
theorem udJ0_indexOf_0f7a4_2 : decode cJ0_indexOf_0f7a4 2 = .ok (.iconst 0, 1) := dq0 kk_3 (by decide +kernel)
theorem udJ0_indexOf_0f7a4_3 : decode cJ0_indexOf_0f7a4 3 = .ok (.invokevirtual 633, 3) := dqV kk_182 (by decide +kernel)
theorem utk_J0_indexOf_7cf53 : Cond.code yJ0_indexOf_7cf53 cJ0_indexOf_7cf53 3 (some .int) ∈ TB := tbm (tc2 (List.mem_of_getElem? (i := 132) rfl)) rfl
theorem ugc_J0_indexOf_7cf53 : GoodIn TB (cw yJ0_indexOf_7cf53 cJ0_indexOf_7cf53 3 (some .int)) := goodIn_c2 utk_J0_indexOf_7cf53
theorem utb_22 : Cond.methodLink "java/lang/String" 633 yJ0_indexOf_7cf53 ∈ TB := tbm (tc2 (List.mem_of_getElem? (i := 129) rfl)) rfl
theorem utb_23 : Cond.instanceMethod yJ0_indexOf_7cf53 ∈ TB := tbm (tc2 (List.mem_of_getElem? (i := 130) rfl)) rfl
theorem utb_24 : Cond.selects "java/lang/String" yJ0_indexOf_7cf53 yJ0_indexOf_7cf53 ∈ TB := tbm (tc2 (List.mem_of_getElem? (i := 131) rfl)) rfl
theorem ugv_J0_633 : GoodIn TB (wsV RJ0 633 RJ0 yJ0_indexOf_7cf53 (cw yJ0_indexOf_7cf53 cJ0_indexOf_7cf53 3 (some .int))) := goodIn_4 utb_22 utb_23 utb_24 utb_15 ugc_J0_indexOf_7cf53
theorem uhv_J0_indexOf_7cf53 : yJ0_indexOf_7cf53.cls = RJ0 ∧ yJ0_indexOf_7cf53.cls ≠ "java/lang/invoke/MethodHandle" ∧ yJ0_indexOf_7cf53.cls ≠ "java/lang/invoke/VarHandle" ∧ (parseMethodDescriptor yJ0_indexOf_7cf53.desc).map (fun d => d.parameters.length) = some 2 := by decide +kernel
theorem udJ0_indexOf_0f7a4_6 : decode cJ0_indexOf_0f7a4 6 = .ok (.ireturn, 1) := dq0 kk_172 (by decide +kernel)
set_option maxRecDepth 4000 in
theorem t_indexOf1 {l : Launch} {D : va_G} {B : Nat} {cy : Nat → ClassId} {M : Mem} {v : Nat} (hv : v < 256) : Ci l D B cy yJ0_indexOf_0f7a4 cJ0_indexOf_0f7a4 2 (some .int) 3 70 [.ref (D.2 200 0), .int (zI (v : Int))] M (fun r M1 => r = zI (kndI (v : Int)) ∧ M1 = M) := by
  refine s_any (by decide) (Nat.le_of_ble_eq_true rfl) ?_
  intro p e s m below meth c ls F hr hlocks w hl
  have F : CallFix p m c cJ0_indexOf_0f7a4 2 s _ TB RJ0 := F
  have hx := F.1
  have hb := F.2.1
  have hl : lv_has ls 2 [(0, .ref (D.2 200 0)), (1, .int (zI (v : Int)))] := hl
  have hkn := knd_a (v : Int)
  refine lv_aload_n hx hb udJ0_indexOf_0f7a4_0 rfl (lv_at hl 0 rfl) ?_
  refine lv_iload_n hx hb udJ0_indexOf_0f7a4_1 rfl (lv_at hl 1 rfl) ?_
  refine lv_iconst (v := zI 0) hx hb udJ0_indexOf_0f7a4_2 rfl ?_
  refine k_Qi F w (As := [.int (zI (v : Int)), .int (zI 0)]) (rest := []) (i := 0) (show 0 < NSL by decide) (t_indexOf2 hv) ugv_J0_633 uhv_J0_indexOf_7cf53 ⟨(Nat.le_of_ble_eq_true rfl), (Nat.le_of_ble_eq_true rfl)⟩ hl.1 rfl (Nat.le_of_ble_eq_true rfl) ⟨Nat.zero_le _, Nat.zero_le _⟩ udJ0_indexOf_0f7a4_3 (fun r M1 H locs hp w => ?_)
  obtain ⟨rfl, hMe⟩ := hp
  rw [hMe] at w
  exact e_i F w hr hlocks ⟨rfl, rfl⟩ udJ0_indexOf_0f7a4_6
