-- decode by the first byte
noncomputable def dKp : {K : Nat → Nat → Decoder Instr // ∀ pc, Decoder.instr pc = (Reader.u1 >>= K pc)} := ⟨_, fun _ => rfl⟩
noncomputable def dfr (l : List UInt8) : Nat → List UInt8 := List.rec (motive := fun _ => Nat → List UInt8) (fun _ => []) (fun a t ih n => Nat.rec (motive := fun _ => List UInt8) (a :: t) (fun k _ => ih k) n) l
theorem dfr_n {n : Nat} : dfr [] n = [] := rfl
theorem dfr_z {a : UInt8} {t : List UInt8} : dfr (a :: t) 0 = a :: t := rfl
theorem dfr_s {a : UInt8} {t : List UInt8} {n : Nat} : dfr (a :: t) (n + 1) = dfr t n := rfl
theorem dfr_get (l : List UInt8) : ∀ (i : Nat) {b : UInt8} {t : List UInt8}, dfr l i = b :: t → ∃ h : i < l.length, l[i] = b ∧ dfr l (i + 1) = t := by
  induction l with
  | nil =>
    intro i b t h
    rw [dfr_n] at h
    cases h
  | cons a l ih =>
    intro i b t h
    cases i with
    | zero =>
      rw [dfr_z] at h
      cases h
      refine ⟨Nat.succ_pos _, rfl, ?_⟩
      show dfr l 0 = l
      cases l <;> rfl
    | succ i =>
      rw [dfr_s] at h
      obtain ⟨h1, h2, h3⟩ := ih i h
      exact ⟨Nat.succ_lt_succ h1, h2, h3⟩
theorem dq_bind {α β : Type} {x : Decoder α} {g : α → Decoder β} {cc : ByteArray} {i j : Nat} {a : α} (h : x cc i = Except.ok (a, j)) : (x >>= g) cc i = g a cc j := by
  have h1 : (x >>= g) cc i = Except.bind (x cc i) (fun r => g r.1 cc r.2) := rfl
  rw [h1, h]
  rfl
theorem dq_map {α β : Type} {x : Decoder α} {g : α → β} {cc : ByteArray} {i j : Nat} {a : α} (h : x cc i = Except.ok (a, j)) : (g <$> x : Decoder β) cc i = Except.ok (g a, j) := by
  have h1 : (g <$> x : Decoder β) cc i = Except.bind (x cc i) (fun r => Except.ok (g r.1, r.2)) := rfl
  rw [h1, h]
  rfl
theorem dq_u1 {cc : ByteArray} {i : Nat} {b : UInt8} {t : List UInt8} (h : dfr cc.data.toList i = b :: t) : (Reader.u1 : Decoder Nat) cc i = Except.ok (b.toNat, i + 1) := by
  obtain ⟨h1, h2, _⟩ := dfr_get _ _ h
  have h3 : i < cc.size := h1
  first
  | exact (congrFun (congrFun (dif_pos h3) cc) i).trans (by subst h2; rfl)
  | (unfold Reader.u1
     show (dite (i < cc.size) _ _ : Decoder Nat) cc i = _
     rw [dif_pos h3]
     subst h2
     rfl)
  | (unfold Reader.u1
     simp only [bind, ReaderT.bind, StateT.bind, Except.bind, read, readThe, MonadReaderOf.read, ReaderT.read, get, getThe, MonadStateOf.get, liftM, monadLift, MonadLift.monadLift, StateT.get, pure, ReaderT.pure, StateT.pure, Except.pure]
     rw [dif_pos h3]
     subst h2
     rfl)
theorem dq_nx {cc : ByteArray} {i : Nat} {b : UInt8} {t : List UInt8} (h : dfr cc.data.toList i = b :: t) : dfr cc.data.toList (i + 1) = t := by
  obtain ⟨_, _, h3⟩ := dfr_get _ _ h
  exact h3
theorem dq_s1 {cc : ByteArray} {i : Nat} {b : UInt8} {t : List UInt8} (h : dfr cc.data.toList i = b :: t) : (Reader.s1 : Decoder Int) cc i = Except.ok (Reader.signed 8 b.toNat, i + 1) := by
  unfold Reader.s1
  exact dq_map (dq_u1 h)
theorem dq_u2 {cc : ByteArray} {i : Nat} {b d : UInt8} {t : List UInt8} (h : dfr cc.data.toList i = b :: d :: t) : (Reader.u2 : Decoder Nat) cc i = Except.ok (b.toNat * 256 + d.toNat, i + 1 + 1) := by
  unfold Reader.u2
  rw [dq_bind (dq_u1 h), dq_bind (dq_u1 (dq_nx h))]
  rfl
theorem dq_s2 {cc : ByteArray} {i : Nat} {b d : UInt8} {t : List UInt8} (h : dfr cc.data.toList i = b :: d :: t) : (Reader.s2 : Decoder Int) cc i = Except.ok (Reader.signed 16 (b.toNat * 256 + d.toNat), i + 1 + 1) := by
  unfold Reader.s2
  exact dq_map (dq_u2 h)
theorem dq_go {cc : ByteArray} {i j n : Nat} {b : UInt8} {t : List UInt8} {o : Instr} (h : dfr cc.data.toList i = b :: t) (h2 : dKp.1 i b.toNat cc (i + 1) = Except.ok (o, j)) (hn : j - i = n) : decode cc i = .ok (o, n) := by
  have h3 : (Decoder.instr i).runAt cc i = Except.ok (o, j) := by
    show Decoder.instr i cc i = _
    rw [dKp.2 i, dq_bind (dq_u1 h)]
    exact h2
  unfold decode
  rw [h3]
  subst hn
  rfl
noncomputable def ck1 (cc : ByteArray) (i op : Nat) : Bool := match dfr cc.data.toList i with
  | b :: _ => Nat.beq b.toNat op
  | [] => false
noncomputable def ckU (cc : ByteArray) (i op n : Nat) : Bool := match dfr cc.data.toList i with
  | b :: d :: _ => Nat.beq b.toNat op && Nat.beq d.toNat n
  | _ => false
noncomputable def ckS (cc : ByteArray) (i op : Nat) (v : Int) : Bool := match dfr cc.data.toList i with
  | b :: d :: _ => Nat.beq b.toNat op && decide (Reader.signed 8 d.toNat = v)
  | _ => false
noncomputable def ckV (cc : ByteArray) (i op n : Nat) : Bool := match dfr cc.data.toList i with
  | b :: d :: e :: _ => Nat.beq b.toNat op && Nat.beq (d.toNat * 256 + e.toNat) n
  | _ => false
noncomputable def ckT (cc : ByteArray) (i op : Nat) (v : Int) : Bool := match dfr cc.data.toList i with
  | b :: d :: e :: _ => Nat.beq b.toNat op && decide (Reader.signed 16 (d.toNat * 256 + e.toNat) = v)
  | _ => false
noncomputable def ckI (cc : ByteArray) (i op n : Nat) (v : Int) : Bool := match dfr cc.data.toList i with
  | b :: d :: e :: _ => Nat.beq b.toNat op && (Nat.beq d.toNat n && decide (Reader.signed 8 e.toNat = v))
  | _ => false
theorem and_2 {a b : Bool} (h : (a && b) = true) : a = true ∧ b = true := by
  cases a
  · exact absurd (show false = true from h) (by decide)
  · exact ⟨rfl, h⟩
theorem dq0 {cc : ByteArray} {i op : Nat} {o : Instr} (k : ∀ pc, dKp.1 pc op = (pure o : Decoder Instr)) (h : ck1 cc i op = true) : decode cc i = .ok (o, 1) := by
  unfold ck1 at h
  cases hd : dfr cc.data.toList i with
  | nil => rw [hd] at h; exact absurd (show false = true from h) (by decide)
  | cons b t =>
    rw [hd] at h
    have h1 : b.toNat = op := Nat.eq_of_beq_eq_true h
    subst h1
    exact dq_go (j := i + 1) hd (by rw [k]; rfl) (by omega)
theorem dq_2 {cc : ByteArray} {i : Nat} {g : UInt8 → UInt8 → Bool} (h : (match dfr cc.data.toList i with | b :: d :: _ => g b d | _ => false) = true) : ∃ b d t, dfr cc.data.toList i = b :: d :: t ∧ g b d = true := by
  cases hd : dfr cc.data.toList i with
  | nil => rw [hd] at h; exact absurd (show false = true from h) (by decide)
  | cons b t =>
    cases t with
    | nil => rw [hd] at h; exact absurd (show false = true from h) (by decide)
    | cons d t => rw [hd] at h; exact ⟨b, d, t, rfl, h⟩
theorem dq_3 {cc : ByteArray} {i : Nat} {g : UInt8 → UInt8 → UInt8 → Bool} (h : (match dfr cc.data.toList i with | b :: d :: e :: _ => g b d e | _ => false) = true) : ∃ b d e t, dfr cc.data.toList i = b :: d :: e :: t ∧ g b d e = true := by
  cases hd : dfr cc.data.toList i with
  | nil => rw [hd] at h; exact absurd (show false = true from h) (by decide)
  | cons b t =>
    cases t with
    | nil => rw [hd] at h; exact absurd (show false = true from h) (by decide)
    | cons d t =>
      cases t with
      | nil => rw [hd] at h; exact absurd (show false = true from h) (by decide)
      | cons e t => rw [hd] at h; exact ⟨b, d, e, t, rfl, h⟩
theorem dqU {cc : ByteArray} {i op n : Nat} {g : Nat → Instr} (k : ∀ pc, dKp.1 pc op = (Reader.u1 >>= fun x => pure (g x) : Decoder Instr)) (h : ckU cc i op n = true) : decode cc i = .ok (g n, 2) := by
  obtain ⟨b, d, t, hd, h1⟩ := dq_2 (g := fun b d => Nat.beq b.toNat op && Nat.beq d.toNat n) h
  obtain ⟨h1, h2⟩ := and_2 h1
  have h1 : b.toNat = op := Nat.eq_of_beq_eq_true h1
  have h2 : d.toNat = n := Nat.eq_of_beq_eq_true h2
  subst h1 h2
  exact dq_go (j := i + 1 + 1) hd (by rw [k, dq_bind (dq_u1 (dq_nx hd))]; rfl) (by omega)
theorem dqS {cc : ByteArray} {i op : Nat} {v : Int} {g : Int → Instr} (k : ∀ pc, dKp.1 pc op = (Reader.s1 >>= fun x => pure (g x) : Decoder Instr)) (h : ckS cc i op v = true) : decode cc i = .ok (g v, 2) := by
  obtain ⟨b, d, t, hd, h1⟩ := dq_2 (g := fun b d => Nat.beq b.toNat op && decide (Reader.signed 8 d.toNat = v)) h
  obtain ⟨h1, h2⟩ := and_2 h1
  have h1 : b.toNat = op := Nat.eq_of_beq_eq_true h1
  have h2 : Reader.signed 8 d.toNat = v := of_decide_eq_true h2
  subst h1 h2
  exact dq_go (j := i + 1 + 1) hd (by rw [k, dq_bind (dq_s1 (dq_nx hd))]; rfl) (by omega)
theorem dqV {cc : ByteArray} {i op n : Nat} {g : Nat → Instr} (k : ∀ pc, dKp.1 pc op = (Reader.u2 >>= fun x => pure (g x) : Decoder Instr)) (h : ckV cc i op n = true) : decode cc i = .ok (g n, 3) := by
  obtain ⟨b, d, e, t, hd, h1⟩ := dq_3 (g := fun b d e => Nat.beq b.toNat op && Nat.beq (d.toNat * 256 + e.toNat) n) h
  obtain ⟨h1, h2⟩ := and_2 h1
  have h1 : b.toNat = op := Nat.eq_of_beq_eq_true h1
  have h2 : d.toNat * 256 + e.toNat = n := Nat.eq_of_beq_eq_true h2
  subst h1 h2
  exact dq_go (j := i + 1 + 1 + 1) hd (by rw [k, dq_bind (dq_u2 (dq_nx hd))]; rfl) (by omega)
theorem dqT {cc : ByteArray} {i op : Nat} {v : Int} {g : Int → Instr} (k : ∀ pc, dKp.1 pc op = (Reader.s2 >>= fun x => pure (g x) : Decoder Instr)) (h : ckT cc i op v = true) : decode cc i = .ok (g v, 3) := by
  obtain ⟨b, d, e, t, hd, h1⟩ := dq_3 (g := fun b d e => Nat.beq b.toNat op && decide (Reader.signed 16 (d.toNat * 256 + e.toNat) = v)) h
  obtain ⟨h1, h2⟩ := and_2 h1
  have h1 : b.toNat = op := Nat.eq_of_beq_eq_true h1
  have h2 : Reader.signed 16 (d.toNat * 256 + e.toNat) = v := of_decide_eq_true h2
  subst h1 h2
  exact dq_go (j := i + 1 + 1 + 1) hd (by rw [k, dq_bind (dq_s2 (dq_nx hd))]; rfl) (by omega)
theorem dqI {cc : ByteArray} {i op n : Nat} {v : Int} {g : Nat → Int → Instr} (k : ∀ pc, dKp.1 pc op = (Reader.u1 >>= fun x => Reader.s1 >>= fun y => pure (g x y) : Decoder Instr)) (h : ckI cc i op n v = true) : decode cc i = .ok (g n v, 3) := by
  obtain ⟨b, d, e, t, hd, h1⟩ := dq_3 (g := fun b d e => Nat.beq b.toNat op && (Nat.beq d.toNat n && decide (Reader.signed 8 e.toNat = v))) h
  obtain ⟨h1, h2⟩ := and_2 h1
  obtain ⟨h2, h3⟩ := and_2 h2
  have h1 : b.toNat = op := Nat.eq_of_beq_eq_true h1
  have h2 : d.toNat = n := Nat.eq_of_beq_eq_true h2
  have h3 : Reader.signed 8 e.toNat = v := of_decide_eq_true h3
  subst h1 h2 h3
  exact dq_go (j := i + 1 + 1 + 1) hd (by rw [k, dq_bind (dq_u1 (dq_nx hd)), dq_bind (dq_s1 (dq_nx (dq_nx hd)))]; rfl) (by omega)
theorem kk_2 : ∀ pc, dKp.1 pc 2 = (pure (Instr.iconst (-1)) : Decoder Instr) := fun _ => rfl
theorem kk_3 : ∀ pc, dKp.1 pc 3 = (pure (Instr.iconst 0) : Decoder Instr) := fun _ => rfl
theorem kk_4 : ∀ pc, dKp.1 pc 4 = (pure (Instr.iconst 1) : Decoder Instr) := fun _ => rfl
theorem kk_5 : ∀ pc, dKp.1 pc 5 = (pure (Instr.iconst 2) : Decoder Instr) := fun _ => rfl
theorem kk_6 : ∀ pc, dKp.1 pc 6 = (pure (Instr.iconst 3) : Decoder Instr) := fun _ => rfl
theorem kk_7 : ∀ pc, dKp.1 pc 7 = (pure (Instr.iconst 4) : Decoder Instr) := fun _ => rfl
theorem kk_8 : ∀ pc, dKp.1 pc 8 = (pure (Instr.iconst 5) : Decoder Instr) := fun _ => rfl
theorem kk_9 : ∀ pc, dKp.1 pc 9 = (pure (Instr.lconst 0) : Decoder Instr) := fun _ => rfl
theorem kk_10 : ∀ pc, dKp.1 pc 10 = (pure (Instr.lconst 1) : Decoder Instr) := fun _ => rfl
theorem kk_16 : ∀ pc, dKp.1 pc 16 = (Reader.s1 >>= fun x => pure (Instr.bipush x) : Decoder Instr) := fun _ => rfl
theorem kk_17 : ∀ pc, dKp.1 pc 17 = (Reader.s2 >>= fun x => pure (Instr.sipush x) : Decoder Instr) := fun _ => rfl
theorem kk_18 : ∀ pc, dKp.1 pc 18 = (Reader.u1 >>= fun x => pure (Instr.ldc x) : Decoder Instr) := fun _ => rfl
theorem kk_19 : ∀ pc, dKp.1 pc 19 = (Reader.u2 >>= fun x => pure (Instr.ldc_w x) : Decoder Instr) := fun _ => rfl
theorem kk_20 : ∀ pc, dKp.1 pc 20 = (Reader.u2 >>= fun x => pure (Instr.ldc2_w x) : Decoder Instr) := fun _ => rfl
theorem kk_21 : ∀ pc, dKp.1 pc 21 = (Reader.u1 >>= fun x => pure (Instr.iload x) : Decoder Instr) := fun _ => rfl
theorem kk_22 : ∀ pc, dKp.1 pc 22 = (Reader.u1 >>= fun x => pure (Instr.lload x) : Decoder Instr) := fun _ => rfl
theorem kk_25 : ∀ pc, dKp.1 pc 25 = (Reader.u1 >>= fun x => pure (Instr.aload x) : Decoder Instr) := fun _ => rfl
theorem kk_26 : ∀ pc, dKp.1 pc 26 = (pure (Instr.iload_n 0) : Decoder Instr) := fun _ => rfl
theorem kk_27 : ∀ pc, dKp.1 pc 27 = (pure (Instr.iload_n 1) : Decoder Instr) := fun _ => rfl
theorem kk_28 : ∀ pc, dKp.1 pc 28 = (pure (Instr.iload_n 2) : Decoder Instr) := fun _ => rfl
theorem kk_29 : ∀ pc, dKp.1 pc 29 = (pure (Instr.iload_n 3) : Decoder Instr) := fun _ => rfl
theorem kk_31 : ∀ pc, dKp.1 pc 31 = (pure (Instr.lload_n 1) : Decoder Instr) := fun _ => rfl
theorem kk_33 : ∀ pc, dKp.1 pc 33 = (pure (Instr.lload_n 3) : Decoder Instr) := fun _ => rfl
theorem kk_42 : ∀ pc, dKp.1 pc 42 = (pure (Instr.aload_n 0) : Decoder Instr) := fun _ => rfl
theorem kk_43 : ∀ pc, dKp.1 pc 43 = (pure (Instr.aload_n 1) : Decoder Instr) := fun _ => rfl
theorem kk_44 : ∀ pc, dKp.1 pc 44 = (pure (Instr.aload_n 2) : Decoder Instr) := fun _ => rfl
theorem kk_45 : ∀ pc, dKp.1 pc 45 = (pure (Instr.aload_n 3) : Decoder Instr) := fun _ => rfl
theorem kk_46 : ∀ pc, dKp.1 pc 46 = (pure Instr.iaload : Decoder Instr) := fun _ => rfl
theorem kk_47 : ∀ pc, dKp.1 pc 47 = (pure Instr.laload : Decoder Instr) := fun _ => rfl
theorem kk_50 : ∀ pc, dKp.1 pc 50 = (pure Instr.aaload : Decoder Instr) := fun _ => rfl
theorem kk_51 : ∀ pc, dKp.1 pc 51 = (pure Instr.baload : Decoder Instr) := fun _ => rfl
theorem kk_54 : ∀ pc, dKp.1 pc 54 = (Reader.u1 >>= fun x => pure (Instr.istore x) : Decoder Instr) := fun _ => rfl
theorem kk_55 : ∀ pc, dKp.1 pc 55 = (Reader.u1 >>= fun x => pure (Instr.lstore x) : Decoder Instr) := fun _ => rfl
theorem kk_58 : ∀ pc, dKp.1 pc 58 = (Reader.u1 >>= fun x => pure (Instr.astore x) : Decoder Instr) := fun _ => rfl
theorem kk_59 : ∀ pc, dKp.1 pc 59 = (pure (Instr.istore_n 0) : Decoder Instr) := fun _ => rfl
theorem kk_60 : ∀ pc, dKp.1 pc 60 = (pure (Instr.istore_n 1) : Decoder Instr) := fun _ => rfl
theorem kk_61 : ∀ pc, dKp.1 pc 61 = (pure (Instr.istore_n 2) : Decoder Instr) := fun _ => rfl
theorem kk_62 : ∀ pc, dKp.1 pc 62 = (pure (Instr.istore_n 3) : Decoder Instr) := fun _ => rfl
theorem kk_64 : ∀ pc, dKp.1 pc 64 = (pure (Instr.lstore_n 1) : Decoder Instr) := fun _ => rfl
theorem kk_76 : ∀ pc, dKp.1 pc 76 = (pure (Instr.astore_n 1) : Decoder Instr) := fun _ => rfl
theorem kk_77 : ∀ pc, dKp.1 pc 77 = (pure (Instr.astore_n 2) : Decoder Instr) := fun _ => rfl
theorem kk_78 : ∀ pc, dKp.1 pc 78 = (pure (Instr.astore_n 3) : Decoder Instr) := fun _ => rfl
theorem kk_79 : ∀ pc, dKp.1 pc 79 = (pure Instr.iastore : Decoder Instr) := fun _ => rfl
theorem kk_80 : ∀ pc, dKp.1 pc 80 = (pure Instr.lastore : Decoder Instr) := fun _ => rfl
theorem kk_83 : ∀ pc, dKp.1 pc 83 = (pure Instr.aastore : Decoder Instr) := fun _ => rfl
theorem kk_84 : ∀ pc, dKp.1 pc 84 = (pure Instr.bastore : Decoder Instr) := fun _ => rfl
theorem kk_87 : ∀ pc, dKp.1 pc 87 = (pure Instr.pop : Decoder Instr) := fun _ => rfl
theorem kk_89 : ∀ pc, dKp.1 pc 89 = (pure Instr.dup : Decoder Instr) := fun _ => rfl
theorem kk_92 : ∀ pc, dKp.1 pc 92 = (pure Instr.dup2 : Decoder Instr) := fun _ => rfl
theorem kk_96 : ∀ pc, dKp.1 pc 96 = (pure Instr.iadd : Decoder Instr) := fun _ => rfl
theorem kk_97 : ∀ pc, dKp.1 pc 97 = (pure Instr.ladd : Decoder Instr) := fun _ => rfl
theorem kk_100 : ∀ pc, dKp.1 pc 100 = (pure Instr.isub : Decoder Instr) := fun _ => rfl
theorem kk_104 : ∀ pc, dKp.1 pc 104 = (pure Instr.imul : Decoder Instr) := fun _ => rfl
theorem kk_105 : ∀ pc, dKp.1 pc 105 = (pure Instr.lmul : Decoder Instr) := fun _ => rfl
theorem kk_108 : ∀ pc, dKp.1 pc 108 = (pure Instr.idiv : Decoder Instr) := fun _ => rfl
theorem kk_112 : ∀ pc, dKp.1 pc 112 = (pure Instr.irem : Decoder Instr) := fun _ => rfl
theorem kk_116 : ∀ pc, dKp.1 pc 116 = (pure Instr.ineg : Decoder Instr) := fun _ => rfl
theorem kk_120 : ∀ pc, dKp.1 pc 120 = (pure Instr.ishl : Decoder Instr) := fun _ => rfl
theorem kk_121 : ∀ pc, dKp.1 pc 121 = (pure Instr.lshl : Decoder Instr) := fun _ => rfl
theorem kk_122 : ∀ pc, dKp.1 pc 122 = (pure Instr.ishr : Decoder Instr) := fun _ => rfl
theorem kk_124 : ∀ pc, dKp.1 pc 124 = (pure Instr.iushr : Decoder Instr) := fun _ => rfl
theorem kk_126 : ∀ pc, dKp.1 pc 126 = (pure Instr.iand : Decoder Instr) := fun _ => rfl
theorem kk_128 : ∀ pc, dKp.1 pc 128 = (pure Instr.ior : Decoder Instr) := fun _ => rfl
theorem kk_130 : ∀ pc, dKp.1 pc 130 = (pure Instr.ixor : Decoder Instr) := fun _ => rfl
theorem kk_132 : ∀ pc, dKp.1 pc 132 = (Reader.u1 >>= fun x => Reader.s1 >>= fun y => pure (Instr.iinc x y) : Decoder Instr) := fun _ => rfl
theorem kk_133 : ∀ pc, dKp.1 pc 133 = (pure Instr.i2l : Decoder Instr) := fun _ => rfl
theorem kk_145 : ∀ pc, dKp.1 pc 145 = (pure Instr.i2b : Decoder Instr) := fun _ => rfl
theorem kk_146 : ∀ pc, dKp.1 pc 146 = (pure Instr.i2c : Decoder Instr) := fun _ => rfl
theorem kk_148 : ∀ pc, dKp.1 pc 148 = (pure Instr.lcmp : Decoder Instr) := fun _ => rfl
theorem kk_153 : ∀ pc, dKp.1 pc 153 = (Reader.s2 >>= fun x => pure (Instr.ifCond .eq x) : Decoder Instr) := fun _ => rfl
theorem kk_154 : ∀ pc, dKp.1 pc 154 = (Reader.s2 >>= fun x => pure (Instr.ifCond .ne x) : Decoder Instr) := fun _ => rfl
theorem kk_155 : ∀ pc, dKp.1 pc 155 = (Reader.s2 >>= fun x => pure (Instr.ifCond .lt x) : Decoder Instr) := fun _ => rfl
theorem kk_156 : ∀ pc, dKp.1 pc 156 = (Reader.s2 >>= fun x => pure (Instr.ifCond .ge x) : Decoder Instr) := fun _ => rfl
theorem kk_157 : ∀ pc, dKp.1 pc 157 = (Reader.s2 >>= fun x => pure (Instr.ifCond .gt x) : Decoder Instr) := fun _ => rfl
theorem kk_158 : ∀ pc, dKp.1 pc 158 = (Reader.s2 >>= fun x => pure (Instr.ifCond .le x) : Decoder Instr) := fun _ => rfl
theorem kk_159 : ∀ pc, dKp.1 pc 159 = (Reader.s2 >>= fun x => pure (Instr.if_icmp .eq x) : Decoder Instr) := fun _ => rfl
theorem kk_160 : ∀ pc, dKp.1 pc 160 = (Reader.s2 >>= fun x => pure (Instr.if_icmp .ne x) : Decoder Instr) := fun _ => rfl
theorem kk_161 : ∀ pc, dKp.1 pc 161 = (Reader.s2 >>= fun x => pure (Instr.if_icmp .lt x) : Decoder Instr) := fun _ => rfl
theorem kk_162 : ∀ pc, dKp.1 pc 162 = (Reader.s2 >>= fun x => pure (Instr.if_icmp .ge x) : Decoder Instr) := fun _ => rfl
theorem kk_163 : ∀ pc, dKp.1 pc 163 = (Reader.s2 >>= fun x => pure (Instr.if_icmp .gt x) : Decoder Instr) := fun _ => rfl
theorem kk_164 : ∀ pc, dKp.1 pc 164 = (Reader.s2 >>= fun x => pure (Instr.if_icmp .le x) : Decoder Instr) := fun _ => rfl
theorem kk_167 : ∀ pc, dKp.1 pc 167 = (Reader.s2 >>= fun x => pure (Instr.goto x) : Decoder Instr) := fun _ => rfl
theorem kk_172 : ∀ pc, dKp.1 pc 172 = (pure Instr.ireturn : Decoder Instr) := fun _ => rfl
theorem kk_173 : ∀ pc, dKp.1 pc 173 = (pure Instr.lreturn : Decoder Instr) := fun _ => rfl
theorem kk_176 : ∀ pc, dKp.1 pc 176 = (pure Instr.areturn : Decoder Instr) := fun _ => rfl
theorem kk_177 : ∀ pc, dKp.1 pc 177 = (pure Instr.return_ : Decoder Instr) := fun _ => rfl
theorem kk_178 : ∀ pc, dKp.1 pc 178 = (Reader.u2 >>= fun x => pure (Instr.getstatic x) : Decoder Instr) := fun _ => rfl
theorem kk_180 : ∀ pc, dKp.1 pc 180 = (Reader.u2 >>= fun x => pure (Instr.getfield x) : Decoder Instr) := fun _ => rfl
theorem kk_181 : ∀ pc, dKp.1 pc 181 = (Reader.u2 >>= fun x => pure (Instr.putfield x) : Decoder Instr) := fun _ => rfl
theorem kk_182 : ∀ pc, dKp.1 pc 182 = (Reader.u2 >>= fun x => pure (Instr.invokevirtual x) : Decoder Instr) := fun _ => rfl
theorem kk_183 : ∀ pc, dKp.1 pc 183 = (Reader.u2 >>= fun x => pure (Instr.invokespecial x) : Decoder Instr) := fun _ => rfl
theorem kk_184 : ∀ pc, dKp.1 pc 184 = (Reader.u2 >>= fun x => pure (Instr.invokestatic x) : Decoder Instr) := fun _ => rfl
theorem kk_187 : ∀ pc, dKp.1 pc 187 = (Reader.u2 >>= fun x => pure (Instr.new x) : Decoder Instr) := fun _ => rfl
theorem kk_189 : ∀ pc, dKp.1 pc 189 = (Reader.u2 >>= fun x => pure (Instr.anewarray x) : Decoder Instr) := fun _ => rfl
theorem kk_190 : ∀ pc, dKp.1 pc 190 = (pure Instr.arraylength : Decoder Instr) := fun _ => rfl
