def fd_at (c : ByteArray) (p : Nat) (l : List UInt8) : Prop := c.data.toList.drop p = l
theorem fd_cons {c : ByteArray} {p : Nat} {a : UInt8} {l : List UInt8} (h : fd_at c p (a :: l)) : ∃ hp : p < c.size, c[p]'hp = a ∧ fd_at c (p + 1) l := by
  obtain ⟨⟨L⟩⟩ := c
  have h : L.drop p = a :: l := h
  have hp : p < L.length := by
    have e := congrArg List.length h
    rw [List.length_drop, List.length_cons] at e
    omega
  have e := List.drop_eq_getElem_cons hp
  rw [h] at e
  obtain ⟨e1, e2⟩ := List.cons.inj e
  exact ⟨hp, e1.symm, e2.symm⟩
theorem fd_n {c : ByteArray} {p : Nat} {l l' : List UInt8} (n : Nat) (h : fd_at c p l) (e : l.drop n = l') : fd_at c (p + n) l' := by
  unfold fd_at at h ⊢
  rw [← e, ← h, List.drop_drop]
def fd_eq : List UInt8 → List UInt8 → Bool
  | a :: l, b :: r => (a == b) && fd_eq l r
  | [], [] => true
  | _, _ => false
theorem fd_eq_of : ∀ l r : List UInt8, fd_eq l r = true → l = r
  | [], [], _ => rfl
  | [], _ :: _, h => absurd (show (false : Bool) = true from h) (by decide)
  | _ :: _, [], h => absurd (show (false : Bool) = true from h) (by decide)
  | a :: l, b :: r, h => by
    have h : ((a == b) && fd_eq l r) = true := h
    rw [Bool.and_eq_true] at h
    rw [eq_of_beq h.1, fd_eq_of l r h.2]
theorem fd_base {c : ByteArray} {l : List UInt8} (h : fd_eq c.data.toList l = true) : fd_at c 0 l := fd_eq_of _ _ h
theorem fd_u1 {c : ByteArray} {p : Nat} (hp : p < c.size) : (Reader.u1 : Decoder Nat) c p = .ok ((c[p]'hp).toNat, p + 1) := by
  first
  | (show (dite (p < c.size) (fun h => (do set (p + 1); pure (c[p]'h).toNat : Decoder Nat)) (fun _ => throw (HasTruncated.truncated p)) : Decoder Nat) c p = _
     rw [dif_pos hp]
     rfl)
  | (unfold Reader.u1
     simp only [bind, ReaderT.bind, StateT.bind, read, readThe, MonadReaderOf.read, ReaderT.read, get, getThe, MonadStateOf.get, StateT.get, liftM, monadLift, MonadLift.monadLift, pure, ReaderT.pure, StateT.pure, Except.bind, Except.pure, dif_pos hp]
     rfl)
  | (simp [Reader.u1, bind, ReaderT.bind, StateT.bind, read, readThe, MonadReaderOf.read, ReaderT.read, get, getThe, MonadStateOf.get, StateT.get, liftM, monadLift, MonadLift.monadLift, pure, ReaderT.pure, StateT.pure, Except.bind, Except.pure, hp]; rfl)
theorem fd_b {α : Type} {c : ByteArray} {p n : Nat} {a : UInt8} {l : List UInt8} (h : fd_at c p (a :: l)) (e : a.toNat = n) (f : Nat → Decoder α) : (Reader.u1 >>= f : Decoder α) c p = f n c (p + 1) := by
  obtain ⟨hp, e1, _⟩ := fd_cons h
  have hu := fd_u1 hp
  rw [e1, e] at hu
  first
  | (show (Except.bind ((Reader.u1 : Decoder Nat) c p) (fun x => match x with | (b, s) => f b c s)) = _
     rw [hu]
     rfl)
  | (show (Except.bind ((Reader.u1 : Decoder Nat) c p) (fun x => f x.1 c x.2)) = _
     rw [hu]
     rfl)
  | (simp only [bind, ReaderT.bind, StateT.bind, hu, Except.bind])
theorem fd_u2 {c : ByteArray} {p n : Nat} {a b : UInt8} {l : List UInt8} (h : fd_at c p (a :: b :: l)) (e : a.toNat * 256 + b.toNat = n) : (Reader.u2 : Decoder Nat) c p = .ok (n, p + 2) := by
  obtain ⟨_, _, h2⟩ := fd_cons h
  rw [show (Reader.u2 : Decoder Nat) = (Reader.u1 >>= fun hi => Reader.u1 >>= fun lo => Pure.pure (hi * 256 + lo)) from rfl, fd_b h rfl, fd_b h2 rfl, e]
  rfl
theorem fd_b2 {α : Type} {c : ByteArray} {p n : Nat} {a b : UInt8} {l : List UInt8} (h : fd_at c p (a :: b :: l)) (e : a.toNat * 256 + b.toNat = n) (f : Nat → Decoder α) : (Reader.u2 >>= f : Decoder α) c p = f n c (p + 2) := by
  have hu := fd_u2 h e
  first
  | (show (Except.bind ((Reader.u2 : Decoder Nat) c p) (fun x => match x with | (b, s) => f b c s)) = _
     rw [hu]
     rfl)
  | (show (Except.bind ((Reader.u2 : Decoder Nat) c p) (fun x => f x.1 c x.2)) = _
     rw [hu]
     rfl)
  | (simp only [bind, ReaderT.bind, StateT.bind, hu, Except.bind])
theorem fd_s2 {α : Type} {c : ByteArray} {p : Nat} {k : Int} {a b : UInt8} {l : List UInt8} (h : fd_at c p (a :: b :: l)) (e : Reader.signed 16 (a.toNat * 256 + b.toNat) = k) (f : Int → Decoder α) : (Reader.s2 >>= f : Decoder α) c p = f k c (p + 2) := by
  have hu := fd_u2 h rfl
  have hs : (Reader.s2 : Decoder Int) c p = .ok (k, p + 2) := by
    first
    | (show (Except.bind ((Reader.u2 : Decoder Nat) c p) (fun x => match x with | (b, s) => Except.ok (Reader.signed 16 b, s))) = _
       rw [hu, ← e]
       rfl)
    | (show (Except.bind ((Reader.u2 : Decoder Nat) c p) (fun x => Except.ok (Reader.signed 16 x.1, x.2))) = _
       rw [hu, ← e]
       rfl)
    | (simp only [Reader.s2, Functor.map, ReaderT.bind, StateT.map, bind, pure, StateT.bind, hu, e, Except.bind, Except.pure]; rfl)
  first
  | (show (Except.bind ((Reader.s2 : Decoder Int) c p) (fun x => match x with | (b, s) => f b c s)) = _
     rw [hs]
     rfl)
  | (show (Except.bind ((Reader.s2 : Decoder Int) c p) (fun x => f x.1 c x.2)) = _
     rw [hs]
     rfl)
  | (simp only [bind, ReaderT.bind, StateT.bind, hs, Except.bind])
theorem fd_dec {c : ByteArray} {pc n : Nat} {i : Instr} (h : Decoder.instr pc c pc = .ok (i, pc + n)) : decode c pc = .ok (i, n) := by
  first
  | (show (Except.bind (Decoder.instr pc c pc) (fun x => match x with | (i, q) => Except.ok (i, q - pc))) = _
     rw [h]
     show Except.ok (i, pc + n - pc) = _
     rw [Nat.add_sub_cancel_left])
  | (show (Except.bind (Decoder.instr pc c pc) (fun x => Except.ok (x.1, x.2 - pc))) = _
     rw [h]
     show Except.ok (i, pc + n - pc) = _
     rw [Nat.add_sub_cancel_left])
theorem fd_0 {c : ByteArray} {pc n : Nat} {a : UInt8} {l : List UInt8} {i : Instr} (h : fd_at c pc (a :: l)) (e : a.toNat = n) (f : Nat → Decoder Instr) (hi : Decoder.instr pc = (Reader.u1 >>= f)) (hf : f n = (Pure.pure i : Decoder Instr)) : decode c pc = .ok (i, 1) := fd_dec (by rw [hi, fd_b h e, hf]; rfl)
theorem fd_2 {c : ByteArray} {pc n m : Nat} {a x y : UInt8} {l : List UInt8} {g : Nat → Instr} (h : fd_at c pc (a :: x :: y :: l)) (e : a.toNat = n) (f : Nat → Decoder Instr) (hi : Decoder.instr pc = (Reader.u1 >>= f)) (hf : f n = (Reader.u2 >>= fun q => Pure.pure (g q))) (k : x.toNat * 256 + y.toNat = m) : decode c pc = .ok (g m, 3) := by
  obtain ⟨_, _, h2⟩ := fd_cons h
  exact fd_dec (by rw [hi, fd_b h e, hf, fd_b2 h2 k]; rfl)
theorem fd_3 {c : ByteArray} {pc n : Nat} {m : Int} {a x y : UInt8} {l : List UInt8} {g : Int → Instr} (h : fd_at c pc (a :: x :: y :: l)) (e : a.toNat = n) (f : Nat → Decoder Instr) (hi : Decoder.instr pc = (Reader.u1 >>= f)) (hf : f n = (Reader.s2 >>= fun q => Pure.pure (g q))) (k : Reader.signed 16 (x.toNat * 256 + y.toNat) = m) : decode c pc = .ok (g m, 3) := by
  obtain ⟨_, _, h2⟩ := fd_cons h
  exact fd_dec (by rw [hi, fd_b h e, hf, fd_s2 h2 k]; rfl)
theorem fd_s1 {α : Type} {c : ByteArray} {p : Nat} {k : Int} {a : UInt8} {l : List UInt8} (h : fd_at c p (a :: l)) (e : Reader.signed 8 a.toNat = k) (f : Int → Decoder α) : (Reader.s1 >>= f : Decoder α) c p = f k c (p + 1) := by
  obtain ⟨hp, e1, _⟩ := fd_cons h
  have hu := fd_u1 hp
  rw [e1] at hu
  have hs : (Reader.s1 : Decoder Int) c p = .ok (k, p + 1) := by
    first
    | (show (Except.bind ((Reader.u1 : Decoder Nat) c p) (fun x => match x with | (b, s) => Except.ok (Reader.signed 8 b, s))) = _
       rw [hu, ← e]
       rfl)
    | (show (Except.bind ((Reader.u1 : Decoder Nat) c p) (fun x => Except.ok (Reader.signed 8 x.1, x.2))) = _
       rw [hu, ← e]
       rfl)
  first
  | (show (Except.bind ((Reader.s1 : Decoder Int) c p) (fun x => match x with | (b, s) => f b c s)) = _
     rw [hs]
     rfl)
  | (show (Except.bind ((Reader.s1 : Decoder Int) c p) (fun x => f x.1 c x.2)) = _
     rw [hs]
     rfl)
theorem fd_1 {c : ByteArray} {pc n m : Nat} {a x : UInt8} {l : List UInt8} {g : Nat → Instr} (h : fd_at c pc (a :: x :: l)) (e : a.toNat = n) (f : Nat → Decoder Instr) (hi : Decoder.instr pc = (Reader.u1 >>= f)) (hf : f n = (Reader.u1 >>= fun q => Pure.pure (g q))) (k : x.toNat = m) : decode c pc = .ok (g m, 2) := by
  obtain ⟨_, _, h2⟩ := fd_cons h
  exact fd_dec (by rw [hi, fd_b h e, hf, fd_b h2 k]; rfl)
theorem fd_4 {c : ByteArray} {pc n : Nat} {m : Int} {a x : UInt8} {l : List UInt8} {g : Int → Instr} (h : fd_at c pc (a :: x :: l)) (e : a.toNat = n) (f : Nat → Decoder Instr) (hi : Decoder.instr pc = (Reader.u1 >>= f)) (hf : f n = (Reader.s1 >>= fun q => Pure.pure (g q))) (k : Reader.signed 8 x.toNat = m) : decode c pc = .ok (g m, 2) := by
  obtain ⟨_, _, h2⟩ := fd_cons h
  exact fd_dec (by rw [hi, fd_b h e, hf, fd_s1 h2 k]; rfl)
theorem fd_5 {c : ByteArray} {pc n m : Nat} {m' : Int} {a x y : UInt8} {l : List UInt8} {g : Nat → Int → Instr} (h : fd_at c pc (a :: x :: y :: l)) (e : a.toNat = n) (f : Nat → Decoder Instr) (hi : Decoder.instr pc = (Reader.u1 >>= f)) (hf : f n = (Reader.u1 >>= fun q => Reader.s1 >>= fun r => Pure.pure (g q r))) (k : x.toNat = m) (k' : Reader.signed 8 y.toNat = m') : decode c pc = .ok (g m m', 3) := by
  obtain ⟨_, _, h2⟩ := fd_cons h
  obtain ⟨_, _, h3⟩ := fd_cons h2
  exact fd_dec (by rw [hi, fd_b h e, hf, fd_b h2 k, fd_s1 h3 k']; rfl)
theorem fo_2 {c : ByteArray} {pc : Nat} {l : List UInt8} (h : fd_at c pc (2 :: l)) : decode c pc = .ok (.iconst (-1), 1) := fd_0 h (n := 2) rfl _ rfl rfl
theorem fo_3 {c : ByteArray} {pc : Nat} {l : List UInt8} (h : fd_at c pc (3 :: l)) : decode c pc = .ok (.iconst 0, 1) := fd_0 h (n := 3) rfl _ rfl rfl
theorem fo_4 {c : ByteArray} {pc : Nat} {l : List UInt8} (h : fd_at c pc (4 :: l)) : decode c pc = .ok (.iconst 1, 1) := fd_0 h (n := 4) rfl _ rfl rfl
theorem fo_5 {c : ByteArray} {pc : Nat} {l : List UInt8} (h : fd_at c pc (5 :: l)) : decode c pc = .ok (.iconst 2, 1) := fd_0 h (n := 5) rfl _ rfl rfl
theorem fo_6 {c : ByteArray} {pc : Nat} {l : List UInt8} (h : fd_at c pc (6 :: l)) : decode c pc = .ok (.iconst 3, 1) := fd_0 h (n := 6) rfl _ rfl rfl
theorem fo_7 {c : ByteArray} {pc : Nat} {l : List UInt8} (h : fd_at c pc (7 :: l)) : decode c pc = .ok (.iconst 4, 1) := fd_0 h (n := 7) rfl _ rfl rfl
theorem fo_8 {c : ByteArray} {pc : Nat} {l : List UInt8} (h : fd_at c pc (8 :: l)) : decode c pc = .ok (.iconst 5, 1) := fd_0 h (n := 8) rfl _ rfl rfl
theorem fo_9 {c : ByteArray} {pc : Nat} {l : List UInt8} (h : fd_at c pc (9 :: l)) : decode c pc = .ok (.lconst 0, 1) := fd_0 h (n := 9) rfl _ rfl rfl
theorem fo_10 {c : ByteArray} {pc : Nat} {l : List UInt8} (h : fd_at c pc (10 :: l)) : decode c pc = .ok (.lconst 1, 1) := fd_0 h (n := 10) rfl _ rfl rfl
theorem fo_16 {c : ByteArray} {pc : Nat} {l : List UInt8} {m : Int} {x : UInt8} (h : fd_at c pc (16 :: x :: l)) (k : Reader.signed 8 x.toNat = m) : decode c pc = .ok (.bipush m, 2) := fd_4 (g := .bipush) h (n := 16) rfl _ rfl rfl k
theorem fo_17 {c : ByteArray} {pc : Nat} {l : List UInt8} {m : Int} {x y : UInt8} (h : fd_at c pc (17 :: x :: y :: l)) (k : Reader.signed 16 (x.toNat * 256 + y.toNat) = m) : decode c pc = .ok (.sipush m, 3) := fd_3 (g := .sipush) h (n := 17) rfl _ rfl rfl k
theorem fo_18 {c : ByteArray} {pc : Nat} {l : List UInt8} {m : Nat} {x : UInt8} (h : fd_at c pc (18 :: x :: l)) (k : x.toNat = m) : decode c pc = .ok (.ldc m, 2) := fd_1 (g := .ldc) h (n := 18) rfl _ rfl rfl k
theorem fo_19 {c : ByteArray} {pc : Nat} {l : List UInt8} {m : Nat} {x y : UInt8} (h : fd_at c pc (19 :: x :: y :: l)) (k : x.toNat * 256 + y.toNat = m) : decode c pc = .ok (.ldc_w m, 3) := fd_2 (g := .ldc_w) h (n := 19) rfl _ rfl rfl k
theorem fo_20 {c : ByteArray} {pc : Nat} {l : List UInt8} {m : Nat} {x y : UInt8} (h : fd_at c pc (20 :: x :: y :: l)) (k : x.toNat * 256 + y.toNat = m) : decode c pc = .ok (.ldc2_w m, 3) := fd_2 (g := .ldc2_w) h (n := 20) rfl _ rfl rfl k
theorem fo_21 {c : ByteArray} {pc : Nat} {l : List UInt8} {m : Nat} {x : UInt8} (h : fd_at c pc (21 :: x :: l)) (k : x.toNat = m) : decode c pc = .ok (.iload m, 2) := fd_1 (g := .iload) h (n := 21) rfl _ rfl rfl k
theorem fo_22 {c : ByteArray} {pc : Nat} {l : List UInt8} {m : Nat} {x : UInt8} (h : fd_at c pc (22 :: x :: l)) (k : x.toNat = m) : decode c pc = .ok (.lload m, 2) := fd_1 (g := .lload) h (n := 22) rfl _ rfl rfl k
theorem fo_26 {c : ByteArray} {pc : Nat} {l : List UInt8} (h : fd_at c pc (26 :: l)) : decode c pc = .ok (.iload_n 0, 1) := fd_0 h (n := 26) rfl _ rfl rfl
theorem fo_27 {c : ByteArray} {pc : Nat} {l : List UInt8} (h : fd_at c pc (27 :: l)) : decode c pc = .ok (.iload_n 1, 1) := fd_0 h (n := 27) rfl _ rfl rfl
theorem fo_28 {c : ByteArray} {pc : Nat} {l : List UInt8} (h : fd_at c pc (28 :: l)) : decode c pc = .ok (.iload_n 2, 1) := fd_0 h (n := 28) rfl _ rfl rfl
theorem fo_29 {c : ByteArray} {pc : Nat} {l : List UInt8} (h : fd_at c pc (29 :: l)) : decode c pc = .ok (.iload_n 3, 1) := fd_0 h (n := 29) rfl _ rfl rfl
theorem fo_30 {c : ByteArray} {pc : Nat} {l : List UInt8} (h : fd_at c pc (30 :: l)) : decode c pc = .ok (.lload_n 0, 1) := fd_0 h (n := 30) rfl _ rfl rfl
theorem fo_31 {c : ByteArray} {pc : Nat} {l : List UInt8} (h : fd_at c pc (31 :: l)) : decode c pc = .ok (.lload_n 1, 1) := fd_0 h (n := 31) rfl _ rfl rfl
theorem fo_32 {c : ByteArray} {pc : Nat} {l : List UInt8} (h : fd_at c pc (32 :: l)) : decode c pc = .ok (.lload_n 2, 1) := fd_0 h (n := 32) rfl _ rfl rfl
theorem fo_42 {c : ByteArray} {pc : Nat} {l : List UInt8} (h : fd_at c pc (42 :: l)) : decode c pc = .ok (.aload_n 0, 1) := fd_0 h (n := 42) rfl _ rfl rfl
theorem fo_43 {c : ByteArray} {pc : Nat} {l : List UInt8} (h : fd_at c pc (43 :: l)) : decode c pc = .ok (.aload_n 1, 1) := fd_0 h (n := 43) rfl _ rfl rfl
theorem fo_44 {c : ByteArray} {pc : Nat} {l : List UInt8} (h : fd_at c pc (44 :: l)) : decode c pc = .ok (.aload_n 2, 1) := fd_0 h (n := 44) rfl _ rfl rfl
theorem fo_45 {c : ByteArray} {pc : Nat} {l : List UInt8} (h : fd_at c pc (45 :: l)) : decode c pc = .ok (.aload_n 3, 1) := fd_0 h (n := 45) rfl _ rfl rfl
theorem fo_46 {c : ByteArray} {pc : Nat} {l : List UInt8} (h : fd_at c pc (46 :: l)) : decode c pc = .ok (.iaload, 1) := fd_0 h (n := 46) rfl _ rfl rfl
theorem fo_50 {c : ByteArray} {pc : Nat} {l : List UInt8} (h : fd_at c pc (50 :: l)) : decode c pc = .ok (.aaload, 1) := fd_0 h (n := 50) rfl _ rfl rfl
theorem fo_51 {c : ByteArray} {pc : Nat} {l : List UInt8} (h : fd_at c pc (51 :: l)) : decode c pc = .ok (.baload, 1) := fd_0 h (n := 51) rfl _ rfl rfl
theorem fo_54 {c : ByteArray} {pc : Nat} {l : List UInt8} {m : Nat} {x : UInt8} (h : fd_at c pc (54 :: x :: l)) (k : x.toNat = m) : decode c pc = .ok (.istore m, 2) := fd_1 (g := .istore) h (n := 54) rfl _ rfl rfl k
theorem fo_59 {c : ByteArray} {pc : Nat} {l : List UInt8} (h : fd_at c pc (59 :: l)) : decode c pc = .ok (.istore_n 0, 1) := fd_0 h (n := 59) rfl _ rfl rfl
theorem fo_60 {c : ByteArray} {pc : Nat} {l : List UInt8} (h : fd_at c pc (60 :: l)) : decode c pc = .ok (.istore_n 1, 1) := fd_0 h (n := 60) rfl _ rfl rfl
theorem fo_61 {c : ByteArray} {pc : Nat} {l : List UInt8} (h : fd_at c pc (61 :: l)) : decode c pc = .ok (.istore_n 2, 1) := fd_0 h (n := 61) rfl _ rfl rfl
theorem fo_62 {c : ByteArray} {pc : Nat} {l : List UInt8} (h : fd_at c pc (62 :: l)) : decode c pc = .ok (.istore_n 3, 1) := fd_0 h (n := 62) rfl _ rfl rfl
theorem fo_64 {c : ByteArray} {pc : Nat} {l : List UInt8} (h : fd_at c pc (64 :: l)) : decode c pc = .ok (.lstore_n 1, 1) := fd_0 h (n := 64) rfl _ rfl rfl
theorem fo_76 {c : ByteArray} {pc : Nat} {l : List UInt8} (h : fd_at c pc (76 :: l)) : decode c pc = .ok (.astore_n 1, 1) := fd_0 h (n := 76) rfl _ rfl rfl
theorem fo_77 {c : ByteArray} {pc : Nat} {l : List UInt8} (h : fd_at c pc (77 :: l)) : decode c pc = .ok (.astore_n 2, 1) := fd_0 h (n := 77) rfl _ rfl rfl
theorem fo_79 {c : ByteArray} {pc : Nat} {l : List UInt8} (h : fd_at c pc (79 :: l)) : decode c pc = .ok (.iastore, 1) := fd_0 h (n := 79) rfl _ rfl rfl
theorem fo_87 {c : ByteArray} {pc : Nat} {l : List UInt8} (h : fd_at c pc (87 :: l)) : decode c pc = .ok (.pop, 1) := fd_0 h (n := 87) rfl _ rfl rfl
theorem fo_89 {c : ByteArray} {pc : Nat} {l : List UInt8} (h : fd_at c pc (89 :: l)) : decode c pc = .ok (.dup, 1) := fd_0 h (n := 89) rfl _ rfl rfl
theorem fo_92 {c : ByteArray} {pc : Nat} {l : List UInt8} (h : fd_at c pc (92 :: l)) : decode c pc = .ok (.dup2, 1) := fd_0 h (n := 92) rfl _ rfl rfl
theorem fo_96 {c : ByteArray} {pc : Nat} {l : List UInt8} (h : fd_at c pc (96 :: l)) : decode c pc = .ok (.iadd, 1) := fd_0 h (n := 96) rfl _ rfl rfl
theorem fo_97 {c : ByteArray} {pc : Nat} {l : List UInt8} (h : fd_at c pc (97 :: l)) : decode c pc = .ok (.ladd, 1) := fd_0 h (n := 97) rfl _ rfl rfl
theorem fo_100 {c : ByteArray} {pc : Nat} {l : List UInt8} (h : fd_at c pc (100 :: l)) : decode c pc = .ok (.isub, 1) := fd_0 h (n := 100) rfl _ rfl rfl
theorem fo_104 {c : ByteArray} {pc : Nat} {l : List UInt8} (h : fd_at c pc (104 :: l)) : decode c pc = .ok (.imul, 1) := fd_0 h (n := 104) rfl _ rfl rfl
theorem fo_105 {c : ByteArray} {pc : Nat} {l : List UInt8} (h : fd_at c pc (105 :: l)) : decode c pc = .ok (.lmul, 1) := fd_0 h (n := 105) rfl _ rfl rfl
theorem fo_108 {c : ByteArray} {pc : Nat} {l : List UInt8} (h : fd_at c pc (108 :: l)) : decode c pc = .ok (.idiv, 1) := fd_0 h (n := 108) rfl _ rfl rfl
theorem fo_112 {c : ByteArray} {pc : Nat} {l : List UInt8} (h : fd_at c pc (112 :: l)) : decode c pc = .ok (.irem, 1) := fd_0 h (n := 112) rfl _ rfl rfl
theorem fo_120 {c : ByteArray} {pc : Nat} {l : List UInt8} (h : fd_at c pc (120 :: l)) : decode c pc = .ok (.ishl, 1) := fd_0 h (n := 120) rfl _ rfl rfl
theorem fo_122 {c : ByteArray} {pc : Nat} {l : List UInt8} (h : fd_at c pc (122 :: l)) : decode c pc = .ok (.ishr, 1) := fd_0 h (n := 122) rfl _ rfl rfl
theorem fo_124 {c : ByteArray} {pc : Nat} {l : List UInt8} (h : fd_at c pc (124 :: l)) : decode c pc = .ok (.iushr, 1) := fd_0 h (n := 124) rfl _ rfl rfl
theorem fo_126 {c : ByteArray} {pc : Nat} {l : List UInt8} (h : fd_at c pc (126 :: l)) : decode c pc = .ok (.iand, 1) := fd_0 h (n := 126) rfl _ rfl rfl
theorem fo_128 {c : ByteArray} {pc : Nat} {l : List UInt8} (h : fd_at c pc (128 :: l)) : decode c pc = .ok (.ior, 1) := fd_0 h (n := 128) rfl _ rfl rfl
theorem fo_130 {c : ByteArray} {pc : Nat} {l : List UInt8} (h : fd_at c pc (130 :: l)) : decode c pc = .ok (.ixor, 1) := fd_0 h (n := 130) rfl _ rfl rfl
theorem fo_132 {c : ByteArray} {pc : Nat} {l : List UInt8} {m : Nat} {m2 : Int} {x y : UInt8} (h : fd_at c pc (132 :: x :: y :: l)) (k : x.toNat = m) (k2 : Reader.signed 8 y.toNat = m2) : decode c pc = .ok (.iinc m m2, 3) := fd_5 (g := .iinc) h (n := 132) rfl _ rfl rfl k k2
theorem fo_133 {c : ByteArray} {pc : Nat} {l : List UInt8} (h : fd_at c pc (133 :: l)) : decode c pc = .ok (.i2l, 1) := fd_0 h (n := 133) rfl _ rfl rfl
theorem fo_145 {c : ByteArray} {pc : Nat} {l : List UInt8} (h : fd_at c pc (145 :: l)) : decode c pc = .ok (.i2b, 1) := fd_0 h (n := 145) rfl _ rfl rfl
theorem fo_146 {c : ByteArray} {pc : Nat} {l : List UInt8} (h : fd_at c pc (146 :: l)) : decode c pc = .ok (.i2c, 1) := fd_0 h (n := 146) rfl _ rfl rfl
theorem fo_147 {c : ByteArray} {pc : Nat} {l : List UInt8} (h : fd_at c pc (147 :: l)) : decode c pc = .ok (.i2s, 1) := fd_0 h (n := 147) rfl _ rfl rfl
theorem fo_148 {c : ByteArray} {pc : Nat} {l : List UInt8} (h : fd_at c pc (148 :: l)) : decode c pc = .ok (.lcmp, 1) := fd_0 h (n := 148) rfl _ rfl rfl
theorem fo_153 {c : ByteArray} {pc : Nat} {l : List UInt8} {m : Int} {x y : UInt8} (h : fd_at c pc (153 :: x :: y :: l)) (k : Reader.signed 16 (x.toNat * 256 + y.toNat) = m) : decode c pc = .ok (.ifCond .eq m, 3) := fd_3 (g := .ifCond .eq) h (n := 153) rfl _ rfl rfl k
theorem fo_154 {c : ByteArray} {pc : Nat} {l : List UInt8} {m : Int} {x y : UInt8} (h : fd_at c pc (154 :: x :: y :: l)) (k : Reader.signed 16 (x.toNat * 256 + y.toNat) = m) : decode c pc = .ok (.ifCond .ne m, 3) := fd_3 (g := .ifCond .ne) h (n := 154) rfl _ rfl rfl k
theorem fo_155 {c : ByteArray} {pc : Nat} {l : List UInt8} {m : Int} {x y : UInt8} (h : fd_at c pc (155 :: x :: y :: l)) (k : Reader.signed 16 (x.toNat * 256 + y.toNat) = m) : decode c pc = .ok (.ifCond .lt m, 3) := fd_3 (g := .ifCond .lt) h (n := 155) rfl _ rfl rfl k
theorem fo_156 {c : ByteArray} {pc : Nat} {l : List UInt8} {m : Int} {x y : UInt8} (h : fd_at c pc (156 :: x :: y :: l)) (k : Reader.signed 16 (x.toNat * 256 + y.toNat) = m) : decode c pc = .ok (.ifCond .ge m, 3) := fd_3 (g := .ifCond .ge) h (n := 156) rfl _ rfl rfl k
theorem fo_157 {c : ByteArray} {pc : Nat} {l : List UInt8} {m : Int} {x y : UInt8} (h : fd_at c pc (157 :: x :: y :: l)) (k : Reader.signed 16 (x.toNat * 256 + y.toNat) = m) : decode c pc = .ok (.ifCond .gt m, 3) := fd_3 (g := .ifCond .gt) h (n := 157) rfl _ rfl rfl k
theorem fo_158 {c : ByteArray} {pc : Nat} {l : List UInt8} {m : Int} {x y : UInt8} (h : fd_at c pc (158 :: x :: y :: l)) (k : Reader.signed 16 (x.toNat * 256 + y.toNat) = m) : decode c pc = .ok (.ifCond .le m, 3) := fd_3 (g := .ifCond .le) h (n := 158) rfl _ rfl rfl k
theorem fo_159 {c : ByteArray} {pc : Nat} {l : List UInt8} {m : Int} {x y : UInt8} (h : fd_at c pc (159 :: x :: y :: l)) (k : Reader.signed 16 (x.toNat * 256 + y.toNat) = m) : decode c pc = .ok (.if_icmp .eq m, 3) := fd_3 (g := .if_icmp .eq) h (n := 159) rfl _ rfl rfl k
theorem fo_160 {c : ByteArray} {pc : Nat} {l : List UInt8} {m : Int} {x y : UInt8} (h : fd_at c pc (160 :: x :: y :: l)) (k : Reader.signed 16 (x.toNat * 256 + y.toNat) = m) : decode c pc = .ok (.if_icmp .ne m, 3) := fd_3 (g := .if_icmp .ne) h (n := 160) rfl _ rfl rfl k
theorem fo_161 {c : ByteArray} {pc : Nat} {l : List UInt8} {m : Int} {x y : UInt8} (h : fd_at c pc (161 :: x :: y :: l)) (k : Reader.signed 16 (x.toNat * 256 + y.toNat) = m) : decode c pc = .ok (.if_icmp .lt m, 3) := fd_3 (g := .if_icmp .lt) h (n := 161) rfl _ rfl rfl k
theorem fo_162 {c : ByteArray} {pc : Nat} {l : List UInt8} {m : Int} {x y : UInt8} (h : fd_at c pc (162 :: x :: y :: l)) (k : Reader.signed 16 (x.toNat * 256 + y.toNat) = m) : decode c pc = .ok (.if_icmp .ge m, 3) := fd_3 (g := .if_icmp .ge) h (n := 162) rfl _ rfl rfl k
theorem fo_163 {c : ByteArray} {pc : Nat} {l : List UInt8} {m : Int} {x y : UInt8} (h : fd_at c pc (163 :: x :: y :: l)) (k : Reader.signed 16 (x.toNat * 256 + y.toNat) = m) : decode c pc = .ok (.if_icmp .gt m, 3) := fd_3 (g := .if_icmp .gt) h (n := 163) rfl _ rfl rfl k
theorem fo_164 {c : ByteArray} {pc : Nat} {l : List UInt8} {m : Int} {x y : UInt8} (h : fd_at c pc (164 :: x :: y :: l)) (k : Reader.signed 16 (x.toNat * 256 + y.toNat) = m) : decode c pc = .ok (.if_icmp .le m, 3) := fd_3 (g := .if_icmp .le) h (n := 164) rfl _ rfl rfl k
theorem fo_167 {c : ByteArray} {pc : Nat} {l : List UInt8} {m : Int} {x y : UInt8} (h : fd_at c pc (167 :: x :: y :: l)) (k : Reader.signed 16 (x.toNat * 256 + y.toNat) = m) : decode c pc = .ok (.goto m, 3) := fd_3 (g := .goto) h (n := 167) rfl _ rfl rfl k
theorem fo_172 {c : ByteArray} {pc : Nat} {l : List UInt8} (h : fd_at c pc (172 :: l)) : decode c pc = .ok (.ireturn, 1) := fd_0 h (n := 172) rfl _ rfl rfl
theorem fo_173 {c : ByteArray} {pc : Nat} {l : List UInt8} (h : fd_at c pc (173 :: l)) : decode c pc = .ok (.lreturn, 1) := fd_0 h (n := 173) rfl _ rfl rfl
theorem fo_177 {c : ByteArray} {pc : Nat} {l : List UInt8} (h : fd_at c pc (177 :: l)) : decode c pc = .ok (.return_, 1) := fd_0 h (n := 177) rfl _ rfl rfl
theorem fo_178 {c : ByteArray} {pc : Nat} {l : List UInt8} {m : Nat} {x y : UInt8} (h : fd_at c pc (178 :: x :: y :: l)) (k : x.toNat * 256 + y.toNat = m) : decode c pc = .ok (.getstatic m, 3) := fd_2 (g := .getstatic) h (n := 178) rfl _ rfl rfl k
theorem fo_180 {c : ByteArray} {pc : Nat} {l : List UInt8} {m : Nat} {x y : UInt8} (h : fd_at c pc (180 :: x :: y :: l)) (k : x.toNat * 256 + y.toNat = m) : decode c pc = .ok (.getfield m, 3) := fd_2 (g := .getfield) h (n := 180) rfl _ rfl rfl k
theorem fo_181 {c : ByteArray} {pc : Nat} {l : List UInt8} {m : Nat} {x y : UInt8} (h : fd_at c pc (181 :: x :: y :: l)) (k : x.toNat * 256 + y.toNat = m) : decode c pc = .ok (.putfield m, 3) := fd_2 (g := .putfield) h (n := 181) rfl _ rfl rfl k
theorem fo_182 {c : ByteArray} {pc : Nat} {l : List UInt8} {m : Nat} {x y : UInt8} (h : fd_at c pc (182 :: x :: y :: l)) (k : x.toNat * 256 + y.toNat = m) : decode c pc = .ok (.invokevirtual m, 3) := fd_2 (g := .invokevirtual) h (n := 182) rfl _ rfl rfl k
theorem fo_183 {c : ByteArray} {pc : Nat} {l : List UInt8} {m : Nat} {x y : UInt8} (h : fd_at c pc (183 :: x :: y :: l)) (k : x.toNat * 256 + y.toNat = m) : decode c pc = .ok (.invokespecial m, 3) := fd_2 (g := .invokespecial) h (n := 183) rfl _ rfl rfl k
theorem fo_184 {c : ByteArray} {pc : Nat} {l : List UInt8} {m : Nat} {x y : UInt8} (h : fd_at c pc (184 :: x :: y :: l)) (k : x.toNat * 256 + y.toNat = m) : decode c pc = .ok (.invokestatic m, 3) := fd_2 (g := .invokestatic) h (n := 184) rfl _ rfl rfl k
theorem fo_187 {c : ByteArray} {pc : Nat} {l : List UInt8} {m : Nat} {x y : UInt8} (h : fd_at c pc (187 :: x :: y :: l)) (k : x.toNat * 256 + y.toNat = m) : decode c pc = .ok (.new m, 3) := fd_2 (g := .new) h (n := 187) rfl _ rfl rfl k
theorem fo_190 {c : ByteArray} {pc : Nat} {l : List UInt8} (h : fd_at c pc (190 :: l)) : decode c pc = .ok (.arraylength, 1) := fd_0 h (n := 190) rfl _ rfl rfl
theorem fo_191 {c : ByteArray} {pc : Nat} {l : List UInt8} (h : fd_at c pc (191 :: l)) : decode c pc = .ok (.athrow, 1) := fd_0 h (n := 191) rfl _ rfl rfl
noncomputable def sl_X0_init_0 : List UInt8 := 42 :: 183 :: 0 :: 3 :: 42 :: 8 :: 188 :: 10 :: 181 :: 0 :: 9 :: 42 :: 8 :: 188 :: 10 :: 181 :: 0 :: 15 :: 42 :: 8 :: 188 :: 10 :: 181 :: 0 :: 18 :: 177 :: []
theorem sr_X0_init_0 : fd_at cX0_init 0 sl_X0_init_0 := fd_base (by decide +kernel)
theorem dX0_init_0 : decode cX0_init 0 = .ok (.aload_n 0, 1) := fo_42 sr_X0_init_0
theorem dX0_init_1 : decode cX0_init 1 = .ok (.invokespecial 3, 3) := fo_183 (fd_n 1 sr_X0_init_0 rfl) rfl
theorem dX0_init_4 : decode cX0_init 4 = .ok (.aload_n 0, 1) := fo_42 (fd_n 4 sr_X0_init_0 rfl)
theorem dX0_init_5 : decode cX0_init 5 = .ok (.iconst 5, 1) := fo_8 (fd_n 5 sr_X0_init_0 rfl)
theorem dX0_init_8 : decode cX0_init 8 = .ok (.putfield 9, 3) := fo_181 (fd_n 8 sr_X0_init_0 rfl) rfl
theorem dX0_init_11 : decode cX0_init 11 = .ok (.aload_n 0, 1) := fo_42 (fd_n 11 sr_X0_init_0 rfl)
theorem dX0_init_12 : decode cX0_init 12 = .ok (.iconst 5, 1) := fo_8 (fd_n 12 sr_X0_init_0 rfl)
theorem dX0_init_15 : decode cX0_init 15 = .ok (.putfield 15, 3) := fo_181 (fd_n 15 sr_X0_init_0 rfl) rfl
theorem dX0_init_18 : decode cX0_init 18 = .ok (.aload_n 0, 1) := fo_42 (fd_n 18 sr_X0_init_0 rfl)
theorem dX0_init_19 : decode cX0_init 19 = .ok (.iconst 5, 1) := fo_8 (fd_n 19 sr_X0_init_0 rfl)
theorem dX0_init_22 : decode cX0_init 22 = .ok (.putfield 18, 3) := fo_181 (fd_n 22 sr_X0_init_0 rfl) rfl
theorem dX0_init_25 : decode cX0_init 25 = .ok (.return_, 1) := fo_177 (fd_n 25 sr_X0_init_0 rfl)
theorem dX0_init_6 : decode cX0_init 6 = .ok (.newarray .int, 2) := by decide +kernel
theorem dX0_init_13 : decode cX0_init 13 = .ok (.newarray .int, 2) := by decide +kernel
theorem dX0_init_20 : decode cX0_init 20 = .ok (.newarray .int, 2) := by decide +kernel
noncomputable def sl_X0_look_4 : List UInt8 := 79 :: 42 :: 180 :: 0 :: 18 :: 21 :: 6 :: 3 :: 79 :: 132 :: 6 :: 1 :: 167 :: 255 :: 161 :: 177 :: []
noncomputable def sl_X0_look_3 : List UInt8 := 21 :: 6 :: 42 :: 21 :: 6 :: 29 :: 182 :: 0 :: 39 :: 79 :: 167 :: 0 :: 27 :: 42 :: 180 :: 0 :: 9 :: 21 :: 6 :: 2 :: 79 :: 42 :: 180 :: 0 :: 15 :: 21 :: 6 :: 3 :: sl_X0_look_4
noncomputable def sl_X0_look_2 : List UInt8 := 153 :: 0 :: 42 :: 42 :: 180 :: 0 :: 9 :: 21 :: 6 :: 21 :: 5 :: 79 :: 42 :: 180 :: 0 :: 15 :: 21 :: 6 :: 43 :: 21 :: 5 :: 182 :: 0 :: 35 :: 79 :: 42 :: 180 :: 0 :: 18 :: sl_X0_look_3
noncomputable def sl_X0_look_1 : List UInt8 := 4 :: 54 :: 6 :: 21 :: 6 :: 7 :: 163 :: 0 :: 95 :: 21 :: 5 :: 21 :: 4 :: 184 :: 0 :: 27 :: 54 :: 5 :: 21 :: 5 :: 155 :: 0 :: 51 :: 43 :: 21 :: 5 :: 182 :: 0 :: 31 :: sl_X0_look_2
noncomputable def sl_X0_look_0 : List UInt8 := 43 :: 180 :: 0 :: 21 :: 4 :: 50 :: 28 :: 46 :: 62 :: 43 :: 180 :: 0 :: 21 :: 5 :: 50 :: 28 :: 46 :: 54 :: 4 :: 43 :: 180 :: 0 :: 21 :: 3 :: 50 :: 28 :: 46 :: 54 :: 5 :: sl_X0_look_1
theorem sr_X0_look_0 : fd_at cX0_look 0 sl_X0_look_0 := fd_base (by decide +kernel)
theorem sr_X0_look_1 : fd_at cX0_look 29 sl_X0_look_1 := fd_n 29 sr_X0_look_0 rfl
theorem sr_X0_look_2 : fd_at cX0_look 58 sl_X0_look_2 := fd_n 29 sr_X0_look_1 rfl
theorem sr_X0_look_3 : fd_at cX0_look 87 sl_X0_look_3 := fd_n 29 sr_X0_look_2 rfl
theorem sr_X0_look_4 : fd_at cX0_look 115 sl_X0_look_4 := fd_n 28 sr_X0_look_3 rfl
theorem dX0_look_0 : decode cX0_look 0 = .ok (.aload_n 1, 1) := fo_43 sr_X0_look_0
theorem dX0_look_1 : decode cX0_look 1 = .ok (.getfield 21, 3) := fo_180 (fd_n 1 sr_X0_look_0 rfl) rfl
theorem dX0_look_4 : decode cX0_look 4 = .ok (.iconst 1, 1) := fo_4 (fd_n 4 sr_X0_look_0 rfl)
theorem dX0_look_5 : decode cX0_look 5 = .ok (.aaload, 1) := fo_50 (fd_n 5 sr_X0_look_0 rfl)
theorem dX0_look_6 : decode cX0_look 6 = .ok (.iload_n 2, 1) := fo_28 (fd_n 6 sr_X0_look_0 rfl)
theorem dX0_look_7 : decode cX0_look 7 = .ok (.iaload, 1) := fo_46 (fd_n 7 sr_X0_look_0 rfl)
theorem dX0_look_8 : decode cX0_look 8 = .ok (.istore_n 3, 1) := fo_62 (fd_n 8 sr_X0_look_0 rfl)
theorem dX0_look_9 : decode cX0_look 9 = .ok (.aload_n 1, 1) := fo_43 (fd_n 9 sr_X0_look_0 rfl)
theorem dX0_look_10 : decode cX0_look 10 = .ok (.getfield 21, 3) := fo_180 (fd_n 10 sr_X0_look_0 rfl) rfl
theorem dX0_look_13 : decode cX0_look 13 = .ok (.iconst 2, 1) := fo_5 (fd_n 13 sr_X0_look_0 rfl)
theorem dX0_look_14 : decode cX0_look 14 = .ok (.aaload, 1) := fo_50 (fd_n 14 sr_X0_look_0 rfl)
theorem dX0_look_15 : decode cX0_look 15 = .ok (.iload_n 2, 1) := fo_28 (fd_n 15 sr_X0_look_0 rfl)
theorem dX0_look_16 : decode cX0_look 16 = .ok (.iaload, 1) := fo_46 (fd_n 16 sr_X0_look_0 rfl)
theorem dX0_look_17 : decode cX0_look 17 = .ok (.istore 4, 2) := fo_54 (fd_n 17 sr_X0_look_0 rfl) rfl
theorem dX0_look_19 : decode cX0_look 19 = .ok (.aload_n 1, 1) := fo_43 (fd_n 19 sr_X0_look_0 rfl)
theorem dX0_look_20 : decode cX0_look 20 = .ok (.getfield 21, 3) := fo_180 (fd_n 20 sr_X0_look_0 rfl) rfl
theorem dX0_look_23 : decode cX0_look 23 = .ok (.iconst 0, 1) := fo_3 (fd_n 23 sr_X0_look_0 rfl)
theorem dX0_look_24 : decode cX0_look 24 = .ok (.aaload, 1) := fo_50 (fd_n 24 sr_X0_look_0 rfl)
theorem dX0_look_25 : decode cX0_look 25 = .ok (.iload_n 2, 1) := fo_28 (fd_n 25 sr_X0_look_0 rfl)
theorem dX0_look_26 : decode cX0_look 26 = .ok (.iaload, 1) := fo_46 (fd_n 26 sr_X0_look_0 rfl)
theorem dX0_look_27 : decode cX0_look 27 = .ok (.istore 5, 2) := fo_54 (fd_n 27 sr_X0_look_0 rfl) rfl
theorem dX0_look_29 : decode cX0_look 29 = .ok (.iconst 1, 1) := fo_4 sr_X0_look_1
theorem dX0_look_30 : decode cX0_look 30 = .ok (.istore 6, 2) := fo_54 (fd_n 1 sr_X0_look_1 rfl) rfl
theorem dX0_look_32 : decode cX0_look 32 = .ok (.iload 6, 2) := fo_21 (fd_n 3 sr_X0_look_1 rfl) rfl
theorem dX0_look_34 : decode cX0_look 34 = .ok (.iconst 4, 1) := fo_7 (fd_n 5 sr_X0_look_1 rfl)
theorem dX0_look_35 : decode cX0_look 35 = .ok (.if_icmp .gt 95, 3) := fo_163 (fd_n 6 sr_X0_look_1 rfl) (by decide +kernel)
theorem dX0_look_38 : decode cX0_look 38 = .ok (.iload 5, 2) := fo_21 (fd_n 9 sr_X0_look_1 rfl) rfl
theorem dX0_look_40 : decode cX0_look 40 = .ok (.iload 4, 2) := fo_21 (fd_n 11 sr_X0_look_1 rfl) rfl
theorem dX0_look_42 : decode cX0_look 42 = .ok (.invokestatic 27, 3) := fo_184 (fd_n 13 sr_X0_look_1 rfl) rfl
theorem dX0_look_45 : decode cX0_look 45 = .ok (.istore 5, 2) := fo_54 (fd_n 16 sr_X0_look_1 rfl) rfl
theorem dX0_look_47 : decode cX0_look 47 = .ok (.iload 5, 2) := fo_21 (fd_n 18 sr_X0_look_1 rfl) rfl
theorem dX0_look_49 : decode cX0_look 49 = .ok (.ifCond .lt 51, 3) := fo_155 (fd_n 20 sr_X0_look_1 rfl) (by decide +kernel)
theorem dX0_look_52 : decode cX0_look 52 = .ok (.aload_n 1, 1) := fo_43 (fd_n 23 sr_X0_look_1 rfl)
theorem dX0_look_53 : decode cX0_look 53 = .ok (.iload 5, 2) := fo_21 (fd_n 24 sr_X0_look_1 rfl) rfl
theorem dX0_look_55 : decode cX0_look 55 = .ok (.invokevirtual 31, 3) := fo_182 (fd_n 26 sr_X0_look_1 rfl) rfl
theorem dX0_look_58 : decode cX0_look 58 = .ok (.ifCond .eq 42, 3) := fo_153 sr_X0_look_2 (by decide +kernel)
theorem dX0_look_61 : decode cX0_look 61 = .ok (.aload_n 0, 1) := fo_42 (fd_n 3 sr_X0_look_2 rfl)
theorem dX0_look_62 : decode cX0_look 62 = .ok (.getfield 9, 3) := fo_180 (fd_n 4 sr_X0_look_2 rfl) rfl
theorem dX0_look_65 : decode cX0_look 65 = .ok (.iload 6, 2) := fo_21 (fd_n 7 sr_X0_look_2 rfl) rfl
theorem dX0_look_67 : decode cX0_look 67 = .ok (.iload 5, 2) := fo_21 (fd_n 9 sr_X0_look_2 rfl) rfl
theorem dX0_look_69 : decode cX0_look 69 = .ok (.iastore, 1) := fo_79 (fd_n 11 sr_X0_look_2 rfl)
theorem dX0_look_70 : decode cX0_look 70 = .ok (.aload_n 0, 1) := fo_42 (fd_n 12 sr_X0_look_2 rfl)
theorem dX0_look_71 : decode cX0_look 71 = .ok (.getfield 15, 3) := fo_180 (fd_n 13 sr_X0_look_2 rfl) rfl
theorem dX0_look_74 : decode cX0_look 74 = .ok (.iload 6, 2) := fo_21 (fd_n 16 sr_X0_look_2 rfl) rfl
theorem dX0_look_76 : decode cX0_look 76 = .ok (.aload_n 1, 1) := fo_43 (fd_n 18 sr_X0_look_2 rfl)
theorem dX0_look_77 : decode cX0_look 77 = .ok (.iload 5, 2) := fo_21 (fd_n 19 sr_X0_look_2 rfl) rfl
theorem dX0_look_79 : decode cX0_look 79 = .ok (.invokevirtual 35, 3) := fo_182 (fd_n 21 sr_X0_look_2 rfl) rfl
theorem dX0_look_82 : decode cX0_look 82 = .ok (.iastore, 1) := fo_79 (fd_n 24 sr_X0_look_2 rfl)
theorem dX0_look_83 : decode cX0_look 83 = .ok (.aload_n 0, 1) := fo_42 (fd_n 25 sr_X0_look_2 rfl)
theorem dX0_look_84 : decode cX0_look 84 = .ok (.getfield 18, 3) := fo_180 (fd_n 26 sr_X0_look_2 rfl) rfl
theorem dX0_look_87 : decode cX0_look 87 = .ok (.iload 6, 2) := fo_21 sr_X0_look_3 rfl
theorem dX0_look_89 : decode cX0_look 89 = .ok (.aload_n 0, 1) := fo_42 (fd_n 2 sr_X0_look_3 rfl)
theorem dX0_look_90 : decode cX0_look 90 = .ok (.iload 6, 2) := fo_21 (fd_n 3 sr_X0_look_3 rfl) rfl
theorem dX0_look_92 : decode cX0_look 92 = .ok (.iload_n 3, 1) := fo_29 (fd_n 5 sr_X0_look_3 rfl)
theorem dX0_look_93 : decode cX0_look 93 = .ok (.invokevirtual 39, 3) := fo_182 (fd_n 6 sr_X0_look_3 rfl) rfl
theorem dX0_look_96 : decode cX0_look 96 = .ok (.iastore, 1) := fo_79 (fd_n 9 sr_X0_look_3 rfl)
theorem dX0_look_97 : decode cX0_look 97 = .ok (.goto 27, 3) := fo_167 (fd_n 10 sr_X0_look_3 rfl) (by decide +kernel)
theorem dX0_look_100 : decode cX0_look 100 = .ok (.aload_n 0, 1) := fo_42 (fd_n 13 sr_X0_look_3 rfl)
theorem dX0_look_101 : decode cX0_look 101 = .ok (.getfield 9, 3) := fo_180 (fd_n 14 sr_X0_look_3 rfl) rfl
theorem dX0_look_104 : decode cX0_look 104 = .ok (.iload 6, 2) := fo_21 (fd_n 17 sr_X0_look_3 rfl) rfl
theorem dX0_look_106 : decode cX0_look 106 = .ok (.iconst (-1), 1) := fo_2 (fd_n 19 sr_X0_look_3 rfl)
theorem dX0_look_107 : decode cX0_look 107 = .ok (.iastore, 1) := fo_79 (fd_n 20 sr_X0_look_3 rfl)
theorem dX0_look_108 : decode cX0_look 108 = .ok (.aload_n 0, 1) := fo_42 (fd_n 21 sr_X0_look_3 rfl)
theorem dX0_look_109 : decode cX0_look 109 = .ok (.getfield 15, 3) := fo_180 (fd_n 22 sr_X0_look_3 rfl) rfl
theorem dX0_look_112 : decode cX0_look 112 = .ok (.iload 6, 2) := fo_21 (fd_n 25 sr_X0_look_3 rfl) rfl
theorem dX0_look_114 : decode cX0_look 114 = .ok (.iconst 0, 1) := fo_3 (fd_n 27 sr_X0_look_3 rfl)
theorem dX0_look_115 : decode cX0_look 115 = .ok (.iastore, 1) := fo_79 sr_X0_look_4
theorem dX0_look_116 : decode cX0_look 116 = .ok (.aload_n 0, 1) := fo_42 (fd_n 1 sr_X0_look_4 rfl)
theorem dX0_look_117 : decode cX0_look 117 = .ok (.getfield 18, 3) := fo_180 (fd_n 2 sr_X0_look_4 rfl) rfl
theorem dX0_look_120 : decode cX0_look 120 = .ok (.iload 6, 2) := fo_21 (fd_n 5 sr_X0_look_4 rfl) rfl
theorem dX0_look_122 : decode cX0_look 122 = .ok (.iconst 0, 1) := fo_3 (fd_n 7 sr_X0_look_4 rfl)
theorem dX0_look_123 : decode cX0_look 123 = .ok (.iastore, 1) := fo_79 (fd_n 8 sr_X0_look_4 rfl)
theorem dX0_look_124 : decode cX0_look 124 = .ok (.iinc 6 1, 3) := fo_132 (fd_n 9 sr_X0_look_4 rfl) rfl (by decide +kernel)
theorem dX0_look_127 : decode cX0_look 127 = .ok (.goto (-95), 3) := fo_167 (fd_n 12 sr_X0_look_4 rfl) (by decide +kernel)
theorem dX0_look_130 : decode cX0_look 130 = .ok (.return_, 1) := fo_177 (fd_n 15 sr_X0_look_4 rfl)
noncomputable def sl_X0_nextLot_2 : List UInt8 := 26 :: 16 :: 20 :: 162 :: 0 :: 9 :: 26 :: 8 :: 96 :: 167 :: 0 :: 4 :: 2 :: 172 :: 26 :: 8 :: 112 :: 158 :: 0 :: 9 :: 26 :: 4 :: 100 :: 167 :: 0 :: 4 :: 2 :: 172 :: []
noncomputable def sl_X0_nextLot_1 : List UInt8 := 26 :: 8 :: 161 :: 0 :: 9 :: 26 :: 8 :: 100 :: 167 :: 0 :: 4 :: 2 :: 172 :: 26 :: 8 :: 112 :: 7 :: 162 :: 0 :: 9 :: 26 :: 4 :: 96 :: 167 :: 0 :: 4 :: 2 :: 172 :: sl_X0_nextLot_2
noncomputable def sl_X0_nextLot_0 : List UInt8 := 26 :: 156 :: 0 :: 5 :: 2 :: 172 :: 27 :: 170 :: 0 :: 0 :: 0 :: 67 :: 0 :: 0 :: 0 :: 0 :: 0 :: 0 :: 0 :: 2 :: 0 :: 0 :: 0 :: 25 :: 0 :: 0 :: 0 :: 38 :: 0 :: 0 :: 0 :: 53 :: sl_X0_nextLot_1
theorem sr_X0_nextLot_0 : fd_at cX0_nextLot 0 sl_X0_nextLot_0 := fd_base (by decide +kernel)
theorem sr_X0_nextLot_1 : fd_at cX0_nextLot 32 sl_X0_nextLot_1 := fd_n 32 sr_X0_nextLot_0 rfl
theorem sr_X0_nextLot_2 : fd_at cX0_nextLot 60 sl_X0_nextLot_2 := fd_n 28 sr_X0_nextLot_1 rfl
theorem dX0_nextLot_0 : decode cX0_nextLot 0 = .ok (.iload_n 0, 1) := fo_26 sr_X0_nextLot_0
theorem dX0_nextLot_1 : decode cX0_nextLot 1 = .ok (.ifCond .ge 5, 3) := fo_156 (fd_n 1 sr_X0_nextLot_0 rfl) (by decide +kernel)
theorem dX0_nextLot_4 : decode cX0_nextLot 4 = .ok (.iconst (-1), 1) := fo_2 (fd_n 4 sr_X0_nextLot_0 rfl)
theorem dX0_nextLot_5 : decode cX0_nextLot 5 = .ok (.ireturn, 1) := fo_172 (fd_n 5 sr_X0_nextLot_0 rfl)
theorem dX0_nextLot_6 : decode cX0_nextLot 6 = .ok (.iload_n 1, 1) := fo_27 (fd_n 6 sr_X0_nextLot_0 rfl)
theorem dX0_nextLot_32 : decode cX0_nextLot 32 = .ok (.iload_n 0, 1) := fo_26 sr_X0_nextLot_1
theorem dX0_nextLot_33 : decode cX0_nextLot 33 = .ok (.iconst 5, 1) := fo_8 (fd_n 1 sr_X0_nextLot_1 rfl)
theorem dX0_nextLot_34 : decode cX0_nextLot 34 = .ok (.if_icmp .lt 9, 3) := fo_161 (fd_n 2 sr_X0_nextLot_1 rfl) (by decide +kernel)
theorem dX0_nextLot_37 : decode cX0_nextLot 37 = .ok (.iload_n 0, 1) := fo_26 (fd_n 5 sr_X0_nextLot_1 rfl)
theorem dX0_nextLot_38 : decode cX0_nextLot 38 = .ok (.iconst 5, 1) := fo_8 (fd_n 6 sr_X0_nextLot_1 rfl)
theorem dX0_nextLot_39 : decode cX0_nextLot 39 = .ok (.isub, 1) := fo_100 (fd_n 7 sr_X0_nextLot_1 rfl)
theorem dX0_nextLot_40 : decode cX0_nextLot 40 = .ok (.goto 4, 3) := fo_167 (fd_n 8 sr_X0_nextLot_1 rfl) (by decide +kernel)
theorem dX0_nextLot_43 : decode cX0_nextLot 43 = .ok (.iconst (-1), 1) := fo_2 (fd_n 11 sr_X0_nextLot_1 rfl)
theorem dX0_nextLot_44 : decode cX0_nextLot 44 = .ok (.ireturn, 1) := fo_172 (fd_n 12 sr_X0_nextLot_1 rfl)
theorem dX0_nextLot_45 : decode cX0_nextLot 45 = .ok (.iload_n 0, 1) := fo_26 (fd_n 13 sr_X0_nextLot_1 rfl)
theorem dX0_nextLot_46 : decode cX0_nextLot 46 = .ok (.iconst 5, 1) := fo_8 (fd_n 14 sr_X0_nextLot_1 rfl)
theorem dX0_nextLot_47 : decode cX0_nextLot 47 = .ok (.irem, 1) := fo_112 (fd_n 15 sr_X0_nextLot_1 rfl)
theorem dX0_nextLot_48 : decode cX0_nextLot 48 = .ok (.iconst 4, 1) := fo_7 (fd_n 16 sr_X0_nextLot_1 rfl)
theorem dX0_nextLot_49 : decode cX0_nextLot 49 = .ok (.if_icmp .ge 9, 3) := fo_162 (fd_n 17 sr_X0_nextLot_1 rfl) (by decide +kernel)
theorem dX0_nextLot_52 : decode cX0_nextLot 52 = .ok (.iload_n 0, 1) := fo_26 (fd_n 20 sr_X0_nextLot_1 rfl)
theorem dX0_nextLot_53 : decode cX0_nextLot 53 = .ok (.iconst 1, 1) := fo_4 (fd_n 21 sr_X0_nextLot_1 rfl)
theorem dX0_nextLot_54 : decode cX0_nextLot 54 = .ok (.iadd, 1) := fo_96 (fd_n 22 sr_X0_nextLot_1 rfl)
theorem dX0_nextLot_55 : decode cX0_nextLot 55 = .ok (.goto 4, 3) := fo_167 (fd_n 23 sr_X0_nextLot_1 rfl) (by decide +kernel)
theorem dX0_nextLot_58 : decode cX0_nextLot 58 = .ok (.iconst (-1), 1) := fo_2 (fd_n 26 sr_X0_nextLot_1 rfl)
theorem dX0_nextLot_59 : decode cX0_nextLot 59 = .ok (.ireturn, 1) := fo_172 (fd_n 27 sr_X0_nextLot_1 rfl)
theorem dX0_nextLot_60 : decode cX0_nextLot 60 = .ok (.iload_n 0, 1) := fo_26 sr_X0_nextLot_2
theorem dX0_nextLot_61 : decode cX0_nextLot 61 = .ok (.bipush 20, 2) := fo_16 (fd_n 1 sr_X0_nextLot_2 rfl) (by decide +kernel)
theorem dX0_nextLot_63 : decode cX0_nextLot 63 = .ok (.if_icmp .ge 9, 3) := fo_162 (fd_n 3 sr_X0_nextLot_2 rfl) (by decide +kernel)
theorem dX0_nextLot_66 : decode cX0_nextLot 66 = .ok (.iload_n 0, 1) := fo_26 (fd_n 6 sr_X0_nextLot_2 rfl)
theorem dX0_nextLot_67 : decode cX0_nextLot 67 = .ok (.iconst 5, 1) := fo_8 (fd_n 7 sr_X0_nextLot_2 rfl)
theorem dX0_nextLot_68 : decode cX0_nextLot 68 = .ok (.iadd, 1) := fo_96 (fd_n 8 sr_X0_nextLot_2 rfl)
theorem dX0_nextLot_69 : decode cX0_nextLot 69 = .ok (.goto 4, 3) := fo_167 (fd_n 9 sr_X0_nextLot_2 rfl) (by decide +kernel)
theorem dX0_nextLot_72 : decode cX0_nextLot 72 = .ok (.iconst (-1), 1) := fo_2 (fd_n 12 sr_X0_nextLot_2 rfl)
theorem dX0_nextLot_73 : decode cX0_nextLot 73 = .ok (.ireturn, 1) := fo_172 (fd_n 13 sr_X0_nextLot_2 rfl)
theorem dX0_nextLot_74 : decode cX0_nextLot 74 = .ok (.iload_n 0, 1) := fo_26 (fd_n 14 sr_X0_nextLot_2 rfl)
theorem dX0_nextLot_75 : decode cX0_nextLot 75 = .ok (.iconst 5, 1) := fo_8 (fd_n 15 sr_X0_nextLot_2 rfl)
theorem dX0_nextLot_76 : decode cX0_nextLot 76 = .ok (.irem, 1) := fo_112 (fd_n 16 sr_X0_nextLot_2 rfl)
theorem dX0_nextLot_77 : decode cX0_nextLot 77 = .ok (.ifCond .le 9, 3) := fo_158 (fd_n 17 sr_X0_nextLot_2 rfl) (by decide +kernel)
theorem dX0_nextLot_80 : decode cX0_nextLot 80 = .ok (.iload_n 0, 1) := fo_26 (fd_n 20 sr_X0_nextLot_2 rfl)
theorem dX0_nextLot_81 : decode cX0_nextLot 81 = .ok (.iconst 1, 1) := fo_4 (fd_n 21 sr_X0_nextLot_2 rfl)
theorem dX0_nextLot_82 : decode cX0_nextLot 82 = .ok (.isub, 1) := fo_100 (fd_n 22 sr_X0_nextLot_2 rfl)
theorem dX0_nextLot_83 : decode cX0_nextLot 83 = .ok (.goto 4, 3) := fo_167 (fd_n 23 sr_X0_nextLot_2 rfl) (by decide +kernel)
theorem dX0_nextLot_86 : decode cX0_nextLot 86 = .ok (.iconst (-1), 1) := fo_2 (fd_n 26 sr_X0_nextLot_2 rfl)
theorem dX0_nextLot_87 : decode cX0_nextLot 87 = .ok (.ireturn, 1) := fo_172 (fd_n 27 sr_X0_nextLot_2 rfl)
theorem dX0_nextLot_7 : decode cX0_nextLot 7 = .ok (.tableswitch 67 0 2 #[25, 38, 53], 25) := by decide +kernel
noncomputable def sl_X0_lowestSeen_2 : List UInt8 := 62 :: 132 :: 4 :: 1 :: 167 :: 255 :: 200 :: 29 :: 172 :: []
noncomputable def sl_X0_lowestSeen_1 : List UInt8 := 46 :: 104 :: 5 :: 28 :: 104 :: 100 :: 4 :: 100 :: 27 :: 104 :: 54 :: 5 :: 29 :: 28 :: 21 :: 5 :: 5 :: 21 :: 4 :: 104 :: 184 :: 0 :: 42 :: 96 :: 4 :: 96 :: 184 :: 0 :: 47 :: sl_X0_lowestSeen_2
noncomputable def sl_X0_lowestSeen_0 : List UInt8 := 3 :: 62 :: 4 :: 54 :: 4 :: 21 :: 4 :: 27 :: 162 :: 0 :: 56 :: 42 :: 180 :: 0 :: 9 :: 21 :: 4 :: 46 :: 155 :: 0 :: 40 :: 5 :: 42 :: 180 :: 0 :: 15 :: 21 :: 4 :: sl_X0_lowestSeen_1
theorem sr_X0_lowestSeen_0 : fd_at cX0_lowestSeen 0 sl_X0_lowestSeen_0 := fd_base (by decide +kernel)
theorem sr_X0_lowestSeen_1 : fd_at cX0_lowestSeen 28 sl_X0_lowestSeen_1 := fd_n 28 sr_X0_lowestSeen_0 rfl
theorem sr_X0_lowestSeen_2 : fd_at cX0_lowestSeen 57 sl_X0_lowestSeen_2 := fd_n 29 sr_X0_lowestSeen_1 rfl
theorem dX0_lowestSeen_0 : decode cX0_lowestSeen 0 = .ok (.iconst 0, 1) := fo_3 sr_X0_lowestSeen_0
theorem dX0_lowestSeen_1 : decode cX0_lowestSeen 1 = .ok (.istore_n 3, 1) := fo_62 (fd_n 1 sr_X0_lowestSeen_0 rfl)
theorem dX0_lowestSeen_2 : decode cX0_lowestSeen 2 = .ok (.iconst 1, 1) := fo_4 (fd_n 2 sr_X0_lowestSeen_0 rfl)
theorem dX0_lowestSeen_3 : decode cX0_lowestSeen 3 = .ok (.istore 4, 2) := fo_54 (fd_n 3 sr_X0_lowestSeen_0 rfl) rfl
theorem dX0_lowestSeen_5 : decode cX0_lowestSeen 5 = .ok (.iload 4, 2) := fo_21 (fd_n 5 sr_X0_lowestSeen_0 rfl) rfl
theorem dX0_lowestSeen_7 : decode cX0_lowestSeen 7 = .ok (.iload_n 1, 1) := fo_27 (fd_n 7 sr_X0_lowestSeen_0 rfl)
theorem dX0_lowestSeen_8 : decode cX0_lowestSeen 8 = .ok (.if_icmp .ge 56, 3) := fo_162 (fd_n 8 sr_X0_lowestSeen_0 rfl) (by decide +kernel)
theorem dX0_lowestSeen_11 : decode cX0_lowestSeen 11 = .ok (.aload_n 0, 1) := fo_42 (fd_n 11 sr_X0_lowestSeen_0 rfl)
theorem dX0_lowestSeen_12 : decode cX0_lowestSeen 12 = .ok (.getfield 9, 3) := fo_180 (fd_n 12 sr_X0_lowestSeen_0 rfl) rfl
theorem dX0_lowestSeen_15 : decode cX0_lowestSeen 15 = .ok (.iload 4, 2) := fo_21 (fd_n 15 sr_X0_lowestSeen_0 rfl) rfl
theorem dX0_lowestSeen_17 : decode cX0_lowestSeen 17 = .ok (.iaload, 1) := fo_46 (fd_n 17 sr_X0_lowestSeen_0 rfl)
theorem dX0_lowestSeen_18 : decode cX0_lowestSeen 18 = .ok (.ifCond .lt 40, 3) := fo_155 (fd_n 18 sr_X0_lowestSeen_0 rfl) (by decide +kernel)
theorem dX0_lowestSeen_21 : decode cX0_lowestSeen 21 = .ok (.iconst 2, 1) := fo_5 (fd_n 21 sr_X0_lowestSeen_0 rfl)
theorem dX0_lowestSeen_22 : decode cX0_lowestSeen 22 = .ok (.aload_n 0, 1) := fo_42 (fd_n 22 sr_X0_lowestSeen_0 rfl)
theorem dX0_lowestSeen_23 : decode cX0_lowestSeen 23 = .ok (.getfield 15, 3) := fo_180 (fd_n 23 sr_X0_lowestSeen_0 rfl) rfl
theorem dX0_lowestSeen_26 : decode cX0_lowestSeen 26 = .ok (.iload 4, 2) := fo_21 (fd_n 26 sr_X0_lowestSeen_0 rfl) rfl
theorem dX0_lowestSeen_28 : decode cX0_lowestSeen 28 = .ok (.iaload, 1) := fo_46 sr_X0_lowestSeen_1
theorem dX0_lowestSeen_29 : decode cX0_lowestSeen 29 = .ok (.imul, 1) := fo_104 (fd_n 1 sr_X0_lowestSeen_1 rfl)
theorem dX0_lowestSeen_30 : decode cX0_lowestSeen 30 = .ok (.iconst 2, 1) := fo_5 (fd_n 2 sr_X0_lowestSeen_1 rfl)
theorem dX0_lowestSeen_31 : decode cX0_lowestSeen 31 = .ok (.iload_n 2, 1) := fo_28 (fd_n 3 sr_X0_lowestSeen_1 rfl)
theorem dX0_lowestSeen_32 : decode cX0_lowestSeen 32 = .ok (.imul, 1) := fo_104 (fd_n 4 sr_X0_lowestSeen_1 rfl)
theorem dX0_lowestSeen_33 : decode cX0_lowestSeen 33 = .ok (.isub, 1) := fo_100 (fd_n 5 sr_X0_lowestSeen_1 rfl)
theorem dX0_lowestSeen_34 : decode cX0_lowestSeen 34 = .ok (.iconst 1, 1) := fo_4 (fd_n 6 sr_X0_lowestSeen_1 rfl)
theorem dX0_lowestSeen_35 : decode cX0_lowestSeen 35 = .ok (.isub, 1) := fo_100 (fd_n 7 sr_X0_lowestSeen_1 rfl)
theorem dX0_lowestSeen_36 : decode cX0_lowestSeen 36 = .ok (.iload_n 1, 1) := fo_27 (fd_n 8 sr_X0_lowestSeen_1 rfl)
theorem dX0_lowestSeen_37 : decode cX0_lowestSeen 37 = .ok (.imul, 1) := fo_104 (fd_n 9 sr_X0_lowestSeen_1 rfl)
theorem dX0_lowestSeen_38 : decode cX0_lowestSeen 38 = .ok (.istore 5, 2) := fo_54 (fd_n 10 sr_X0_lowestSeen_1 rfl) rfl
theorem dX0_lowestSeen_40 : decode cX0_lowestSeen 40 = .ok (.iload_n 3, 1) := fo_29 (fd_n 12 sr_X0_lowestSeen_1 rfl)
theorem dX0_lowestSeen_41 : decode cX0_lowestSeen 41 = .ok (.iload_n 2, 1) := fo_28 (fd_n 13 sr_X0_lowestSeen_1 rfl)
theorem dX0_lowestSeen_42 : decode cX0_lowestSeen 42 = .ok (.iload 5, 2) := fo_21 (fd_n 14 sr_X0_lowestSeen_1 rfl) rfl
theorem dX0_lowestSeen_44 : decode cX0_lowestSeen 44 = .ok (.iconst 2, 1) := fo_5 (fd_n 16 sr_X0_lowestSeen_1 rfl)
theorem dX0_lowestSeen_45 : decode cX0_lowestSeen 45 = .ok (.iload 4, 2) := fo_21 (fd_n 17 sr_X0_lowestSeen_1 rfl) rfl
theorem dX0_lowestSeen_47 : decode cX0_lowestSeen 47 = .ok (.imul, 1) := fo_104 (fd_n 19 sr_X0_lowestSeen_1 rfl)
theorem dX0_lowestSeen_48 : decode cX0_lowestSeen 48 = .ok (.invokestatic 42, 3) := fo_184 (fd_n 20 sr_X0_lowestSeen_1 rfl) rfl
theorem dX0_lowestSeen_51 : decode cX0_lowestSeen 51 = .ok (.iadd, 1) := fo_96 (fd_n 23 sr_X0_lowestSeen_1 rfl)
theorem dX0_lowestSeen_52 : decode cX0_lowestSeen 52 = .ok (.iconst 1, 1) := fo_4 (fd_n 24 sr_X0_lowestSeen_1 rfl)
theorem dX0_lowestSeen_53 : decode cX0_lowestSeen 53 = .ok (.iadd, 1) := fo_96 (fd_n 25 sr_X0_lowestSeen_1 rfl)
theorem dX0_lowestSeen_54 : decode cX0_lowestSeen 54 = .ok (.invokestatic 47, 3) := fo_184 (fd_n 26 sr_X0_lowestSeen_1 rfl) rfl
theorem dX0_lowestSeen_57 : decode cX0_lowestSeen 57 = .ok (.istore_n 3, 1) := fo_62 sr_X0_lowestSeen_2
theorem dX0_lowestSeen_58 : decode cX0_lowestSeen 58 = .ok (.iinc 4 1, 3) := fo_132 (fd_n 1 sr_X0_lowestSeen_2 rfl) rfl (by decide +kernel)
theorem dX0_lowestSeen_61 : decode cX0_lowestSeen 61 = .ok (.goto (-56), 3) := fo_167 (fd_n 4 sr_X0_lowestSeen_2 rfl) (by decide +kernel)
theorem dX0_lowestSeen_64 : decode cX0_lowestSeen 64 = .ok (.iload_n 3, 1) := fo_29 (fd_n 7 sr_X0_lowestSeen_2 rfl)
theorem dX0_lowestSeen_65 : decode cX0_lowestSeen 65 = .ok (.ireturn, 1) := fo_172 (fd_n 8 sr_X0_lowestSeen_2 rfl)
noncomputable def sl_X0_squares_0 : List UInt8 := 3 :: 42 :: 180 :: 0 :: 15 :: 27 :: 46 :: 42 :: 180 :: 0 :: 18 :: 27 :: 46 :: 100 :: 184 :: 0 :: 47 :: 172 :: []
theorem sr_X0_squares_0 : fd_at cX0_squares 0 sl_X0_squares_0 := fd_base (by decide +kernel)
theorem dX0_squares_0 : decode cX0_squares 0 = .ok (.iconst 0, 1) := fo_3 sr_X0_squares_0
theorem dX0_squares_1 : decode cX0_squares 1 = .ok (.aload_n 0, 1) := fo_42 (fd_n 1 sr_X0_squares_0 rfl)
theorem dX0_squares_2 : decode cX0_squares 2 = .ok (.getfield 15, 3) := fo_180 (fd_n 2 sr_X0_squares_0 rfl) rfl
theorem dX0_squares_5 : decode cX0_squares 5 = .ok (.iload_n 1, 1) := fo_27 (fd_n 5 sr_X0_squares_0 rfl)
theorem dX0_squares_6 : decode cX0_squares 6 = .ok (.iaload, 1) := fo_46 (fd_n 6 sr_X0_squares_0 rfl)
theorem dX0_squares_7 : decode cX0_squares 7 = .ok (.aload_n 0, 1) := fo_42 (fd_n 7 sr_X0_squares_0 rfl)
theorem dX0_squares_8 : decode cX0_squares 8 = .ok (.getfield 18, 3) := fo_180 (fd_n 8 sr_X0_squares_0 rfl) rfl
theorem dX0_squares_11 : decode cX0_squares 11 = .ok (.iload_n 1, 1) := fo_27 (fd_n 11 sr_X0_squares_0 rfl)
theorem dX0_squares_12 : decode cX0_squares 12 = .ok (.iaload, 1) := fo_46 (fd_n 12 sr_X0_squares_0 rfl)
theorem dX0_squares_13 : decode cX0_squares 13 = .ok (.isub, 1) := fo_100 (fd_n 13 sr_X0_squares_0 rfl)
theorem dX0_squares_14 : decode cX0_squares 14 = .ok (.invokestatic 47, 3) := fo_184 (fd_n 14 sr_X0_squares_0 rfl) rfl
theorem dX0_squares_17 : decode cX0_squares 17 = .ok (.ireturn, 1) := fo_172 (fd_n 17 sr_X0_squares_0 rfl)
noncomputable def sl_X0_squareSet_1 : List UInt8 := 100 :: 172 :: []
noncomputable def sl_X0_squareSet_0 : List UInt8 := 42 :: 27 :: 182 :: 0 :: 50 :: 154 :: 0 :: 7 :: 3 :: 167 :: 0 :: 20 :: 4 :: 42 :: 180 :: 0 :: 15 :: 27 :: 46 :: 120 :: 4 :: 42 :: 180 :: 0 :: 18 :: 27 :: 46 :: 120 :: sl_X0_squareSet_1
theorem sr_X0_squareSet_0 : fd_at cX0_squareSet 0 sl_X0_squareSet_0 := fd_base (by decide +kernel)
theorem sr_X0_squareSet_1 : fd_at cX0_squareSet 28 sl_X0_squareSet_1 := fd_n 28 sr_X0_squareSet_0 rfl
theorem dX0_squareSet_0 : decode cX0_squareSet 0 = .ok (.aload_n 0, 1) := fo_42 sr_X0_squareSet_0
theorem dX0_squareSet_1 : decode cX0_squareSet 1 = .ok (.iload_n 1, 1) := fo_27 (fd_n 1 sr_X0_squareSet_0 rfl)
theorem dX0_squareSet_2 : decode cX0_squareSet 2 = .ok (.invokevirtual 50, 3) := fo_182 (fd_n 2 sr_X0_squareSet_0 rfl) rfl
theorem dX0_squareSet_5 : decode cX0_squareSet 5 = .ok (.ifCond .ne 7, 3) := fo_154 (fd_n 5 sr_X0_squareSet_0 rfl) (by decide +kernel)
theorem dX0_squareSet_8 : decode cX0_squareSet 8 = .ok (.iconst 0, 1) := fo_3 (fd_n 8 sr_X0_squareSet_0 rfl)
theorem dX0_squareSet_9 : decode cX0_squareSet 9 = .ok (.goto 20, 3) := fo_167 (fd_n 9 sr_X0_squareSet_0 rfl) (by decide +kernel)
theorem dX0_squareSet_12 : decode cX0_squareSet 12 = .ok (.iconst 1, 1) := fo_4 (fd_n 12 sr_X0_squareSet_0 rfl)
theorem dX0_squareSet_13 : decode cX0_squareSet 13 = .ok (.aload_n 0, 1) := fo_42 (fd_n 13 sr_X0_squareSet_0 rfl)
theorem dX0_squareSet_14 : decode cX0_squareSet 14 = .ok (.getfield 15, 3) := fo_180 (fd_n 14 sr_X0_squareSet_0 rfl) rfl
theorem dX0_squareSet_17 : decode cX0_squareSet 17 = .ok (.iload_n 1, 1) := fo_27 (fd_n 17 sr_X0_squareSet_0 rfl)
theorem dX0_squareSet_18 : decode cX0_squareSet 18 = .ok (.iaload, 1) := fo_46 (fd_n 18 sr_X0_squareSet_0 rfl)
theorem dX0_squareSet_19 : decode cX0_squareSet 19 = .ok (.ishl, 1) := fo_120 (fd_n 19 sr_X0_squareSet_0 rfl)
theorem dX0_squareSet_20 : decode cX0_squareSet 20 = .ok (.iconst 1, 1) := fo_4 (fd_n 20 sr_X0_squareSet_0 rfl)
theorem dX0_squareSet_21 : decode cX0_squareSet 21 = .ok (.aload_n 0, 1) := fo_42 (fd_n 21 sr_X0_squareSet_0 rfl)
theorem dX0_squareSet_22 : decode cX0_squareSet 22 = .ok (.getfield 18, 3) := fo_180 (fd_n 22 sr_X0_squareSet_0 rfl) rfl
theorem dX0_squareSet_25 : decode cX0_squareSet 25 = .ok (.iload_n 1, 1) := fo_27 (fd_n 25 sr_X0_squareSet_0 rfl)
theorem dX0_squareSet_26 : decode cX0_squareSet 26 = .ok (.iaload, 1) := fo_46 (fd_n 26 sr_X0_squareSet_0 rfl)
theorem dX0_squareSet_27 : decode cX0_squareSet 27 = .ok (.ishl, 1) := fo_120 (fd_n 27 sr_X0_squareSet_0 rfl)
theorem dX0_squareSet_28 : decode cX0_squareSet 28 = .ok (.isub, 1) := fo_100 sr_X0_squareSet_1
theorem dX0_squareSet_29 : decode cX0_squareSet 29 = .ok (.ireturn, 1) := fo_172 (fd_n 1 sr_X0_squareSet_1 rfl)
noncomputable def sl_X0_squaresInView_1 : List UInt8 := 167 :: 255 :: 238 :: 29 :: 172 :: []
noncomputable def sl_X0_squaresInView_0 : List UInt8 := 42 :: 43 :: 28 :: 182 :: 0 :: 53 :: 3 :: 62 :: 4 :: 54 :: 4 :: 21 :: 4 :: 7 :: 163 :: 0 :: 18 :: 29 :: 42 :: 21 :: 4 :: 182 :: 0 :: 50 :: 96 :: 62 :: 132 :: 4 :: 1 :: sl_X0_squaresInView_1
theorem sr_X0_squaresInView_0 : fd_at cX0_squaresInView 0 sl_X0_squaresInView_0 := fd_base (by decide +kernel)
theorem sr_X0_squaresInView_1 : fd_at cX0_squaresInView 29 sl_X0_squaresInView_1 := fd_n 29 sr_X0_squaresInView_0 rfl
theorem dX0_squaresInView_0 : decode cX0_squaresInView 0 = .ok (.aload_n 0, 1) := fo_42 sr_X0_squaresInView_0
theorem dX0_squaresInView_1 : decode cX0_squaresInView 1 = .ok (.aload_n 1, 1) := fo_43 (fd_n 1 sr_X0_squaresInView_0 rfl)
theorem dX0_squaresInView_2 : decode cX0_squaresInView 2 = .ok (.iload_n 2, 1) := fo_28 (fd_n 2 sr_X0_squaresInView_0 rfl)
theorem dX0_squaresInView_3 : decode cX0_squaresInView 3 = .ok (.invokevirtual 53, 3) := fo_182 (fd_n 3 sr_X0_squaresInView_0 rfl) rfl
theorem dX0_squaresInView_6 : decode cX0_squaresInView 6 = .ok (.iconst 0, 1) := fo_3 (fd_n 6 sr_X0_squaresInView_0 rfl)
theorem dX0_squaresInView_7 : decode cX0_squaresInView 7 = .ok (.istore_n 3, 1) := fo_62 (fd_n 7 sr_X0_squaresInView_0 rfl)
theorem dX0_squaresInView_8 : decode cX0_squaresInView 8 = .ok (.iconst 1, 1) := fo_4 (fd_n 8 sr_X0_squaresInView_0 rfl)
theorem dX0_squaresInView_9 : decode cX0_squaresInView 9 = .ok (.istore 4, 2) := fo_54 (fd_n 9 sr_X0_squaresInView_0 rfl) rfl
theorem dX0_squaresInView_11 : decode cX0_squaresInView 11 = .ok (.iload 4, 2) := fo_21 (fd_n 11 sr_X0_squaresInView_0 rfl) rfl
theorem dX0_squaresInView_13 : decode cX0_squaresInView 13 = .ok (.iconst 4, 1) := fo_7 (fd_n 13 sr_X0_squaresInView_0 rfl)
theorem dX0_squaresInView_14 : decode cX0_squaresInView 14 = .ok (.if_icmp .gt 18, 3) := fo_163 (fd_n 14 sr_X0_squaresInView_0 rfl) (by decide +kernel)
theorem dX0_squaresInView_17 : decode cX0_squaresInView 17 = .ok (.iload_n 3, 1) := fo_29 (fd_n 17 sr_X0_squaresInView_0 rfl)
theorem dX0_squaresInView_18 : decode cX0_squaresInView 18 = .ok (.aload_n 0, 1) := fo_42 (fd_n 18 sr_X0_squaresInView_0 rfl)
theorem dX0_squaresInView_19 : decode cX0_squaresInView 19 = .ok (.iload 4, 2) := fo_21 (fd_n 19 sr_X0_squaresInView_0 rfl) rfl
theorem dX0_squaresInView_21 : decode cX0_squaresInView 21 = .ok (.invokevirtual 50, 3) := fo_182 (fd_n 21 sr_X0_squaresInView_0 rfl) rfl
theorem dX0_squaresInView_24 : decode cX0_squaresInView 24 = .ok (.iadd, 1) := fo_96 (fd_n 24 sr_X0_squaresInView_0 rfl)
theorem dX0_squaresInView_25 : decode cX0_squaresInView 25 = .ok (.istore_n 3, 1) := fo_62 (fd_n 25 sr_X0_squaresInView_0 rfl)
theorem dX0_squaresInView_26 : decode cX0_squaresInView 26 = .ok (.iinc 4 1, 3) := fo_132 (fd_n 26 sr_X0_squaresInView_0 rfl) rfl (by decide +kernel)
theorem dX0_squaresInView_29 : decode cX0_squaresInView 29 = .ok (.goto (-18), 3) := fo_167 sr_X0_squaresInView_1 (by decide +kernel)
theorem dX0_squaresInView_32 : decode cX0_squaresInView 32 = .ok (.iload_n 3, 1) := fo_29 (fd_n 3 sr_X0_squaresInView_1 rfl)
theorem dX0_squaresInView_33 : decode cX0_squaresInView 33 = .ok (.ireturn, 1) := fo_172 (fd_n 4 sr_X0_squaresInView_1 rfl)
noncomputable def sl_X0_squaresInAllViews_1 : List UInt8 := 172 :: []
noncomputable def sl_X0_squaresInAllViews_0 : List UInt8 := 3 :: 61 :: 3 :: 62 :: 29 :: 43 :: 180 :: 0 :: 57 :: 162 :: 0 :: 18 :: 28 :: 42 :: 43 :: 29 :: 182 :: 0 :: 61 :: 96 :: 61 :: 132 :: 3 :: 1 :: 167 :: 255 :: 236 :: 28 :: sl_X0_squaresInAllViews_1
theorem sr_X0_squaresInAllViews_0 : fd_at cX0_squaresInAllViews 0 sl_X0_squaresInAllViews_0 := fd_base (by decide +kernel)
theorem sr_X0_squaresInAllViews_1 : fd_at cX0_squaresInAllViews 28 sl_X0_squaresInAllViews_1 := fd_n 28 sr_X0_squaresInAllViews_0 rfl
theorem dX0_squaresInAllViews_0 : decode cX0_squaresInAllViews 0 = .ok (.iconst 0, 1) := fo_3 sr_X0_squaresInAllViews_0
theorem dX0_squaresInAllViews_1 : decode cX0_squaresInAllViews 1 = .ok (.istore_n 2, 1) := fo_61 (fd_n 1 sr_X0_squaresInAllViews_0 rfl)
theorem dX0_squaresInAllViews_2 : decode cX0_squaresInAllViews 2 = .ok (.iconst 0, 1) := fo_3 (fd_n 2 sr_X0_squaresInAllViews_0 rfl)
theorem dX0_squaresInAllViews_3 : decode cX0_squaresInAllViews 3 = .ok (.istore_n 3, 1) := fo_62 (fd_n 3 sr_X0_squaresInAllViews_0 rfl)
theorem dX0_squaresInAllViews_4 : decode cX0_squaresInAllViews 4 = .ok (.iload_n 3, 1) := fo_29 (fd_n 4 sr_X0_squaresInAllViews_0 rfl)
theorem dX0_squaresInAllViews_5 : decode cX0_squaresInAllViews 5 = .ok (.aload_n 1, 1) := fo_43 (fd_n 5 sr_X0_squaresInAllViews_0 rfl)
theorem dX0_squaresInAllViews_6 : decode cX0_squaresInAllViews 6 = .ok (.getfield 57, 3) := fo_180 (fd_n 6 sr_X0_squaresInAllViews_0 rfl) rfl
theorem dX0_squaresInAllViews_9 : decode cX0_squaresInAllViews 9 = .ok (.if_icmp .ge 18, 3) := fo_162 (fd_n 9 sr_X0_squaresInAllViews_0 rfl) (by decide +kernel)
theorem dX0_squaresInAllViews_12 : decode cX0_squaresInAllViews 12 = .ok (.iload_n 2, 1) := fo_28 (fd_n 12 sr_X0_squaresInAllViews_0 rfl)
theorem dX0_squaresInAllViews_13 : decode cX0_squaresInAllViews 13 = .ok (.aload_n 0, 1) := fo_42 (fd_n 13 sr_X0_squaresInAllViews_0 rfl)
theorem dX0_squaresInAllViews_14 : decode cX0_squaresInAllViews 14 = .ok (.aload_n 1, 1) := fo_43 (fd_n 14 sr_X0_squaresInAllViews_0 rfl)
theorem dX0_squaresInAllViews_15 : decode cX0_squaresInAllViews 15 = .ok (.iload_n 3, 1) := fo_29 (fd_n 15 sr_X0_squaresInAllViews_0 rfl)
theorem dX0_squaresInAllViews_16 : decode cX0_squaresInAllViews 16 = .ok (.invokevirtual 61, 3) := fo_182 (fd_n 16 sr_X0_squaresInAllViews_0 rfl) rfl
theorem dX0_squaresInAllViews_19 : decode cX0_squaresInAllViews 19 = .ok (.iadd, 1) := fo_96 (fd_n 19 sr_X0_squaresInAllViews_0 rfl)
theorem dX0_squaresInAllViews_20 : decode cX0_squaresInAllViews 20 = .ok (.istore_n 2, 1) := fo_61 (fd_n 20 sr_X0_squaresInAllViews_0 rfl)
theorem dX0_squaresInAllViews_21 : decode cX0_squaresInAllViews 21 = .ok (.iinc 3 1, 3) := fo_132 (fd_n 21 sr_X0_squaresInAllViews_0 rfl) rfl (by decide +kernel)
theorem dX0_squaresInAllViews_24 : decode cX0_squaresInAllViews 24 = .ok (.goto (-20), 3) := fo_167 (fd_n 24 sr_X0_squaresInAllViews_0 rfl) (by decide +kernel)
theorem dX0_squaresInAllViews_27 : decode cX0_squaresInAllViews 27 = .ok (.iload_n 2, 1) := fo_28 (fd_n 27 sr_X0_squaresInAllViews_0 rfl)
theorem dX0_squaresInAllViews_28 : decode cX0_squaresInAllViews 28 = .ok (.ireturn, 1) := fo_172 sr_X0_squaresInAllViews_1
noncomputable def sl_X0_squaresOfOwner_2 : List UInt8 := 132 :: 5 :: 1 :: 167 :: 255 :: 208 :: 21 :: 4 :: 172 :: []
noncomputable def sl_X0_squaresOfOwner_1 : List UInt8 := 43 :: 180 :: 0 :: 65 :: 4 :: 50 :: 42 :: 180 :: 0 :: 9 :: 21 :: 5 :: 46 :: 46 :: 29 :: 160 :: 0 :: 14 :: 21 :: 4 :: 42 :: 21 :: 5 :: 182 :: 0 :: 50 :: 96 :: 54 :: 4 :: sl_X0_squaresOfOwner_2
noncomputable def sl_X0_squaresOfOwner_0 : List UInt8 := 42 :: 43 :: 28 :: 182 :: 0 :: 53 :: 3 :: 54 :: 4 :: 4 :: 54 :: 5 :: 21 :: 5 :: 7 :: 163 :: 0 :: 48 :: 42 :: 180 :: 0 :: 9 :: 21 :: 5 :: 46 :: 155 :: 0 :: 32 :: sl_X0_squaresOfOwner_1
theorem sr_X0_squaresOfOwner_0 : fd_at cX0_squaresOfOwner 0 sl_X0_squaresOfOwner_0 := fd_base (by decide +kernel)
theorem sr_X0_squaresOfOwner_1 : fd_at cX0_squaresOfOwner 28 sl_X0_squaresOfOwner_1 := fd_n 28 sr_X0_squaresOfOwner_0 rfl
theorem sr_X0_squaresOfOwner_2 : fd_at cX0_squaresOfOwner 57 sl_X0_squaresOfOwner_2 := fd_n 29 sr_X0_squaresOfOwner_1 rfl
theorem dX0_squaresOfOwner_0 : decode cX0_squaresOfOwner 0 = .ok (.aload_n 0, 1) := fo_42 sr_X0_squaresOfOwner_0
theorem dX0_squaresOfOwner_1 : decode cX0_squaresOfOwner 1 = .ok (.aload_n 1, 1) := fo_43 (fd_n 1 sr_X0_squaresOfOwner_0 rfl)
theorem dX0_squaresOfOwner_2 : decode cX0_squaresOfOwner 2 = .ok (.iload_n 2, 1) := fo_28 (fd_n 2 sr_X0_squaresOfOwner_0 rfl)
theorem dX0_squaresOfOwner_3 : decode cX0_squaresOfOwner 3 = .ok (.invokevirtual 53, 3) := fo_182 (fd_n 3 sr_X0_squaresOfOwner_0 rfl) rfl
theorem dX0_squaresOfOwner_6 : decode cX0_squaresOfOwner 6 = .ok (.iconst 0, 1) := fo_3 (fd_n 6 sr_X0_squaresOfOwner_0 rfl)
theorem dX0_squaresOfOwner_7 : decode cX0_squaresOfOwner 7 = .ok (.istore 4, 2) := fo_54 (fd_n 7 sr_X0_squaresOfOwner_0 rfl) rfl
theorem dX0_squaresOfOwner_9 : decode cX0_squaresOfOwner 9 = .ok (.iconst 1, 1) := fo_4 (fd_n 9 sr_X0_squaresOfOwner_0 rfl)
theorem dX0_squaresOfOwner_10 : decode cX0_squaresOfOwner 10 = .ok (.istore 5, 2) := fo_54 (fd_n 10 sr_X0_squaresOfOwner_0 rfl) rfl
theorem dX0_squaresOfOwner_12 : decode cX0_squaresOfOwner 12 = .ok (.iload 5, 2) := fo_21 (fd_n 12 sr_X0_squaresOfOwner_0 rfl) rfl
theorem dX0_squaresOfOwner_14 : decode cX0_squaresOfOwner 14 = .ok (.iconst 4, 1) := fo_7 (fd_n 14 sr_X0_squaresOfOwner_0 rfl)
theorem dX0_squaresOfOwner_15 : decode cX0_squaresOfOwner 15 = .ok (.if_icmp .gt 48, 3) := fo_163 (fd_n 15 sr_X0_squaresOfOwner_0 rfl) (by decide +kernel)
theorem dX0_squaresOfOwner_18 : decode cX0_squaresOfOwner 18 = .ok (.aload_n 0, 1) := fo_42 (fd_n 18 sr_X0_squaresOfOwner_0 rfl)
theorem dX0_squaresOfOwner_19 : decode cX0_squaresOfOwner 19 = .ok (.getfield 9, 3) := fo_180 (fd_n 19 sr_X0_squaresOfOwner_0 rfl) rfl
theorem dX0_squaresOfOwner_22 : decode cX0_squaresOfOwner 22 = .ok (.iload 5, 2) := fo_21 (fd_n 22 sr_X0_squaresOfOwner_0 rfl) rfl
theorem dX0_squaresOfOwner_24 : decode cX0_squaresOfOwner 24 = .ok (.iaload, 1) := fo_46 (fd_n 24 sr_X0_squaresOfOwner_0 rfl)
theorem dX0_squaresOfOwner_25 : decode cX0_squaresOfOwner 25 = .ok (.ifCond .lt 32, 3) := fo_155 (fd_n 25 sr_X0_squaresOfOwner_0 rfl) (by decide +kernel)
theorem dX0_squaresOfOwner_28 : decode cX0_squaresOfOwner 28 = .ok (.aload_n 1, 1) := fo_43 sr_X0_squaresOfOwner_1
theorem dX0_squaresOfOwner_29 : decode cX0_squaresOfOwner 29 = .ok (.getfield 65, 3) := fo_180 (fd_n 1 sr_X0_squaresOfOwner_1 rfl) rfl
theorem dX0_squaresOfOwner_32 : decode cX0_squaresOfOwner 32 = .ok (.iconst 1, 1) := fo_4 (fd_n 4 sr_X0_squaresOfOwner_1 rfl)
theorem dX0_squaresOfOwner_33 : decode cX0_squaresOfOwner 33 = .ok (.aaload, 1) := fo_50 (fd_n 5 sr_X0_squaresOfOwner_1 rfl)
theorem dX0_squaresOfOwner_34 : decode cX0_squaresOfOwner 34 = .ok (.aload_n 0, 1) := fo_42 (fd_n 6 sr_X0_squaresOfOwner_1 rfl)
theorem dX0_squaresOfOwner_35 : decode cX0_squaresOfOwner 35 = .ok (.getfield 9, 3) := fo_180 (fd_n 7 sr_X0_squaresOfOwner_1 rfl) rfl
theorem dX0_squaresOfOwner_38 : decode cX0_squaresOfOwner 38 = .ok (.iload 5, 2) := fo_21 (fd_n 10 sr_X0_squaresOfOwner_1 rfl) rfl
theorem dX0_squaresOfOwner_40 : decode cX0_squaresOfOwner 40 = .ok (.iaload, 1) := fo_46 (fd_n 12 sr_X0_squaresOfOwner_1 rfl)
theorem dX0_squaresOfOwner_41 : decode cX0_squaresOfOwner 41 = .ok (.iaload, 1) := fo_46 (fd_n 13 sr_X0_squaresOfOwner_1 rfl)
theorem dX0_squaresOfOwner_42 : decode cX0_squaresOfOwner 42 = .ok (.iload_n 3, 1) := fo_29 (fd_n 14 sr_X0_squaresOfOwner_1 rfl)
theorem dX0_squaresOfOwner_43 : decode cX0_squaresOfOwner 43 = .ok (.if_icmp .ne 14, 3) := fo_160 (fd_n 15 sr_X0_squaresOfOwner_1 rfl) (by decide +kernel)
theorem dX0_squaresOfOwner_46 : decode cX0_squaresOfOwner 46 = .ok (.iload 4, 2) := fo_21 (fd_n 18 sr_X0_squaresOfOwner_1 rfl) rfl
theorem dX0_squaresOfOwner_48 : decode cX0_squaresOfOwner 48 = .ok (.aload_n 0, 1) := fo_42 (fd_n 20 sr_X0_squaresOfOwner_1 rfl)
theorem dX0_squaresOfOwner_49 : decode cX0_squaresOfOwner 49 = .ok (.iload 5, 2) := fo_21 (fd_n 21 sr_X0_squaresOfOwner_1 rfl) rfl
theorem dX0_squaresOfOwner_51 : decode cX0_squaresOfOwner 51 = .ok (.invokevirtual 50, 3) := fo_182 (fd_n 23 sr_X0_squaresOfOwner_1 rfl) rfl
theorem dX0_squaresOfOwner_54 : decode cX0_squaresOfOwner 54 = .ok (.iadd, 1) := fo_96 (fd_n 26 sr_X0_squaresOfOwner_1 rfl)
theorem dX0_squaresOfOwner_55 : decode cX0_squaresOfOwner 55 = .ok (.istore 4, 2) := fo_54 (fd_n 27 sr_X0_squaresOfOwner_1 rfl) rfl
theorem dX0_squaresOfOwner_57 : decode cX0_squaresOfOwner 57 = .ok (.iinc 5 1, 3) := fo_132 sr_X0_squaresOfOwner_2 rfl (by decide +kernel)
theorem dX0_squaresOfOwner_60 : decode cX0_squaresOfOwner 60 = .ok (.goto (-48), 3) := fo_167 (fd_n 3 sr_X0_squaresOfOwner_2 rfl) (by decide +kernel)
theorem dX0_squaresOfOwner_63 : decode cX0_squaresOfOwner 63 = .ok (.iload 4, 2) := fo_21 (fd_n 6 sr_X0_squaresOfOwner_2 rfl) rfl
theorem dX0_squaresOfOwner_65 : decode cX0_squaresOfOwner 65 = .ok (.ireturn, 1) := fo_172 (fd_n 8 sr_X0_squaresOfOwner_2 rfl)
noncomputable def sl_X0_lotSet_1 : List UInt8 := 21 :: 4 :: 182 :: 0 :: 50 :: 158 :: 0 :: 15 :: 29 :: 4 :: 42 :: 180 :: 0 :: 9 :: 21 :: 4 :: 46 :: 120 :: 128 :: 62 :: 132 :: 4 :: 1 :: 167 :: 255 :: 216 :: 29 :: 172 :: []
noncomputable def sl_X0_lotSet_0 : List UInt8 := 42 :: 43 :: 28 :: 182 :: 0 :: 53 :: 3 :: 62 :: 4 :: 54 :: 4 :: 21 :: 4 :: 7 :: 163 :: 0 :: 40 :: 42 :: 180 :: 0 :: 9 :: 21 :: 4 :: 46 :: 155 :: 0 :: 24 :: 42 :: sl_X0_lotSet_1
theorem sr_X0_lotSet_0 : fd_at cX0_lotSet 0 sl_X0_lotSet_0 := fd_base (by decide +kernel)
theorem sr_X0_lotSet_1 : fd_at cX0_lotSet 28 sl_X0_lotSet_1 := fd_n 28 sr_X0_lotSet_0 rfl
theorem dX0_lotSet_0 : decode cX0_lotSet 0 = .ok (.aload_n 0, 1) := fo_42 sr_X0_lotSet_0
theorem dX0_lotSet_1 : decode cX0_lotSet 1 = .ok (.aload_n 1, 1) := fo_43 (fd_n 1 sr_X0_lotSet_0 rfl)
theorem dX0_lotSet_2 : decode cX0_lotSet 2 = .ok (.iload_n 2, 1) := fo_28 (fd_n 2 sr_X0_lotSet_0 rfl)
theorem dX0_lotSet_3 : decode cX0_lotSet 3 = .ok (.invokevirtual 53, 3) := fo_182 (fd_n 3 sr_X0_lotSet_0 rfl) rfl
theorem dX0_lotSet_6 : decode cX0_lotSet 6 = .ok (.iconst 0, 1) := fo_3 (fd_n 6 sr_X0_lotSet_0 rfl)
theorem dX0_lotSet_7 : decode cX0_lotSet 7 = .ok (.istore_n 3, 1) := fo_62 (fd_n 7 sr_X0_lotSet_0 rfl)
theorem dX0_lotSet_8 : decode cX0_lotSet 8 = .ok (.iconst 1, 1) := fo_4 (fd_n 8 sr_X0_lotSet_0 rfl)
theorem dX0_lotSet_9 : decode cX0_lotSet 9 = .ok (.istore 4, 2) := fo_54 (fd_n 9 sr_X0_lotSet_0 rfl) rfl
theorem dX0_lotSet_11 : decode cX0_lotSet 11 = .ok (.iload 4, 2) := fo_21 (fd_n 11 sr_X0_lotSet_0 rfl) rfl
theorem dX0_lotSet_13 : decode cX0_lotSet 13 = .ok (.iconst 4, 1) := fo_7 (fd_n 13 sr_X0_lotSet_0 rfl)
theorem dX0_lotSet_14 : decode cX0_lotSet 14 = .ok (.if_icmp .gt 40, 3) := fo_163 (fd_n 14 sr_X0_lotSet_0 rfl) (by decide +kernel)
theorem dX0_lotSet_17 : decode cX0_lotSet 17 = .ok (.aload_n 0, 1) := fo_42 (fd_n 17 sr_X0_lotSet_0 rfl)
theorem dX0_lotSet_18 : decode cX0_lotSet 18 = .ok (.getfield 9, 3) := fo_180 (fd_n 18 sr_X0_lotSet_0 rfl) rfl
theorem dX0_lotSet_21 : decode cX0_lotSet 21 = .ok (.iload 4, 2) := fo_21 (fd_n 21 sr_X0_lotSet_0 rfl) rfl
theorem dX0_lotSet_23 : decode cX0_lotSet 23 = .ok (.iaload, 1) := fo_46 (fd_n 23 sr_X0_lotSet_0 rfl)
theorem dX0_lotSet_24 : decode cX0_lotSet 24 = .ok (.ifCond .lt 24, 3) := fo_155 (fd_n 24 sr_X0_lotSet_0 rfl) (by decide +kernel)
theorem dX0_lotSet_27 : decode cX0_lotSet 27 = .ok (.aload_n 0, 1) := fo_42 (fd_n 27 sr_X0_lotSet_0 rfl)
theorem dX0_lotSet_28 : decode cX0_lotSet 28 = .ok (.iload 4, 2) := fo_21 sr_X0_lotSet_1 rfl
theorem dX0_lotSet_30 : decode cX0_lotSet 30 = .ok (.invokevirtual 50, 3) := fo_182 (fd_n 2 sr_X0_lotSet_1 rfl) rfl
theorem dX0_lotSet_33 : decode cX0_lotSet 33 = .ok (.ifCond .le 15, 3) := fo_158 (fd_n 5 sr_X0_lotSet_1 rfl) (by decide +kernel)
theorem dX0_lotSet_36 : decode cX0_lotSet 36 = .ok (.iload_n 3, 1) := fo_29 (fd_n 8 sr_X0_lotSet_1 rfl)
theorem dX0_lotSet_37 : decode cX0_lotSet 37 = .ok (.iconst 1, 1) := fo_4 (fd_n 9 sr_X0_lotSet_1 rfl)
theorem dX0_lotSet_38 : decode cX0_lotSet 38 = .ok (.aload_n 0, 1) := fo_42 (fd_n 10 sr_X0_lotSet_1 rfl)
theorem dX0_lotSet_39 : decode cX0_lotSet 39 = .ok (.getfield 9, 3) := fo_180 (fd_n 11 sr_X0_lotSet_1 rfl) rfl
theorem dX0_lotSet_42 : decode cX0_lotSet 42 = .ok (.iload 4, 2) := fo_21 (fd_n 14 sr_X0_lotSet_1 rfl) rfl
theorem dX0_lotSet_44 : decode cX0_lotSet 44 = .ok (.iaload, 1) := fo_46 (fd_n 16 sr_X0_lotSet_1 rfl)
theorem dX0_lotSet_45 : decode cX0_lotSet 45 = .ok (.ishl, 1) := fo_120 (fd_n 17 sr_X0_lotSet_1 rfl)
theorem dX0_lotSet_46 : decode cX0_lotSet 46 = .ok (.ior, 1) := fo_128 (fd_n 18 sr_X0_lotSet_1 rfl)
theorem dX0_lotSet_47 : decode cX0_lotSet 47 = .ok (.istore_n 3, 1) := fo_62 (fd_n 19 sr_X0_lotSet_1 rfl)
theorem dX0_lotSet_48 : decode cX0_lotSet 48 = .ok (.iinc 4 1, 3) := fo_132 (fd_n 20 sr_X0_lotSet_1 rfl) rfl (by decide +kernel)
theorem dX0_lotSet_51 : decode cX0_lotSet 51 = .ok (.goto (-40), 3) := fo_167 (fd_n 23 sr_X0_lotSet_1 rfl) (by decide +kernel)
theorem dX0_lotSet_54 : decode cX0_lotSet 54 = .ok (.iload_n 3, 1) := fo_29 (fd_n 26 sr_X0_lotSet_1 rfl)
theorem dX0_lotSet_55 : decode cX0_lotSet 55 = .ok (.ireturn, 1) := fo_172 (fd_n 27 sr_X0_lotSet_1 rfl)
noncomputable def sl_X0_pay_3 : List UInt8 := 96 :: 79 :: 21 :: 5 :: 21 :: 8 :: 96 :: 54 :: 5 :: 132 :: 6 :: 1 :: 167 :: 255 :: 181 :: 45 :: 21 :: 4 :: 92 :: 46 :: 21 :: 5 :: 100 :: 79 :: 21 :: 5 :: 172 :: []
noncomputable def sl_X0_pay_2 : List UInt8 := 42 :: 21 :: 6 :: 182 :: 0 :: 50 :: 43 :: 21 :: 7 :: 182 :: 0 :: 68 :: 104 :: 54 :: 8 :: 45 :: 43 :: 180 :: 0 :: 65 :: 4 :: 50 :: 21 :: 7 :: 46 :: 92 :: 46 :: 21 :: 8 :: sl_X0_pay_3
noncomputable def sl_X0_pay_1 : List UInt8 := 42 :: 180 :: 0 :: 9 :: 21 :: 6 :: 46 :: 54 :: 7 :: 21 :: 7 :: 155 :: 0 :: 55 :: 43 :: 180 :: 0 :: 65 :: 4 :: 50 :: 21 :: 7 :: 46 :: 21 :: 4 :: 159 :: 0 :: 41 :: sl_X0_pay_2
noncomputable def sl_X0_pay_0 : List UInt8 := 42 :: 43 :: 28 :: 182 :: 0 :: 53 :: 43 :: 180 :: 0 :: 21 :: 6 :: 50 :: 28 :: 46 :: 54 :: 4 :: 3 :: 54 :: 5 :: 4 :: 54 :: 6 :: 21 :: 6 :: 7 :: 163 :: 0 :: 75 :: sl_X0_pay_1
theorem sr_X0_pay_0 : fd_at cX0_pay 0 sl_X0_pay_0 := fd_base (by decide +kernel)
theorem sr_X0_pay_1 : fd_at cX0_pay 28 sl_X0_pay_1 := fd_n 28 sr_X0_pay_0 rfl
theorem sr_X0_pay_2 : fd_at cX0_pay 56 sl_X0_pay_2 := fd_n 28 sr_X0_pay_1 rfl
theorem sr_X0_pay_3 : fd_at cX0_pay 85 sl_X0_pay_3 := fd_n 29 sr_X0_pay_2 rfl
theorem dX0_pay_0 : decode cX0_pay 0 = .ok (.aload_n 0, 1) := fo_42 sr_X0_pay_0
theorem dX0_pay_1 : decode cX0_pay 1 = .ok (.aload_n 1, 1) := fo_43 (fd_n 1 sr_X0_pay_0 rfl)
theorem dX0_pay_2 : decode cX0_pay 2 = .ok (.iload_n 2, 1) := fo_28 (fd_n 2 sr_X0_pay_0 rfl)
theorem dX0_pay_3 : decode cX0_pay 3 = .ok (.invokevirtual 53, 3) := fo_182 (fd_n 3 sr_X0_pay_0 rfl) rfl
theorem dX0_pay_6 : decode cX0_pay 6 = .ok (.aload_n 1, 1) := fo_43 (fd_n 6 sr_X0_pay_0 rfl)
theorem dX0_pay_7 : decode cX0_pay 7 = .ok (.getfield 21, 3) := fo_180 (fd_n 7 sr_X0_pay_0 rfl) rfl
theorem dX0_pay_10 : decode cX0_pay 10 = .ok (.iconst 3, 1) := fo_6 (fd_n 10 sr_X0_pay_0 rfl)
theorem dX0_pay_11 : decode cX0_pay 11 = .ok (.aaload, 1) := fo_50 (fd_n 11 sr_X0_pay_0 rfl)
theorem dX0_pay_12 : decode cX0_pay 12 = .ok (.iload_n 2, 1) := fo_28 (fd_n 12 sr_X0_pay_0 rfl)
theorem dX0_pay_13 : decode cX0_pay 13 = .ok (.iaload, 1) := fo_46 (fd_n 13 sr_X0_pay_0 rfl)
theorem dX0_pay_14 : decode cX0_pay 14 = .ok (.istore 4, 2) := fo_54 (fd_n 14 sr_X0_pay_0 rfl) rfl
theorem dX0_pay_16 : decode cX0_pay 16 = .ok (.iconst 0, 1) := fo_3 (fd_n 16 sr_X0_pay_0 rfl)
theorem dX0_pay_17 : decode cX0_pay 17 = .ok (.istore 5, 2) := fo_54 (fd_n 17 sr_X0_pay_0 rfl) rfl
theorem dX0_pay_19 : decode cX0_pay 19 = .ok (.iconst 1, 1) := fo_4 (fd_n 19 sr_X0_pay_0 rfl)
theorem dX0_pay_20 : decode cX0_pay 20 = .ok (.istore 6, 2) := fo_54 (fd_n 20 sr_X0_pay_0 rfl) rfl
theorem dX0_pay_22 : decode cX0_pay 22 = .ok (.iload 6, 2) := fo_21 (fd_n 22 sr_X0_pay_0 rfl) rfl
theorem dX0_pay_24 : decode cX0_pay 24 = .ok (.iconst 4, 1) := fo_7 (fd_n 24 sr_X0_pay_0 rfl)
theorem dX0_pay_25 : decode cX0_pay 25 = .ok (.if_icmp .gt 75, 3) := fo_163 (fd_n 25 sr_X0_pay_0 rfl) (by decide +kernel)
theorem dX0_pay_28 : decode cX0_pay 28 = .ok (.aload_n 0, 1) := fo_42 sr_X0_pay_1
theorem dX0_pay_29 : decode cX0_pay 29 = .ok (.getfield 9, 3) := fo_180 (fd_n 1 sr_X0_pay_1 rfl) rfl
theorem dX0_pay_32 : decode cX0_pay 32 = .ok (.iload 6, 2) := fo_21 (fd_n 4 sr_X0_pay_1 rfl) rfl
theorem dX0_pay_34 : decode cX0_pay 34 = .ok (.iaload, 1) := fo_46 (fd_n 6 sr_X0_pay_1 rfl)
theorem dX0_pay_35 : decode cX0_pay 35 = .ok (.istore 7, 2) := fo_54 (fd_n 7 sr_X0_pay_1 rfl) rfl
theorem dX0_pay_37 : decode cX0_pay 37 = .ok (.iload 7, 2) := fo_21 (fd_n 9 sr_X0_pay_1 rfl) rfl
theorem dX0_pay_39 : decode cX0_pay 39 = .ok (.ifCond .lt 55, 3) := fo_155 (fd_n 11 sr_X0_pay_1 rfl) (by decide +kernel)
theorem dX0_pay_42 : decode cX0_pay 42 = .ok (.aload_n 1, 1) := fo_43 (fd_n 14 sr_X0_pay_1 rfl)
theorem dX0_pay_43 : decode cX0_pay 43 = .ok (.getfield 65, 3) := fo_180 (fd_n 15 sr_X0_pay_1 rfl) rfl
theorem dX0_pay_46 : decode cX0_pay 46 = .ok (.iconst 1, 1) := fo_4 (fd_n 18 sr_X0_pay_1 rfl)
theorem dX0_pay_47 : decode cX0_pay 47 = .ok (.aaload, 1) := fo_50 (fd_n 19 sr_X0_pay_1 rfl)
theorem dX0_pay_48 : decode cX0_pay 48 = .ok (.iload 7, 2) := fo_21 (fd_n 20 sr_X0_pay_1 rfl) rfl
theorem dX0_pay_50 : decode cX0_pay 50 = .ok (.iaload, 1) := fo_46 (fd_n 22 sr_X0_pay_1 rfl)
theorem dX0_pay_51 : decode cX0_pay 51 = .ok (.iload 4, 2) := fo_21 (fd_n 23 sr_X0_pay_1 rfl) rfl
theorem dX0_pay_53 : decode cX0_pay 53 = .ok (.if_icmp .eq 41, 3) := fo_159 (fd_n 25 sr_X0_pay_1 rfl) (by decide +kernel)
theorem dX0_pay_56 : decode cX0_pay 56 = .ok (.aload_n 0, 1) := fo_42 sr_X0_pay_2
theorem dX0_pay_57 : decode cX0_pay 57 = .ok (.iload 6, 2) := fo_21 (fd_n 1 sr_X0_pay_2 rfl) rfl
theorem dX0_pay_59 : decode cX0_pay 59 = .ok (.invokevirtual 50, 3) := fo_182 (fd_n 3 sr_X0_pay_2 rfl) rfl
theorem dX0_pay_62 : decode cX0_pay 62 = .ok (.aload_n 1, 1) := fo_43 (fd_n 6 sr_X0_pay_2 rfl)
theorem dX0_pay_63 : decode cX0_pay 63 = .ok (.iload 7, 2) := fo_21 (fd_n 7 sr_X0_pay_2 rfl) rfl
theorem dX0_pay_65 : decode cX0_pay 65 = .ok (.invokevirtual 68, 3) := fo_182 (fd_n 9 sr_X0_pay_2 rfl) rfl
theorem dX0_pay_68 : decode cX0_pay 68 = .ok (.imul, 1) := fo_104 (fd_n 12 sr_X0_pay_2 rfl)
theorem dX0_pay_69 : decode cX0_pay 69 = .ok (.istore 8, 2) := fo_54 (fd_n 13 sr_X0_pay_2 rfl) rfl
theorem dX0_pay_71 : decode cX0_pay 71 = .ok (.aload_n 3, 1) := fo_45 (fd_n 15 sr_X0_pay_2 rfl)
theorem dX0_pay_72 : decode cX0_pay 72 = .ok (.aload_n 1, 1) := fo_43 (fd_n 16 sr_X0_pay_2 rfl)
theorem dX0_pay_73 : decode cX0_pay 73 = .ok (.getfield 65, 3) := fo_180 (fd_n 17 sr_X0_pay_2 rfl) rfl
theorem dX0_pay_76 : decode cX0_pay 76 = .ok (.iconst 1, 1) := fo_4 (fd_n 20 sr_X0_pay_2 rfl)
theorem dX0_pay_77 : decode cX0_pay 77 = .ok (.aaload, 1) := fo_50 (fd_n 21 sr_X0_pay_2 rfl)
theorem dX0_pay_78 : decode cX0_pay 78 = .ok (.iload 7, 2) := fo_21 (fd_n 22 sr_X0_pay_2 rfl) rfl
theorem dX0_pay_80 : decode cX0_pay 80 = .ok (.iaload, 1) := fo_46 (fd_n 24 sr_X0_pay_2 rfl)
theorem dX0_pay_81 : decode cX0_pay 81 = .ok (.dup2, 1) := fo_92 (fd_n 25 sr_X0_pay_2 rfl)
theorem dX0_pay_82 : decode cX0_pay 82 = .ok (.iaload, 1) := fo_46 (fd_n 26 sr_X0_pay_2 rfl)
theorem dX0_pay_83 : decode cX0_pay 83 = .ok (.iload 8, 2) := fo_21 (fd_n 27 sr_X0_pay_2 rfl) rfl
theorem dX0_pay_85 : decode cX0_pay 85 = .ok (.iadd, 1) := fo_96 sr_X0_pay_3
theorem dX0_pay_86 : decode cX0_pay 86 = .ok (.iastore, 1) := fo_79 (fd_n 1 sr_X0_pay_3 rfl)
theorem dX0_pay_87 : decode cX0_pay 87 = .ok (.iload 5, 2) := fo_21 (fd_n 2 sr_X0_pay_3 rfl) rfl
theorem dX0_pay_89 : decode cX0_pay 89 = .ok (.iload 8, 2) := fo_21 (fd_n 4 sr_X0_pay_3 rfl) rfl
theorem dX0_pay_91 : decode cX0_pay 91 = .ok (.iadd, 1) := fo_96 (fd_n 6 sr_X0_pay_3 rfl)
theorem dX0_pay_92 : decode cX0_pay 92 = .ok (.istore 5, 2) := fo_54 (fd_n 7 sr_X0_pay_3 rfl) rfl
theorem dX0_pay_94 : decode cX0_pay 94 = .ok (.iinc 6 1, 3) := fo_132 (fd_n 9 sr_X0_pay_3 rfl) rfl (by decide +kernel)
theorem dX0_pay_97 : decode cX0_pay 97 = .ok (.goto (-75), 3) := fo_167 (fd_n 12 sr_X0_pay_3 rfl) (by decide +kernel)
theorem dX0_pay_100 : decode cX0_pay 100 = .ok (.aload_n 3, 1) := fo_45 (fd_n 15 sr_X0_pay_3 rfl)
theorem dX0_pay_101 : decode cX0_pay 101 = .ok (.iload 4, 2) := fo_21 (fd_n 16 sr_X0_pay_3 rfl) rfl
theorem dX0_pay_103 : decode cX0_pay 103 = .ok (.dup2, 1) := fo_92 (fd_n 18 sr_X0_pay_3 rfl)
theorem dX0_pay_104 : decode cX0_pay 104 = .ok (.iaload, 1) := fo_46 (fd_n 19 sr_X0_pay_3 rfl)
theorem dX0_pay_105 : decode cX0_pay 105 = .ok (.iload 5, 2) := fo_21 (fd_n 20 sr_X0_pay_3 rfl) rfl
theorem dX0_pay_107 : decode cX0_pay 107 = .ok (.isub, 1) := fo_100 (fd_n 22 sr_X0_pay_3 rfl)
theorem dX0_pay_108 : decode cX0_pay 108 = .ok (.iastore, 1) := fo_79 (fd_n 23 sr_X0_pay_3 rfl)
theorem dX0_pay_109 : decode cX0_pay 109 = .ok (.iload 5, 2) := fo_21 (fd_n 24 sr_X0_pay_3 rfl) rfl
theorem dX0_pay_111 : decode cX0_pay 111 = .ok (.ireturn, 1) := fo_172 (fd_n 26 sr_X0_pay_3 rfl)
noncomputable def sl_X0_payAll_1 : List UInt8 := 167 :: 255 :: 232 :: 28 :: 172 :: []
noncomputable def sl_X0_payAll_0 : List UInt8 := 3 :: 61 :: 3 :: 62 :: 29 :: 43 :: 180 :: 0 :: 57 :: 162 :: 0 :: 22 :: 28 :: 42 :: 43 :: 29 :: 43 :: 180 :: 0 :: 71 :: 182 :: 0 :: 74 :: 96 :: 61 :: 132 :: 3 :: 1 :: sl_X0_payAll_1
theorem sr_X0_payAll_0 : fd_at cX0_payAll 0 sl_X0_payAll_0 := fd_base (by decide +kernel)
theorem sr_X0_payAll_1 : fd_at cX0_payAll 28 sl_X0_payAll_1 := fd_n 28 sr_X0_payAll_0 rfl
theorem dX0_payAll_0 : decode cX0_payAll 0 = .ok (.iconst 0, 1) := fo_3 sr_X0_payAll_0
theorem dX0_payAll_1 : decode cX0_payAll 1 = .ok (.istore_n 2, 1) := fo_61 (fd_n 1 sr_X0_payAll_0 rfl)
theorem dX0_payAll_2 : decode cX0_payAll 2 = .ok (.iconst 0, 1) := fo_3 (fd_n 2 sr_X0_payAll_0 rfl)
theorem dX0_payAll_3 : decode cX0_payAll 3 = .ok (.istore_n 3, 1) := fo_62 (fd_n 3 sr_X0_payAll_0 rfl)
theorem dX0_payAll_4 : decode cX0_payAll 4 = .ok (.iload_n 3, 1) := fo_29 (fd_n 4 sr_X0_payAll_0 rfl)
theorem dX0_payAll_5 : decode cX0_payAll 5 = .ok (.aload_n 1, 1) := fo_43 (fd_n 5 sr_X0_payAll_0 rfl)
theorem dX0_payAll_6 : decode cX0_payAll 6 = .ok (.getfield 57, 3) := fo_180 (fd_n 6 sr_X0_payAll_0 rfl) rfl
theorem dX0_payAll_9 : decode cX0_payAll 9 = .ok (.if_icmp .ge 22, 3) := fo_162 (fd_n 9 sr_X0_payAll_0 rfl) (by decide +kernel)
theorem dX0_payAll_12 : decode cX0_payAll 12 = .ok (.iload_n 2, 1) := fo_28 (fd_n 12 sr_X0_payAll_0 rfl)
theorem dX0_payAll_13 : decode cX0_payAll 13 = .ok (.aload_n 0, 1) := fo_42 (fd_n 13 sr_X0_payAll_0 rfl)
theorem dX0_payAll_14 : decode cX0_payAll 14 = .ok (.aload_n 1, 1) := fo_43 (fd_n 14 sr_X0_payAll_0 rfl)
theorem dX0_payAll_15 : decode cX0_payAll 15 = .ok (.iload_n 3, 1) := fo_29 (fd_n 15 sr_X0_payAll_0 rfl)
theorem dX0_payAll_16 : decode cX0_payAll 16 = .ok (.aload_n 1, 1) := fo_43 (fd_n 16 sr_X0_payAll_0 rfl)
theorem dX0_payAll_17 : decode cX0_payAll 17 = .ok (.getfield 71, 3) := fo_180 (fd_n 17 sr_X0_payAll_0 rfl) rfl
theorem dX0_payAll_20 : decode cX0_payAll 20 = .ok (.invokevirtual 74, 3) := fo_182 (fd_n 20 sr_X0_payAll_0 rfl) rfl
theorem dX0_payAll_23 : decode cX0_payAll 23 = .ok (.iadd, 1) := fo_96 (fd_n 23 sr_X0_payAll_0 rfl)
theorem dX0_payAll_24 : decode cX0_payAll 24 = .ok (.istore_n 2, 1) := fo_61 (fd_n 24 sr_X0_payAll_0 rfl)
theorem dX0_payAll_25 : decode cX0_payAll 25 = .ok (.iinc 3 1, 3) := fo_132 (fd_n 25 sr_X0_payAll_0 rfl) rfl (by decide +kernel)
theorem dX0_payAll_28 : decode cX0_payAll 28 = .ok (.goto (-24), 3) := fo_167 sr_X0_payAll_1 (by decide +kernel)
theorem dX0_payAll_31 : decode cX0_payAll 31 = .ok (.iload_n 2, 1) := fo_28 (fd_n 3 sr_X0_payAll_1 rfl)
theorem dX0_payAll_32 : decode cX0_payAll 32 = .ok (.ireturn, 1) := fo_172 (fd_n 4 sr_X0_payAll_1 rfl)
noncomputable def sl_X0_gainsInto_1 : List UInt8 := 162 :: 0 :: 20 :: 29 :: 42 :: 43 :: 21 :: 4 :: 44 :: 182 :: 0 :: 74 :: 96 :: 62 :: 132 :: 4 :: 1 :: 167 :: 255 :: 233 :: 29 :: 172 :: []
noncomputable def sl_X0_gainsInto_0 : List UInt8 := 3 :: 62 :: 29 :: 7 :: 162 :: 0 :: 13 :: 44 :: 29 :: 3 :: 79 :: 132 :: 3 :: 1 :: 167 :: 255 :: 244 :: 3 :: 62 :: 3 :: 54 :: 4 :: 21 :: 4 :: 43 :: 180 :: 0 :: 57 :: sl_X0_gainsInto_1
theorem sr_X0_gainsInto_0 : fd_at cX0_gainsInto 0 sl_X0_gainsInto_0 := fd_base (by decide +kernel)
theorem sr_X0_gainsInto_1 : fd_at cX0_gainsInto 28 sl_X0_gainsInto_1 := fd_n 28 sr_X0_gainsInto_0 rfl
theorem dX0_gainsInto_0 : decode cX0_gainsInto 0 = .ok (.iconst 0, 1) := fo_3 sr_X0_gainsInto_0
theorem dX0_gainsInto_1 : decode cX0_gainsInto 1 = .ok (.istore_n 3, 1) := fo_62 (fd_n 1 sr_X0_gainsInto_0 rfl)
theorem dX0_gainsInto_2 : decode cX0_gainsInto 2 = .ok (.iload_n 3, 1) := fo_29 (fd_n 2 sr_X0_gainsInto_0 rfl)
theorem dX0_gainsInto_3 : decode cX0_gainsInto 3 = .ok (.iconst 4, 1) := fo_7 (fd_n 3 sr_X0_gainsInto_0 rfl)
theorem dX0_gainsInto_4 : decode cX0_gainsInto 4 = .ok (.if_icmp .ge 13, 3) := fo_162 (fd_n 4 sr_X0_gainsInto_0 rfl) (by decide +kernel)
theorem dX0_gainsInto_7 : decode cX0_gainsInto 7 = .ok (.aload_n 2, 1) := fo_44 (fd_n 7 sr_X0_gainsInto_0 rfl)
theorem dX0_gainsInto_8 : decode cX0_gainsInto 8 = .ok (.iload_n 3, 1) := fo_29 (fd_n 8 sr_X0_gainsInto_0 rfl)
theorem dX0_gainsInto_9 : decode cX0_gainsInto 9 = .ok (.iconst 0, 1) := fo_3 (fd_n 9 sr_X0_gainsInto_0 rfl)
theorem dX0_gainsInto_10 : decode cX0_gainsInto 10 = .ok (.iastore, 1) := fo_79 (fd_n 10 sr_X0_gainsInto_0 rfl)
theorem dX0_gainsInto_11 : decode cX0_gainsInto 11 = .ok (.iinc 3 1, 3) := fo_132 (fd_n 11 sr_X0_gainsInto_0 rfl) rfl (by decide +kernel)
theorem dX0_gainsInto_14 : decode cX0_gainsInto 14 = .ok (.goto (-12), 3) := fo_167 (fd_n 14 sr_X0_gainsInto_0 rfl) (by decide +kernel)
theorem dX0_gainsInto_17 : decode cX0_gainsInto 17 = .ok (.iconst 0, 1) := fo_3 (fd_n 17 sr_X0_gainsInto_0 rfl)
theorem dX0_gainsInto_18 : decode cX0_gainsInto 18 = .ok (.istore_n 3, 1) := fo_62 (fd_n 18 sr_X0_gainsInto_0 rfl)
theorem dX0_gainsInto_19 : decode cX0_gainsInto 19 = .ok (.iconst 0, 1) := fo_3 (fd_n 19 sr_X0_gainsInto_0 rfl)
theorem dX0_gainsInto_20 : decode cX0_gainsInto 20 = .ok (.istore 4, 2) := fo_54 (fd_n 20 sr_X0_gainsInto_0 rfl) rfl
theorem dX0_gainsInto_22 : decode cX0_gainsInto 22 = .ok (.iload 4, 2) := fo_21 (fd_n 22 sr_X0_gainsInto_0 rfl) rfl
theorem dX0_gainsInto_24 : decode cX0_gainsInto 24 = .ok (.aload_n 1, 1) := fo_43 (fd_n 24 sr_X0_gainsInto_0 rfl)
theorem dX0_gainsInto_25 : decode cX0_gainsInto 25 = .ok (.getfield 57, 3) := fo_180 (fd_n 25 sr_X0_gainsInto_0 rfl) rfl
theorem dX0_gainsInto_28 : decode cX0_gainsInto 28 = .ok (.if_icmp .ge 20, 3) := fo_162 sr_X0_gainsInto_1 (by decide +kernel)
theorem dX0_gainsInto_31 : decode cX0_gainsInto 31 = .ok (.iload_n 3, 1) := fo_29 (fd_n 3 sr_X0_gainsInto_1 rfl)
theorem dX0_gainsInto_32 : decode cX0_gainsInto 32 = .ok (.aload_n 0, 1) := fo_42 (fd_n 4 sr_X0_gainsInto_1 rfl)
theorem dX0_gainsInto_33 : decode cX0_gainsInto 33 = .ok (.aload_n 1, 1) := fo_43 (fd_n 5 sr_X0_gainsInto_1 rfl)
theorem dX0_gainsInto_34 : decode cX0_gainsInto 34 = .ok (.iload 4, 2) := fo_21 (fd_n 6 sr_X0_gainsInto_1 rfl) rfl
theorem dX0_gainsInto_36 : decode cX0_gainsInto 36 = .ok (.aload_n 2, 1) := fo_44 (fd_n 8 sr_X0_gainsInto_1 rfl)
theorem dX0_gainsInto_37 : decode cX0_gainsInto 37 = .ok (.invokevirtual 74, 3) := fo_182 (fd_n 9 sr_X0_gainsInto_1 rfl) rfl
theorem dX0_gainsInto_40 : decode cX0_gainsInto 40 = .ok (.iadd, 1) := fo_96 (fd_n 12 sr_X0_gainsInto_1 rfl)
theorem dX0_gainsInto_41 : decode cX0_gainsInto 41 = .ok (.istore_n 3, 1) := fo_62 (fd_n 13 sr_X0_gainsInto_1 rfl)
theorem dX0_gainsInto_42 : decode cX0_gainsInto 42 = .ok (.iinc 4 1, 3) := fo_132 (fd_n 14 sr_X0_gainsInto_1 rfl) rfl (by decide +kernel)
theorem dX0_gainsInto_45 : decode cX0_gainsInto 45 = .ok (.goto (-23), 3) := fo_167 (fd_n 17 sr_X0_gainsInto_1 rfl) (by decide +kernel)
theorem dX0_gainsInto_48 : decode cX0_gainsInto 48 = .ok (.iload_n 3, 1) := fo_29 (fd_n 20 sr_X0_gainsInto_1 rfl)
theorem dX0_gainsInto_49 : decode cX0_gainsInto 49 = .ok (.ireturn, 1) := fo_172 (fd_n 21 sr_X0_gainsInto_1 rfl)
noncomputable def sl_X0_isBroken_1 : List UInt8 := 162 :: 0 :: 7 :: 4 :: 167 :: 0 :: 4 :: 3 :: 172 :: []
noncomputable def sl_X0_isBroken_0 : List UInt8 := 43 :: 180 :: 0 :: 21 :: 7 :: 50 :: 28 :: 46 :: 62 :: 29 :: 155 :: 0 :: 25 :: 42 :: 43 :: 28 :: 29 :: 182 :: 0 :: 78 :: 43 :: 180 :: 0 :: 21 :: 8 :: 50 :: 28 :: 46 :: sl_X0_isBroken_1
theorem sr_X0_isBroken_0 : fd_at cX0_isBroken 0 sl_X0_isBroken_0 := fd_base (by decide +kernel)
theorem sr_X0_isBroken_1 : fd_at cX0_isBroken 28 sl_X0_isBroken_1 := fd_n 28 sr_X0_isBroken_0 rfl
theorem dX0_isBroken_0 : decode cX0_isBroken 0 = .ok (.aload_n 1, 1) := fo_43 sr_X0_isBroken_0
theorem dX0_isBroken_1 : decode cX0_isBroken 1 = .ok (.getfield 21, 3) := fo_180 (fd_n 1 sr_X0_isBroken_0 rfl) rfl
theorem dX0_isBroken_4 : decode cX0_isBroken 4 = .ok (.iconst 4, 1) := fo_7 (fd_n 4 sr_X0_isBroken_0 rfl)
theorem dX0_isBroken_5 : decode cX0_isBroken 5 = .ok (.aaload, 1) := fo_50 (fd_n 5 sr_X0_isBroken_0 rfl)
theorem dX0_isBroken_6 : decode cX0_isBroken 6 = .ok (.iload_n 2, 1) := fo_28 (fd_n 6 sr_X0_isBroken_0 rfl)
theorem dX0_isBroken_7 : decode cX0_isBroken 7 = .ok (.iaload, 1) := fo_46 (fd_n 7 sr_X0_isBroken_0 rfl)
theorem dX0_isBroken_8 : decode cX0_isBroken 8 = .ok (.istore_n 3, 1) := fo_62 (fd_n 8 sr_X0_isBroken_0 rfl)
theorem dX0_isBroken_9 : decode cX0_isBroken 9 = .ok (.iload_n 3, 1) := fo_29 (fd_n 9 sr_X0_isBroken_0 rfl)
theorem dX0_isBroken_10 : decode cX0_isBroken 10 = .ok (.ifCond .lt 25, 3) := fo_155 (fd_n 10 sr_X0_isBroken_0 rfl) (by decide +kernel)
theorem dX0_isBroken_13 : decode cX0_isBroken 13 = .ok (.aload_n 0, 1) := fo_42 (fd_n 13 sr_X0_isBroken_0 rfl)
theorem dX0_isBroken_14 : decode cX0_isBroken 14 = .ok (.aload_n 1, 1) := fo_43 (fd_n 14 sr_X0_isBroken_0 rfl)
theorem dX0_isBroken_15 : decode cX0_isBroken 15 = .ok (.iload_n 2, 1) := fo_28 (fd_n 15 sr_X0_isBroken_0 rfl)
theorem dX0_isBroken_16 : decode cX0_isBroken 16 = .ok (.iload_n 3, 1) := fo_29 (fd_n 16 sr_X0_isBroken_0 rfl)
theorem dX0_isBroken_17 : decode cX0_isBroken 17 = .ok (.invokevirtual 78, 3) := fo_182 (fd_n 17 sr_X0_isBroken_0 rfl) rfl
theorem dX0_isBroken_20 : decode cX0_isBroken 20 = .ok (.aload_n 1, 1) := fo_43 (fd_n 20 sr_X0_isBroken_0 rfl)
theorem dX0_isBroken_21 : decode cX0_isBroken 21 = .ok (.getfield 21, 3) := fo_180 (fd_n 21 sr_X0_isBroken_0 rfl) rfl
theorem dX0_isBroken_24 : decode cX0_isBroken 24 = .ok (.iconst 5, 1) := fo_8 (fd_n 24 sr_X0_isBroken_0 rfl)
theorem dX0_isBroken_25 : decode cX0_isBroken 25 = .ok (.aaload, 1) := fo_50 (fd_n 25 sr_X0_isBroken_0 rfl)
theorem dX0_isBroken_26 : decode cX0_isBroken 26 = .ok (.iload_n 2, 1) := fo_28 (fd_n 26 sr_X0_isBroken_0 rfl)
theorem dX0_isBroken_27 : decode cX0_isBroken 27 = .ok (.iaload, 1) := fo_46 (fd_n 27 sr_X0_isBroken_0 rfl)
theorem dX0_isBroken_28 : decode cX0_isBroken 28 = .ok (.if_icmp .ge 7, 3) := fo_162 sr_X0_isBroken_1 (by decide +kernel)
theorem dX0_isBroken_31 : decode cX0_isBroken 31 = .ok (.iconst 1, 1) := fo_4 (fd_n 3 sr_X0_isBroken_1 rfl)
theorem dX0_isBroken_32 : decode cX0_isBroken 32 = .ok (.goto 4, 3) := fo_167 (fd_n 4 sr_X0_isBroken_1 rfl) (by decide +kernel)
theorem dX0_isBroken_35 : decode cX0_isBroken 35 = .ok (.iconst 0, 1) := fo_3 (fd_n 7 sr_X0_isBroken_1 rfl)
theorem dX0_isBroken_36 : decode cX0_isBroken 36 = .ok (.ireturn, 1) := fo_172 (fd_n 8 sr_X0_isBroken_1 rfl)
noncomputable def sl_X0_brokenSet_1 : List UInt8 := 167 :: 255 :: 230 :: 28 :: 172 :: []
noncomputable def sl_X0_brokenSet_0 : List UInt8 := 3 :: 61 :: 3 :: 62 :: 29 :: 43 :: 180 :: 0 :: 57 :: 162 :: 0 :: 24 :: 42 :: 43 :: 29 :: 182 :: 0 :: 82 :: 153 :: 0 :: 9 :: 28 :: 4 :: 29 :: 120 :: 128 :: 61 :: 132 :: 3 :: 1 :: sl_X0_brokenSet_1
theorem sr_X0_brokenSet_0 : fd_at cX0_brokenSet 0 sl_X0_brokenSet_0 := fd_base (by decide +kernel)
theorem sr_X0_brokenSet_1 : fd_at cX0_brokenSet 30 sl_X0_brokenSet_1 := fd_n 30 sr_X0_brokenSet_0 rfl
theorem dX0_brokenSet_0 : decode cX0_brokenSet 0 = .ok (.iconst 0, 1) := fo_3 sr_X0_brokenSet_0
theorem dX0_brokenSet_1 : decode cX0_brokenSet 1 = .ok (.istore_n 2, 1) := fo_61 (fd_n 1 sr_X0_brokenSet_0 rfl)
theorem dX0_brokenSet_2 : decode cX0_brokenSet 2 = .ok (.iconst 0, 1) := fo_3 (fd_n 2 sr_X0_brokenSet_0 rfl)
theorem dX0_brokenSet_3 : decode cX0_brokenSet 3 = .ok (.istore_n 3, 1) := fo_62 (fd_n 3 sr_X0_brokenSet_0 rfl)
theorem dX0_brokenSet_4 : decode cX0_brokenSet 4 = .ok (.iload_n 3, 1) := fo_29 (fd_n 4 sr_X0_brokenSet_0 rfl)
theorem dX0_brokenSet_5 : decode cX0_brokenSet 5 = .ok (.aload_n 1, 1) := fo_43 (fd_n 5 sr_X0_brokenSet_0 rfl)
theorem dX0_brokenSet_6 : decode cX0_brokenSet 6 = .ok (.getfield 57, 3) := fo_180 (fd_n 6 sr_X0_brokenSet_0 rfl) rfl
theorem dX0_brokenSet_9 : decode cX0_brokenSet 9 = .ok (.if_icmp .ge 24, 3) := fo_162 (fd_n 9 sr_X0_brokenSet_0 rfl) (by decide +kernel)
theorem dX0_brokenSet_12 : decode cX0_brokenSet 12 = .ok (.aload_n 0, 1) := fo_42 (fd_n 12 sr_X0_brokenSet_0 rfl)
theorem dX0_brokenSet_13 : decode cX0_brokenSet 13 = .ok (.aload_n 1, 1) := fo_43 (fd_n 13 sr_X0_brokenSet_0 rfl)
theorem dX0_brokenSet_14 : decode cX0_brokenSet 14 = .ok (.iload_n 3, 1) := fo_29 (fd_n 14 sr_X0_brokenSet_0 rfl)
theorem dX0_brokenSet_15 : decode cX0_brokenSet 15 = .ok (.invokevirtual 82, 3) := fo_182 (fd_n 15 sr_X0_brokenSet_0 rfl) rfl
theorem dX0_brokenSet_18 : decode cX0_brokenSet 18 = .ok (.ifCond .eq 9, 3) := fo_153 (fd_n 18 sr_X0_brokenSet_0 rfl) (by decide +kernel)
theorem dX0_brokenSet_21 : decode cX0_brokenSet 21 = .ok (.iload_n 2, 1) := fo_28 (fd_n 21 sr_X0_brokenSet_0 rfl)
theorem dX0_brokenSet_22 : decode cX0_brokenSet 22 = .ok (.iconst 1, 1) := fo_4 (fd_n 22 sr_X0_brokenSet_0 rfl)
theorem dX0_brokenSet_23 : decode cX0_brokenSet 23 = .ok (.iload_n 3, 1) := fo_29 (fd_n 23 sr_X0_brokenSet_0 rfl)
theorem dX0_brokenSet_24 : decode cX0_brokenSet 24 = .ok (.ishl, 1) := fo_120 (fd_n 24 sr_X0_brokenSet_0 rfl)
theorem dX0_brokenSet_25 : decode cX0_brokenSet 25 = .ok (.ior, 1) := fo_128 (fd_n 25 sr_X0_brokenSet_0 rfl)
theorem dX0_brokenSet_26 : decode cX0_brokenSet 26 = .ok (.istore_n 2, 1) := fo_61 (fd_n 26 sr_X0_brokenSet_0 rfl)
theorem dX0_brokenSet_27 : decode cX0_brokenSet 27 = .ok (.iinc 3 1, 3) := fo_132 (fd_n 27 sr_X0_brokenSet_0 rfl) rfl (by decide +kernel)
theorem dX0_brokenSet_30 : decode cX0_brokenSet 30 = .ok (.goto (-26), 3) := fo_167 sr_X0_brokenSet_1 (by decide +kernel)
theorem dX0_brokenSet_33 : decode cX0_brokenSet 33 = .ok (.iload_n 2, 1) := fo_28 (fd_n 3 sr_X0_brokenSet_1 rfl)
theorem dX0_brokenSet_34 : decode cX0_brokenSet 34 = .ok (.ireturn, 1) := fo_172 (fd_n 4 sr_X0_brokenSet_1 rfl)
noncomputable def sl_X1_init_1 : List UInt8 := 177 :: []
noncomputable def sl_X1_init_0 : List UInt8 := 42 :: 183 :: 0 :: 3 :: 42 :: 7 :: 16 :: 40 :: 197 :: 0 :: 9 :: 2 :: 181 :: 0 :: 11 :: 42 :: 7 :: 188 :: 10 :: 181 :: 0 :: 16 :: 42 :: 7 :: 188 :: 10 :: 181 :: 0 :: 20 :: sl_X1_init_1
theorem sr_X1_init_0 : fd_at cX1_init 0 sl_X1_init_0 := fd_base (by decide +kernel)
theorem sr_X1_init_1 : fd_at cX1_init 29 sl_X1_init_1 := fd_n 29 sr_X1_init_0 rfl
theorem dX1_init_0 : decode cX1_init 0 = .ok (.aload_n 0, 1) := fo_42 sr_X1_init_0
theorem dX1_init_1 : decode cX1_init 1 = .ok (.invokespecial 3, 3) := fo_183 (fd_n 1 sr_X1_init_0 rfl) rfl
theorem dX1_init_4 : decode cX1_init 4 = .ok (.aload_n 0, 1) := fo_42 (fd_n 4 sr_X1_init_0 rfl)
theorem dX1_init_5 : decode cX1_init 5 = .ok (.iconst 4, 1) := fo_7 (fd_n 5 sr_X1_init_0 rfl)
theorem dX1_init_6 : decode cX1_init 6 = .ok (.bipush 40, 2) := fo_16 (fd_n 6 sr_X1_init_0 rfl) (by decide +kernel)
theorem dX1_init_12 : decode cX1_init 12 = .ok (.putfield 11, 3) := fo_181 (fd_n 12 sr_X1_init_0 rfl) rfl
theorem dX1_init_15 : decode cX1_init 15 = .ok (.aload_n 0, 1) := fo_42 (fd_n 15 sr_X1_init_0 rfl)
theorem dX1_init_16 : decode cX1_init 16 = .ok (.iconst 4, 1) := fo_7 (fd_n 16 sr_X1_init_0 rfl)
theorem dX1_init_19 : decode cX1_init 19 = .ok (.putfield 16, 3) := fo_181 (fd_n 19 sr_X1_init_0 rfl) rfl
theorem dX1_init_22 : decode cX1_init 22 = .ok (.aload_n 0, 1) := fo_42 (fd_n 22 sr_X1_init_0 rfl)
theorem dX1_init_23 : decode cX1_init 23 = .ok (.iconst 4, 1) := fo_7 (fd_n 23 sr_X1_init_0 rfl)
theorem dX1_init_26 : decode cX1_init 26 = .ok (.putfield 20, 3) := fo_181 (fd_n 26 sr_X1_init_0 rfl) rfl
theorem dX1_init_29 : decode cX1_init 29 = .ok (.return_, 1) := fo_177 sr_X1_init_1
theorem dX1_init_8 : decode cX1_init 8 = .ok (.multianewarray 9 2, 4) := by decide +kernel
theorem dX1_init_17 : decode cX1_init 17 = .ok (.newarray .int, 2) := by decide +kernel
theorem dX1_init_24 : decode cX1_init 24 = .ok (.newarray .int, 2) := by decide +kernel
noncomputable def sl_X1_isMissing_0 : List UInt8 := 42 :: 180 :: 0 :: 16 :: 27 :: 46 :: 154 :: 0 :: 7 :: 4 :: 167 :: 0 :: 4 :: 3 :: 172 :: []
theorem sr_X1_isMissing_0 : fd_at cX1_isMissing 0 sl_X1_isMissing_0 := fd_base (by decide +kernel)
theorem dX1_isMissing_0 : decode cX1_isMissing 0 = .ok (.aload_n 0, 1) := fo_42 sr_X1_isMissing_0
theorem dX1_isMissing_1 : decode cX1_isMissing 1 = .ok (.getfield 16, 3) := fo_180 (fd_n 1 sr_X1_isMissing_0 rfl) rfl
theorem dX1_isMissing_4 : decode cX1_isMissing 4 = .ok (.iload_n 1, 1) := fo_27 (fd_n 4 sr_X1_isMissing_0 rfl)
theorem dX1_isMissing_5 : decode cX1_isMissing 5 = .ok (.iaload, 1) := fo_46 (fd_n 5 sr_X1_isMissing_0 rfl)
theorem dX1_isMissing_6 : decode cX1_isMissing 6 = .ok (.ifCond .ne 7, 3) := fo_154 (fd_n 6 sr_X1_isMissing_0 rfl) (by decide +kernel)
theorem dX1_isMissing_9 : decode cX1_isMissing 9 = .ok (.iconst 1, 1) := fo_4 (fd_n 9 sr_X1_isMissing_0 rfl)
theorem dX1_isMissing_10 : decode cX1_isMissing 10 = .ok (.goto 4, 3) := fo_167 (fd_n 10 sr_X1_isMissing_0 rfl) (by decide +kernel)
theorem dX1_isMissing_13 : decode cX1_isMissing 13 = .ok (.iconst 0, 1) := fo_3 (fd_n 13 sr_X1_isMissing_0 rfl)
theorem dX1_isMissing_14 : decode cX1_isMissing 14 = .ok (.ireturn, 1) := fo_172 (fd_n 14 sr_X1_isMissing_0 rfl)
noncomputable def sl_X1_begin_1 : List UInt8 := 162 :: 0 :: 19 :: 42 :: 180 :: 0 :: 11 :: 27 :: 50 :: 21 :: 4 :: 3 :: 79 :: 132 :: 4 :: 1 :: 167 :: 255 :: 236 :: 177 :: []
noncomputable def sl_X1_begin_0 : List UInt8 := 42 :: 180 :: 0 :: 16 :: 27 :: 28 :: 79 :: 42 :: 180 :: 0 :: 20 :: 27 :: 28 :: 154 :: 0 :: 7 :: 3 :: 167 :: 0 :: 4 :: 29 :: 79 :: 3 :: 54 :: 4 :: 21 :: 4 :: 16 :: 40 :: sl_X1_begin_1
theorem sr_X1_begin_0 : fd_at cX1_begin 0 sl_X1_begin_0 := fd_base (by decide +kernel)
theorem sr_X1_begin_1 : fd_at cX1_begin 29 sl_X1_begin_1 := fd_n 29 sr_X1_begin_0 rfl
theorem dX1_begin_0 : decode cX1_begin 0 = .ok (.aload_n 0, 1) := fo_42 sr_X1_begin_0
theorem dX1_begin_1 : decode cX1_begin 1 = .ok (.getfield 16, 3) := fo_180 (fd_n 1 sr_X1_begin_0 rfl) rfl
theorem dX1_begin_4 : decode cX1_begin 4 = .ok (.iload_n 1, 1) := fo_27 (fd_n 4 sr_X1_begin_0 rfl)
theorem dX1_begin_5 : decode cX1_begin 5 = .ok (.iload_n 2, 1) := fo_28 (fd_n 5 sr_X1_begin_0 rfl)
theorem dX1_begin_6 : decode cX1_begin 6 = .ok (.iastore, 1) := fo_79 (fd_n 6 sr_X1_begin_0 rfl)
theorem dX1_begin_7 : decode cX1_begin 7 = .ok (.aload_n 0, 1) := fo_42 (fd_n 7 sr_X1_begin_0 rfl)
theorem dX1_begin_8 : decode cX1_begin 8 = .ok (.getfield 20, 3) := fo_180 (fd_n 8 sr_X1_begin_0 rfl) rfl
theorem dX1_begin_11 : decode cX1_begin 11 = .ok (.iload_n 1, 1) := fo_27 (fd_n 11 sr_X1_begin_0 rfl)
theorem dX1_begin_12 : decode cX1_begin 12 = .ok (.iload_n 2, 1) := fo_28 (fd_n 12 sr_X1_begin_0 rfl)
theorem dX1_begin_13 : decode cX1_begin 13 = .ok (.ifCond .ne 7, 3) := fo_154 (fd_n 13 sr_X1_begin_0 rfl) (by decide +kernel)
theorem dX1_begin_16 : decode cX1_begin 16 = .ok (.iconst 0, 1) := fo_3 (fd_n 16 sr_X1_begin_0 rfl)
theorem dX1_begin_17 : decode cX1_begin 17 = .ok (.goto 4, 3) := fo_167 (fd_n 17 sr_X1_begin_0 rfl) (by decide +kernel)
theorem dX1_begin_20 : decode cX1_begin 20 = .ok (.iload_n 3, 1) := fo_29 (fd_n 20 sr_X1_begin_0 rfl)
theorem dX1_begin_21 : decode cX1_begin 21 = .ok (.iastore, 1) := fo_79 (fd_n 21 sr_X1_begin_0 rfl)
theorem dX1_begin_22 : decode cX1_begin 22 = .ok (.iconst 0, 1) := fo_3 (fd_n 22 sr_X1_begin_0 rfl)
theorem dX1_begin_23 : decode cX1_begin 23 = .ok (.istore 4, 2) := fo_54 (fd_n 23 sr_X1_begin_0 rfl) rfl
theorem dX1_begin_25 : decode cX1_begin 25 = .ok (.iload 4, 2) := fo_21 (fd_n 25 sr_X1_begin_0 rfl) rfl
theorem dX1_begin_27 : decode cX1_begin 27 = .ok (.bipush 40, 2) := fo_16 (fd_n 27 sr_X1_begin_0 rfl) (by decide +kernel)
theorem dX1_begin_29 : decode cX1_begin 29 = .ok (.if_icmp .ge 19, 3) := fo_162 sr_X1_begin_1 (by decide +kernel)
theorem dX1_begin_32 : decode cX1_begin 32 = .ok (.aload_n 0, 1) := fo_42 (fd_n 3 sr_X1_begin_1 rfl)
theorem dX1_begin_33 : decode cX1_begin 33 = .ok (.getfield 11, 3) := fo_180 (fd_n 4 sr_X1_begin_1 rfl) rfl
theorem dX1_begin_36 : decode cX1_begin 36 = .ok (.iload_n 1, 1) := fo_27 (fd_n 7 sr_X1_begin_1 rfl)
theorem dX1_begin_37 : decode cX1_begin 37 = .ok (.aaload, 1) := fo_50 (fd_n 8 sr_X1_begin_1 rfl)
theorem dX1_begin_38 : decode cX1_begin 38 = .ok (.iload 4, 2) := fo_21 (fd_n 9 sr_X1_begin_1 rfl) rfl
theorem dX1_begin_40 : decode cX1_begin 40 = .ok (.iconst 0, 1) := fo_3 (fd_n 11 sr_X1_begin_1 rfl)
theorem dX1_begin_41 : decode cX1_begin 41 = .ok (.iastore, 1) := fo_79 (fd_n 12 sr_X1_begin_1 rfl)
theorem dX1_begin_42 : decode cX1_begin 42 = .ok (.iinc 4 1, 3) := fo_132 (fd_n 13 sr_X1_begin_1 rfl) rfl (by decide +kernel)
theorem dX1_begin_45 : decode cX1_begin 45 = .ok (.goto (-20), 3) := fo_167 (fd_n 16 sr_X1_begin_1 rfl) (by decide +kernel)
theorem dX1_begin_48 : decode cX1_begin 48 = .ok (.return_, 1) := fo_177 (fd_n 19 sr_X1_begin_1 rfl)
noncomputable def sl_X1_store_2 : List UInt8 := 27 :: 50 :: 28 :: 29 :: 79 :: 177 :: []
noncomputable def sl_X1_store_1 : List UInt8 := 42 :: 180 :: 0 :: 11 :: 27 :: 50 :: 28 :: 29 :: 145 :: 79 :: 167 :: 0 :: 25 :: 42 :: 180 :: 0 :: 11 :: 27 :: 50 :: 28 :: 29 :: 147 :: 79 :: 167 :: 0 :: 12 :: 42 :: 180 :: 0 :: 11 :: sl_X1_store_2
noncomputable def sl_X1_store_0 : List UInt8 := 42 :: 180 :: 0 :: 16 :: 27 :: 46 :: 171 :: 0 :: 0 :: 0 :: 0 :: 52 :: 0 :: 0 :: 0 :: 2 :: 0 :: 0 :: 0 :: 8 :: 0 :: 0 :: 0 :: 26 :: 0 :: 0 :: 0 :: 16 :: 0 :: 0 :: 0 :: 39 :: sl_X1_store_1
theorem sr_X1_store_0 : fd_at cX1_store 0 sl_X1_store_0 := fd_base (by decide +kernel)
theorem sr_X1_store_1 : fd_at cX1_store 32 sl_X1_store_1 := fd_n 32 sr_X1_store_0 rfl
theorem sr_X1_store_2 : fd_at cX1_store 62 sl_X1_store_2 := fd_n 30 sr_X1_store_1 rfl
theorem dX1_store_0 : decode cX1_store 0 = .ok (.aload_n 0, 1) := fo_42 sr_X1_store_0
theorem dX1_store_1 : decode cX1_store 1 = .ok (.getfield 16, 3) := fo_180 (fd_n 1 sr_X1_store_0 rfl) rfl
theorem dX1_store_4 : decode cX1_store 4 = .ok (.iload_n 1, 1) := fo_27 (fd_n 4 sr_X1_store_0 rfl)
theorem dX1_store_5 : decode cX1_store 5 = .ok (.iaload, 1) := fo_46 (fd_n 5 sr_X1_store_0 rfl)
theorem dX1_store_32 : decode cX1_store 32 = .ok (.aload_n 0, 1) := fo_42 sr_X1_store_1
theorem dX1_store_33 : decode cX1_store 33 = .ok (.getfield 11, 3) := fo_180 (fd_n 1 sr_X1_store_1 rfl) rfl
theorem dX1_store_36 : decode cX1_store 36 = .ok (.iload_n 1, 1) := fo_27 (fd_n 4 sr_X1_store_1 rfl)
theorem dX1_store_37 : decode cX1_store 37 = .ok (.aaload, 1) := fo_50 (fd_n 5 sr_X1_store_1 rfl)
theorem dX1_store_38 : decode cX1_store 38 = .ok (.iload_n 2, 1) := fo_28 (fd_n 6 sr_X1_store_1 rfl)
theorem dX1_store_39 : decode cX1_store 39 = .ok (.iload_n 3, 1) := fo_29 (fd_n 7 sr_X1_store_1 rfl)
theorem dX1_store_40 : decode cX1_store 40 = .ok (.i2b, 1) := fo_145 (fd_n 8 sr_X1_store_1 rfl)
theorem dX1_store_41 : decode cX1_store 41 = .ok (.iastore, 1) := fo_79 (fd_n 9 sr_X1_store_1 rfl)
theorem dX1_store_42 : decode cX1_store 42 = .ok (.goto 25, 3) := fo_167 (fd_n 10 sr_X1_store_1 rfl) (by decide +kernel)
theorem dX1_store_45 : decode cX1_store 45 = .ok (.aload_n 0, 1) := fo_42 (fd_n 13 sr_X1_store_1 rfl)
theorem dX1_store_46 : decode cX1_store 46 = .ok (.getfield 11, 3) := fo_180 (fd_n 14 sr_X1_store_1 rfl) rfl
theorem dX1_store_49 : decode cX1_store 49 = .ok (.iload_n 1, 1) := fo_27 (fd_n 17 sr_X1_store_1 rfl)
theorem dX1_store_50 : decode cX1_store 50 = .ok (.aaload, 1) := fo_50 (fd_n 18 sr_X1_store_1 rfl)
theorem dX1_store_51 : decode cX1_store 51 = .ok (.iload_n 2, 1) := fo_28 (fd_n 19 sr_X1_store_1 rfl)
theorem dX1_store_52 : decode cX1_store 52 = .ok (.iload_n 3, 1) := fo_29 (fd_n 20 sr_X1_store_1 rfl)
theorem dX1_store_53 : decode cX1_store 53 = .ok (.i2s, 1) := fo_147 (fd_n 21 sr_X1_store_1 rfl)
theorem dX1_store_54 : decode cX1_store 54 = .ok (.iastore, 1) := fo_79 (fd_n 22 sr_X1_store_1 rfl)
theorem dX1_store_55 : decode cX1_store 55 = .ok (.goto 12, 3) := fo_167 (fd_n 23 sr_X1_store_1 rfl) (by decide +kernel)
theorem dX1_store_58 : decode cX1_store 58 = .ok (.aload_n 0, 1) := fo_42 (fd_n 26 sr_X1_store_1 rfl)
theorem dX1_store_59 : decode cX1_store 59 = .ok (.getfield 11, 3) := fo_180 (fd_n 27 sr_X1_store_1 rfl) rfl
theorem dX1_store_62 : decode cX1_store 62 = .ok (.iload_n 1, 1) := fo_27 sr_X1_store_2
theorem dX1_store_63 : decode cX1_store 63 = .ok (.aaload, 1) := fo_50 (fd_n 1 sr_X1_store_2 rfl)
theorem dX1_store_64 : decode cX1_store 64 = .ok (.iload_n 2, 1) := fo_28 (fd_n 2 sr_X1_store_2 rfl)
theorem dX1_store_65 : decode cX1_store 65 = .ok (.iload_n 3, 1) := fo_29 (fd_n 3 sr_X1_store_2 rfl)
theorem dX1_store_66 : decode cX1_store 66 = .ok (.iastore, 1) := fo_79 (fd_n 4 sr_X1_store_2 rfl)
theorem dX1_store_67 : decode cX1_store 67 = .ok (.return_, 1) := fo_177 (fd_n 5 sr_X1_store_2 rfl)
theorem dX1_store_6 : decode cX1_store 6 = .ok (.lookupswitch 52 #[(8, 26), (16, 39)], 26) := by decide +kernel
noncomputable def sl_X1_hasRange_1 : List UInt8 := 4 :: 167 :: 0 :: 4 :: 3 :: 172 :: []
noncomputable def sl_X1_hasRange_0 : List UInt8 := 28 :: 155 :: 0 :: 33 :: 29 :: 155 :: 0 :: 29 :: 28 :: 42 :: 180 :: 0 :: 20 :: 27 :: 46 :: 163 :: 0 :: 19 :: 29 :: 42 :: 180 :: 0 :: 20 :: 27 :: 46 :: 28 :: 100 :: 163 :: 0 :: 7 :: sl_X1_hasRange_1
theorem sr_X1_hasRange_0 : fd_at cX1_hasRange 0 sl_X1_hasRange_0 := fd_base (by decide +kernel)
theorem sr_X1_hasRange_1 : fd_at cX1_hasRange 30 sl_X1_hasRange_1 := fd_n 30 sr_X1_hasRange_0 rfl
theorem dX1_hasRange_0 : decode cX1_hasRange 0 = .ok (.iload_n 2, 1) := fo_28 sr_X1_hasRange_0
theorem dX1_hasRange_1 : decode cX1_hasRange 1 = .ok (.ifCond .lt 33, 3) := fo_155 (fd_n 1 sr_X1_hasRange_0 rfl) (by decide +kernel)
theorem dX1_hasRange_4 : decode cX1_hasRange 4 = .ok (.iload_n 3, 1) := fo_29 (fd_n 4 sr_X1_hasRange_0 rfl)
theorem dX1_hasRange_5 : decode cX1_hasRange 5 = .ok (.ifCond .lt 29, 3) := fo_155 (fd_n 5 sr_X1_hasRange_0 rfl) (by decide +kernel)
theorem dX1_hasRange_8 : decode cX1_hasRange 8 = .ok (.iload_n 2, 1) := fo_28 (fd_n 8 sr_X1_hasRange_0 rfl)
theorem dX1_hasRange_9 : decode cX1_hasRange 9 = .ok (.aload_n 0, 1) := fo_42 (fd_n 9 sr_X1_hasRange_0 rfl)
theorem dX1_hasRange_10 : decode cX1_hasRange 10 = .ok (.getfield 20, 3) := fo_180 (fd_n 10 sr_X1_hasRange_0 rfl) rfl
theorem dX1_hasRange_13 : decode cX1_hasRange 13 = .ok (.iload_n 1, 1) := fo_27 (fd_n 13 sr_X1_hasRange_0 rfl)
theorem dX1_hasRange_14 : decode cX1_hasRange 14 = .ok (.iaload, 1) := fo_46 (fd_n 14 sr_X1_hasRange_0 rfl)
theorem dX1_hasRange_15 : decode cX1_hasRange 15 = .ok (.if_icmp .gt 19, 3) := fo_163 (fd_n 15 sr_X1_hasRange_0 rfl) (by decide +kernel)
theorem dX1_hasRange_18 : decode cX1_hasRange 18 = .ok (.iload_n 3, 1) := fo_29 (fd_n 18 sr_X1_hasRange_0 rfl)
theorem dX1_hasRange_19 : decode cX1_hasRange 19 = .ok (.aload_n 0, 1) := fo_42 (fd_n 19 sr_X1_hasRange_0 rfl)
theorem dX1_hasRange_20 : decode cX1_hasRange 20 = .ok (.getfield 20, 3) := fo_180 (fd_n 20 sr_X1_hasRange_0 rfl) rfl
theorem dX1_hasRange_23 : decode cX1_hasRange 23 = .ok (.iload_n 1, 1) := fo_27 (fd_n 23 sr_X1_hasRange_0 rfl)
theorem dX1_hasRange_24 : decode cX1_hasRange 24 = .ok (.iaload, 1) := fo_46 (fd_n 24 sr_X1_hasRange_0 rfl)
theorem dX1_hasRange_25 : decode cX1_hasRange 25 = .ok (.iload_n 2, 1) := fo_28 (fd_n 25 sr_X1_hasRange_0 rfl)
theorem dX1_hasRange_26 : decode cX1_hasRange 26 = .ok (.isub, 1) := fo_100 (fd_n 26 sr_X1_hasRange_0 rfl)
theorem dX1_hasRange_27 : decode cX1_hasRange 27 = .ok (.if_icmp .gt 7, 3) := fo_163 (fd_n 27 sr_X1_hasRange_0 rfl) (by decide +kernel)
theorem dX1_hasRange_30 : decode cX1_hasRange 30 = .ok (.iconst 1, 1) := fo_4 sr_X1_hasRange_1
theorem dX1_hasRange_31 : decode cX1_hasRange 31 = .ok (.goto 4, 3) := fo_167 (fd_n 1 sr_X1_hasRange_1 rfl) (by decide +kernel)
theorem dX1_hasRange_34 : decode cX1_hasRange 34 = .ok (.iconst 0, 1) := fo_3 (fd_n 4 sr_X1_hasRange_1 rfl)
theorem dX1_hasRange_35 : decode cX1_hasRange 35 = .ok (.ireturn, 1) := fo_172 (fd_n 5 sr_X1_hasRange_1 rfl)
noncomputable def sl_X2_init_1 : List UInt8 := 3 :: 181 :: 0 :: 25 :: 42 :: 3 :: 181 :: 0 :: 28 :: 42 :: 2 :: 181 :: 0 :: 31 :: 177 :: []
noncomputable def sl_X2_init_0 : List UInt8 := 42 :: 183 :: 0 :: 3 :: 42 :: 16 :: 120 :: 188 :: 10 :: 181 :: 0 :: 9 :: 42 :: 3 :: 181 :: 0 :: 15 :: 42 :: 3 :: 181 :: 0 :: 19 :: 42 :: 3 :: 181 :: 0 :: 22 :: 42 :: sl_X2_init_1
theorem sr_X2_init_0 : fd_at cX2_init 0 sl_X2_init_0 := fd_base (by decide +kernel)
theorem sr_X2_init_1 : fd_at cX2_init 28 sl_X2_init_1 := fd_n 28 sr_X2_init_0 rfl
theorem dX2_init_0 : decode cX2_init 0 = .ok (.aload_n 0, 1) := fo_42 sr_X2_init_0
theorem dX2_init_1 : decode cX2_init 1 = .ok (.invokespecial 3, 3) := fo_183 (fd_n 1 sr_X2_init_0 rfl) rfl
theorem dX2_init_4 : decode cX2_init 4 = .ok (.aload_n 0, 1) := fo_42 (fd_n 4 sr_X2_init_0 rfl)
theorem dX2_init_5 : decode cX2_init 5 = .ok (.bipush 120, 2) := fo_16 (fd_n 5 sr_X2_init_0 rfl) (by decide +kernel)
theorem dX2_init_9 : decode cX2_init 9 = .ok (.putfield 9, 3) := fo_181 (fd_n 9 sr_X2_init_0 rfl) rfl
theorem dX2_init_12 : decode cX2_init 12 = .ok (.aload_n 0, 1) := fo_42 (fd_n 12 sr_X2_init_0 rfl)
theorem dX2_init_13 : decode cX2_init 13 = .ok (.iconst 0, 1) := fo_3 (fd_n 13 sr_X2_init_0 rfl)
theorem dX2_init_14 : decode cX2_init 14 = .ok (.putfield 15, 3) := fo_181 (fd_n 14 sr_X2_init_0 rfl) rfl
theorem dX2_init_17 : decode cX2_init 17 = .ok (.aload_n 0, 1) := fo_42 (fd_n 17 sr_X2_init_0 rfl)
theorem dX2_init_18 : decode cX2_init 18 = .ok (.iconst 0, 1) := fo_3 (fd_n 18 sr_X2_init_0 rfl)
theorem dX2_init_19 : decode cX2_init 19 = .ok (.putfield 19, 3) := fo_181 (fd_n 19 sr_X2_init_0 rfl) rfl
theorem dX2_init_22 : decode cX2_init 22 = .ok (.aload_n 0, 1) := fo_42 (fd_n 22 sr_X2_init_0 rfl)
theorem dX2_init_23 : decode cX2_init 23 = .ok (.iconst 0, 1) := fo_3 (fd_n 23 sr_X2_init_0 rfl)
theorem dX2_init_24 : decode cX2_init 24 = .ok (.putfield 22, 3) := fo_181 (fd_n 24 sr_X2_init_0 rfl) rfl
theorem dX2_init_27 : decode cX2_init 27 = .ok (.aload_n 0, 1) := fo_42 (fd_n 27 sr_X2_init_0 rfl)
theorem dX2_init_28 : decode cX2_init 28 = .ok (.iconst 0, 1) := fo_3 sr_X2_init_1
theorem dX2_init_29 : decode cX2_init 29 = .ok (.putfield 25, 3) := fo_181 (fd_n 1 sr_X2_init_1 rfl) rfl
theorem dX2_init_32 : decode cX2_init 32 = .ok (.aload_n 0, 1) := fo_42 (fd_n 4 sr_X2_init_1 rfl)
theorem dX2_init_33 : decode cX2_init 33 = .ok (.iconst 0, 1) := fo_3 (fd_n 5 sr_X2_init_1 rfl)
theorem dX2_init_34 : decode cX2_init 34 = .ok (.putfield 28, 3) := fo_181 (fd_n 6 sr_X2_init_1 rfl) rfl
theorem dX2_init_37 : decode cX2_init 37 = .ok (.aload_n 0, 1) := fo_42 (fd_n 9 sr_X2_init_1 rfl)
theorem dX2_init_38 : decode cX2_init 38 = .ok (.iconst (-1), 1) := fo_2 (fd_n 10 sr_X2_init_1 rfl)
theorem dX2_init_39 : decode cX2_init 39 = .ok (.putfield 31, 3) := fo_181 (fd_n 11 sr_X2_init_1 rfl) rfl
theorem dX2_init_42 : decode cX2_init 42 = .ok (.return_, 1) := fo_177 (fd_n 14 sr_X2_init_1 rfl)
theorem dX2_init_7 : decode cX2_init 7 = .ok (.newarray .int, 2) := by decide +kernel
noncomputable def sl_X2_append_1 : List UInt8 := 177 :: []
noncomputable def sl_X2_append_0 : List UInt8 := 42 :: 180 :: 0 :: 15 :: 16 :: 120 :: 162 :: 0 :: 23 :: 42 :: 180 :: 0 :: 9 :: 42 :: 180 :: 0 :: 15 :: 27 :: 79 :: 42 :: 89 :: 180 :: 0 :: 15 :: 4 :: 96 :: 181 :: 0 :: 15 :: sl_X2_append_1
theorem sr_X2_append_0 : fd_at cX2_append 0 sl_X2_append_0 := fd_base (by decide +kernel)
theorem sr_X2_append_1 : fd_at cX2_append 29 sl_X2_append_1 := fd_n 29 sr_X2_append_0 rfl
theorem dX2_append_0 : decode cX2_append 0 = .ok (.aload_n 0, 1) := fo_42 sr_X2_append_0
theorem dX2_append_1 : decode cX2_append 1 = .ok (.getfield 15, 3) := fo_180 (fd_n 1 sr_X2_append_0 rfl) rfl
theorem dX2_append_4 : decode cX2_append 4 = .ok (.bipush 120, 2) := fo_16 (fd_n 4 sr_X2_append_0 rfl) (by decide +kernel)
theorem dX2_append_6 : decode cX2_append 6 = .ok (.if_icmp .ge 23, 3) := fo_162 (fd_n 6 sr_X2_append_0 rfl) (by decide +kernel)
theorem dX2_append_9 : decode cX2_append 9 = .ok (.aload_n 0, 1) := fo_42 (fd_n 9 sr_X2_append_0 rfl)
theorem dX2_append_10 : decode cX2_append 10 = .ok (.getfield 9, 3) := fo_180 (fd_n 10 sr_X2_append_0 rfl) rfl
theorem dX2_append_13 : decode cX2_append 13 = .ok (.aload_n 0, 1) := fo_42 (fd_n 13 sr_X2_append_0 rfl)
theorem dX2_append_14 : decode cX2_append 14 = .ok (.getfield 15, 3) := fo_180 (fd_n 14 sr_X2_append_0 rfl) rfl
theorem dX2_append_17 : decode cX2_append 17 = .ok (.iload_n 1, 1) := fo_27 (fd_n 17 sr_X2_append_0 rfl)
theorem dX2_append_18 : decode cX2_append 18 = .ok (.iastore, 1) := fo_79 (fd_n 18 sr_X2_append_0 rfl)
theorem dX2_append_19 : decode cX2_append 19 = .ok (.aload_n 0, 1) := fo_42 (fd_n 19 sr_X2_append_0 rfl)
theorem dX2_append_20 : decode cX2_append 20 = .ok (.dup, 1) := fo_89 (fd_n 20 sr_X2_append_0 rfl)
theorem dX2_append_21 : decode cX2_append 21 = .ok (.getfield 15, 3) := fo_180 (fd_n 21 sr_X2_append_0 rfl) rfl
theorem dX2_append_24 : decode cX2_append 24 = .ok (.iconst 1, 1) := fo_4 (fd_n 24 sr_X2_append_0 rfl)
theorem dX2_append_25 : decode cX2_append 25 = .ok (.iadd, 1) := fo_96 (fd_n 25 sr_X2_append_0 rfl)
theorem dX2_append_26 : decode cX2_append 26 = .ok (.putfield 15, 3) := fo_181 (fd_n 26 sr_X2_append_0 rfl) rfl
theorem dX2_append_29 : decode cX2_append 29 = .ok (.return_, 1) := fo_177 sr_X2_append_1
noncomputable def sl_X2_readText_2 : List UInt8 := 42 :: 180 :: 0 :: 19 :: 153 :: 0 :: 7 :: 42 :: 182 :: 0 :: 41 :: 28 :: 172 :: []
noncomputable def sl_X2_readText_1 : List UInt8 := 42 :: 180 :: 0 :: 19 :: 6 :: 160 :: 0 :: 24 :: 28 :: 16 :: 120 :: 162 :: 0 :: 18 :: 42 :: 182 :: 0 :: 34 :: 42 :: 43 :: 182 :: 0 :: 37 :: 132 :: 2 :: 1 :: 167 :: 255 :: 223 :: sl_X2_readText_2
noncomputable def sl_X2_readText_0 : List UInt8 := 42 :: 2 :: 181 :: 0 :: 31 :: 42 :: 3 :: 181 :: 0 :: 25 :: 42 :: 182 :: 0 :: 34 :: 42 :: 43 :: 182 :: 0 :: 37 :: 4 :: 61 :: 42 :: 180 :: 0 :: 31 :: 156 :: 0 :: 32 :: sl_X2_readText_1
theorem sr_X2_readText_0 : fd_at cX2_readText 0 sl_X2_readText_0 := fd_base (by decide +kernel)
theorem sr_X2_readText_1 : fd_at cX2_readText 28 sl_X2_readText_1 := fd_n 28 sr_X2_readText_0 rfl
theorem sr_X2_readText_2 : fd_at cX2_readText 57 sl_X2_readText_2 := fd_n 29 sr_X2_readText_1 rfl
theorem dX2_readText_0 : decode cX2_readText 0 = .ok (.aload_n 0, 1) := fo_42 sr_X2_readText_0
theorem dX2_readText_1 : decode cX2_readText 1 = .ok (.iconst (-1), 1) := fo_2 (fd_n 1 sr_X2_readText_0 rfl)
theorem dX2_readText_2 : decode cX2_readText 2 = .ok (.putfield 31, 3) := fo_181 (fd_n 2 sr_X2_readText_0 rfl) rfl
theorem dX2_readText_5 : decode cX2_readText 5 = .ok (.aload_n 0, 1) := fo_42 (fd_n 5 sr_X2_readText_0 rfl)
theorem dX2_readText_6 : decode cX2_readText 6 = .ok (.iconst 0, 1) := fo_3 (fd_n 6 sr_X2_readText_0 rfl)
theorem dX2_readText_7 : decode cX2_readText 7 = .ok (.putfield 25, 3) := fo_181 (fd_n 7 sr_X2_readText_0 rfl) rfl
theorem dX2_readText_10 : decode cX2_readText 10 = .ok (.aload_n 0, 1) := fo_42 (fd_n 10 sr_X2_readText_0 rfl)
theorem dX2_readText_11 : decode cX2_readText 11 = .ok (.invokevirtual 34, 3) := fo_182 (fd_n 11 sr_X2_readText_0 rfl) rfl
theorem dX2_readText_14 : decode cX2_readText 14 = .ok (.aload_n 0, 1) := fo_42 (fd_n 14 sr_X2_readText_0 rfl)
theorem dX2_readText_15 : decode cX2_readText 15 = .ok (.aload_n 1, 1) := fo_43 (fd_n 15 sr_X2_readText_0 rfl)
theorem dX2_readText_16 : decode cX2_readText 16 = .ok (.invokevirtual 37, 3) := fo_182 (fd_n 16 sr_X2_readText_0 rfl) rfl
theorem dX2_readText_19 : decode cX2_readText 19 = .ok (.iconst 1, 1) := fo_4 (fd_n 19 sr_X2_readText_0 rfl)
theorem dX2_readText_20 : decode cX2_readText 20 = .ok (.istore_n 2, 1) := fo_61 (fd_n 20 sr_X2_readText_0 rfl)
theorem dX2_readText_21 : decode cX2_readText 21 = .ok (.aload_n 0, 1) := fo_42 (fd_n 21 sr_X2_readText_0 rfl)
theorem dX2_readText_22 : decode cX2_readText 22 = .ok (.getfield 31, 3) := fo_180 (fd_n 22 sr_X2_readText_0 rfl) rfl
theorem dX2_readText_25 : decode cX2_readText 25 = .ok (.ifCond .ge 32, 3) := fo_156 (fd_n 25 sr_X2_readText_0 rfl) (by decide +kernel)
theorem dX2_readText_28 : decode cX2_readText 28 = .ok (.aload_n 0, 1) := fo_42 sr_X2_readText_1
theorem dX2_readText_29 : decode cX2_readText 29 = .ok (.getfield 19, 3) := fo_180 (fd_n 1 sr_X2_readText_1 rfl) rfl
theorem dX2_readText_32 : decode cX2_readText 32 = .ok (.iconst 3, 1) := fo_6 (fd_n 4 sr_X2_readText_1 rfl)
theorem dX2_readText_33 : decode cX2_readText 33 = .ok (.if_icmp .ne 24, 3) := fo_160 (fd_n 5 sr_X2_readText_1 rfl) (by decide +kernel)
theorem dX2_readText_36 : decode cX2_readText 36 = .ok (.iload_n 2, 1) := fo_28 (fd_n 8 sr_X2_readText_1 rfl)
theorem dX2_readText_37 : decode cX2_readText 37 = .ok (.bipush 120, 2) := fo_16 (fd_n 9 sr_X2_readText_1 rfl) (by decide +kernel)
theorem dX2_readText_39 : decode cX2_readText 39 = .ok (.if_icmp .ge 18, 3) := fo_162 (fd_n 11 sr_X2_readText_1 rfl) (by decide +kernel)
theorem dX2_readText_42 : decode cX2_readText 42 = .ok (.aload_n 0, 1) := fo_42 (fd_n 14 sr_X2_readText_1 rfl)
theorem dX2_readText_43 : decode cX2_readText 43 = .ok (.invokevirtual 34, 3) := fo_182 (fd_n 15 sr_X2_readText_1 rfl) rfl
theorem dX2_readText_46 : decode cX2_readText 46 = .ok (.aload_n 0, 1) := fo_42 (fd_n 18 sr_X2_readText_1 rfl)
theorem dX2_readText_47 : decode cX2_readText 47 = .ok (.aload_n 1, 1) := fo_43 (fd_n 19 sr_X2_readText_1 rfl)
theorem dX2_readText_48 : decode cX2_readText 48 = .ok (.invokevirtual 37, 3) := fo_182 (fd_n 20 sr_X2_readText_1 rfl) rfl
theorem dX2_readText_51 : decode cX2_readText 51 = .ok (.iinc 2 1, 3) := fo_132 (fd_n 23 sr_X2_readText_1 rfl) rfl (by decide +kernel)
theorem dX2_readText_54 : decode cX2_readText 54 = .ok (.goto (-33), 3) := fo_167 (fd_n 26 sr_X2_readText_1 rfl) (by decide +kernel)
theorem dX2_readText_57 : decode cX2_readText 57 = .ok (.aload_n 0, 1) := fo_42 sr_X2_readText_2
theorem dX2_readText_58 : decode cX2_readText 58 = .ok (.getfield 19, 3) := fo_180 (fd_n 1 sr_X2_readText_2 rfl) rfl
theorem dX2_readText_61 : decode cX2_readText 61 = .ok (.ifCond .eq 7, 3) := fo_153 (fd_n 4 sr_X2_readText_2 rfl) (by decide +kernel)
theorem dX2_readText_64 : decode cX2_readText 64 = .ok (.aload_n 0, 1) := fo_42 (fd_n 7 sr_X2_readText_2 rfl)
theorem dX2_readText_65 : decode cX2_readText 65 = .ok (.invokevirtual 41, 3) := fo_182 (fd_n 8 sr_X2_readText_2 rfl) rfl
theorem dX2_readText_68 : decode cX2_readText 68 = .ok (.iload_n 2, 1) := fo_28 (fd_n 11 sr_X2_readText_2 rfl)
theorem dX2_readText_69 : decode cX2_readText 69 = .ok (.ireturn, 1) := fo_172 (fd_n 12 sr_X2_readText_2 rfl)
noncomputable def sl_X2_readItem_2 : List UInt8 := 167 :: 0 :: 24 :: 42 :: 18 :: 71 :: 182 :: 0 :: 54 :: 153 :: 0 :: 11 :: 42 :: 43 :: 182 :: 0 :: 73 :: 167 :: 0 :: 7 :: 42 :: 182 :: 0 :: 41 :: 177 :: []
noncomputable def sl_X2_readItem_1 : List UInt8 := 180 :: 0 :: 58 :: 16 :: 10 :: 162 :: 0 :: 11 :: 42 :: 43 :: 182 :: 0 :: 63 :: 167 :: 0 :: 41 :: 42 :: 18 :: 66 :: 182 :: 0 :: 54 :: 153 :: 0 :: 11 :: 42 :: 43 :: 182 :: 0 :: 68 :: sl_X2_readItem_2
noncomputable def sl_X2_readItem_0 : List UInt8 := 42 :: 182 :: 0 :: 44 :: 61 :: 28 :: 155 :: 0 :: 12 :: 42 :: 43 :: 28 :: 182 :: 0 :: 48 :: 167 :: 0 :: 67 :: 42 :: 18 :: 52 :: 182 :: 0 :: 54 :: 153 :: 0 :: 20 :: 43 :: sl_X2_readItem_1
theorem sr_X2_readItem_0 : fd_at cX2_readItem 0 sl_X2_readItem_0 := fd_base (by decide +kernel)
theorem sr_X2_readItem_1 : fd_at cX2_readItem 28 sl_X2_readItem_1 := fd_n 28 sr_X2_readItem_0 rfl
theorem sr_X2_readItem_2 : fd_at cX2_readItem 58 sl_X2_readItem_2 := fd_n 30 sr_X2_readItem_1 rfl
theorem dX2_readItem_0 : decode cX2_readItem 0 = .ok (.aload_n 0, 1) := fo_42 sr_X2_readItem_0
theorem dX2_readItem_1 : decode cX2_readItem 1 = .ok (.invokevirtual 44, 3) := fo_182 (fd_n 1 sr_X2_readItem_0 rfl) rfl
theorem dX2_readItem_4 : decode cX2_readItem 4 = .ok (.istore_n 2, 1) := fo_61 (fd_n 4 sr_X2_readItem_0 rfl)
theorem dX2_readItem_5 : decode cX2_readItem 5 = .ok (.iload_n 2, 1) := fo_28 (fd_n 5 sr_X2_readItem_0 rfl)
theorem dX2_readItem_6 : decode cX2_readItem 6 = .ok (.ifCond .lt 12, 3) := fo_155 (fd_n 6 sr_X2_readItem_0 rfl) (by decide +kernel)
theorem dX2_readItem_9 : decode cX2_readItem 9 = .ok (.aload_n 0, 1) := fo_42 (fd_n 9 sr_X2_readItem_0 rfl)
theorem dX2_readItem_10 : decode cX2_readItem 10 = .ok (.aload_n 1, 1) := fo_43 (fd_n 10 sr_X2_readItem_0 rfl)
theorem dX2_readItem_11 : decode cX2_readItem 11 = .ok (.iload_n 2, 1) := fo_28 (fd_n 11 sr_X2_readItem_0 rfl)
theorem dX2_readItem_12 : decode cX2_readItem 12 = .ok (.invokevirtual 48, 3) := fo_182 (fd_n 12 sr_X2_readItem_0 rfl) rfl
theorem dX2_readItem_15 : decode cX2_readItem 15 = .ok (.goto 67, 3) := fo_167 (fd_n 15 sr_X2_readItem_0 rfl) (by decide +kernel)
theorem dX2_readItem_18 : decode cX2_readItem 18 = .ok (.aload_n 0, 1) := fo_42 (fd_n 18 sr_X2_readItem_0 rfl)
theorem dX2_readItem_19 : decode cX2_readItem 19 = .ok (.ldc 52, 2) := fo_18 (fd_n 19 sr_X2_readItem_0 rfl) rfl
theorem dX2_readItem_21 : decode cX2_readItem 21 = .ok (.invokevirtual 54, 3) := fo_182 (fd_n 21 sr_X2_readItem_0 rfl) rfl
theorem dX2_readItem_24 : decode cX2_readItem 24 = .ok (.ifCond .eq 20, 3) := fo_153 (fd_n 24 sr_X2_readItem_0 rfl) (by decide +kernel)
theorem dX2_readItem_27 : decode cX2_readItem 27 = .ok (.aload_n 1, 1) := fo_43 (fd_n 27 sr_X2_readItem_0 rfl)
theorem dX2_readItem_28 : decode cX2_readItem 28 = .ok (.getfield 58, 3) := fo_180 sr_X2_readItem_1 rfl
theorem dX2_readItem_31 : decode cX2_readItem 31 = .ok (.bipush 10, 2) := fo_16 (fd_n 3 sr_X2_readItem_1 rfl) (by decide +kernel)
theorem dX2_readItem_33 : decode cX2_readItem 33 = .ok (.if_icmp .ge 11, 3) := fo_162 (fd_n 5 sr_X2_readItem_1 rfl) (by decide +kernel)
theorem dX2_readItem_36 : decode cX2_readItem 36 = .ok (.aload_n 0, 1) := fo_42 (fd_n 8 sr_X2_readItem_1 rfl)
theorem dX2_readItem_37 : decode cX2_readItem 37 = .ok (.aload_n 1, 1) := fo_43 (fd_n 9 sr_X2_readItem_1 rfl)
theorem dX2_readItem_38 : decode cX2_readItem 38 = .ok (.invokevirtual 63, 3) := fo_182 (fd_n 10 sr_X2_readItem_1 rfl) rfl
theorem dX2_readItem_41 : decode cX2_readItem 41 = .ok (.goto 41, 3) := fo_167 (fd_n 13 sr_X2_readItem_1 rfl) (by decide +kernel)
theorem dX2_readItem_44 : decode cX2_readItem 44 = .ok (.aload_n 0, 1) := fo_42 (fd_n 16 sr_X2_readItem_1 rfl)
theorem dX2_readItem_45 : decode cX2_readItem 45 = .ok (.ldc 66, 2) := fo_18 (fd_n 17 sr_X2_readItem_1 rfl) rfl
theorem dX2_readItem_47 : decode cX2_readItem 47 = .ok (.invokevirtual 54, 3) := fo_182 (fd_n 19 sr_X2_readItem_1 rfl) rfl
theorem dX2_readItem_50 : decode cX2_readItem 50 = .ok (.ifCond .eq 11, 3) := fo_153 (fd_n 22 sr_X2_readItem_1 rfl) (by decide +kernel)
theorem dX2_readItem_53 : decode cX2_readItem 53 = .ok (.aload_n 0, 1) := fo_42 (fd_n 25 sr_X2_readItem_1 rfl)
theorem dX2_readItem_54 : decode cX2_readItem 54 = .ok (.aload_n 1, 1) := fo_43 (fd_n 26 sr_X2_readItem_1 rfl)
theorem dX2_readItem_55 : decode cX2_readItem 55 = .ok (.invokevirtual 68, 3) := fo_182 (fd_n 27 sr_X2_readItem_1 rfl) rfl
theorem dX2_readItem_58 : decode cX2_readItem 58 = .ok (.goto 24, 3) := fo_167 sr_X2_readItem_2 (by decide +kernel)
theorem dX2_readItem_61 : decode cX2_readItem 61 = .ok (.aload_n 0, 1) := fo_42 (fd_n 3 sr_X2_readItem_2 rfl)
theorem dX2_readItem_62 : decode cX2_readItem 62 = .ok (.ldc 71, 2) := fo_18 (fd_n 4 sr_X2_readItem_2 rfl) rfl
theorem dX2_readItem_64 : decode cX2_readItem 64 = .ok (.invokevirtual 54, 3) := fo_182 (fd_n 6 sr_X2_readItem_2 rfl) rfl
theorem dX2_readItem_67 : decode cX2_readItem 67 = .ok (.ifCond .eq 11, 3) := fo_153 (fd_n 9 sr_X2_readItem_2 rfl) (by decide +kernel)
theorem dX2_readItem_70 : decode cX2_readItem 70 = .ok (.aload_n 0, 1) := fo_42 (fd_n 12 sr_X2_readItem_2 rfl)
theorem dX2_readItem_71 : decode cX2_readItem 71 = .ok (.aload_n 1, 1) := fo_43 (fd_n 13 sr_X2_readItem_2 rfl)
theorem dX2_readItem_72 : decode cX2_readItem 72 = .ok (.invokevirtual 73, 3) := fo_182 (fd_n 14 sr_X2_readItem_2 rfl) rfl
theorem dX2_readItem_75 : decode cX2_readItem 75 = .ok (.goto 7, 3) := fo_167 (fd_n 17 sr_X2_readItem_2 rfl) (by decide +kernel)
theorem dX2_readItem_78 : decode cX2_readItem 78 = .ok (.aload_n 0, 1) := fo_42 (fd_n 20 sr_X2_readItem_2 rfl)
theorem dX2_readItem_79 : decode cX2_readItem 79 = .ok (.invokevirtual 41, 3) := fo_182 (fd_n 21 sr_X2_readItem_2 rfl) rfl
theorem dX2_readItem_82 : decode cX2_readItem 82 = .ok (.return_, 1) := fo_177 (fd_n 24 sr_X2_readItem_2 rfl)
noncomputable def sl_X2_readThing_3 : List UInt8 := 182 :: 0 :: 96 :: 177 :: []
noncomputable def sl_X2_readThing_2 : List UInt8 := 42 :: 18 :: 94 :: 182 :: 0 :: 78 :: 42 :: 7 :: 182 :: 0 :: 88 :: 54 :: 6 :: 42 :: 180 :: 0 :: 31 :: 156 :: 0 :: 15 :: 43 :: 29 :: 28 :: 21 :: 4 :: 21 :: 5 :: 21 :: 6 :: sl_X2_readThing_3
noncomputable def sl_X2_readThing_1 : List UInt8 := 54 :: 4 :: 42 :: 18 :: 92 :: 182 :: 0 :: 78 :: 42 :: 16 :: 10 :: 182 :: 0 :: 88 :: 54 :: 5 :: 3 :: 54 :: 6 :: 42 :: 18 :: 94 :: 182 :: 0 :: 54 :: 153 :: 0 :: 16 :: sl_X2_readThing_2
noncomputable def sl_X2_readThing_0 : List UInt8 := 42 :: 182 :: 0 :: 34 :: 42 :: 18 :: 76 :: 182 :: 0 :: 78 :: 42 :: 43 :: 3 :: 182 :: 0 :: 82 :: 62 :: 42 :: 18 :: 86 :: 182 :: 0 :: 78 :: 42 :: 7 :: 182 :: 0 :: 88 :: sl_X2_readThing_1
theorem sr_X2_readThing_0 : fd_at cX2_readThing 0 sl_X2_readThing_0 := fd_base (by decide +kernel)
theorem sr_X2_readThing_1 : fd_at cX2_readThing 28 sl_X2_readThing_1 := fd_n 28 sr_X2_readThing_0 rfl
theorem sr_X2_readThing_2 : fd_at cX2_readThing 56 sl_X2_readThing_2 := fd_n 28 sr_X2_readThing_1 rfl
theorem sr_X2_readThing_3 : fd_at cX2_readThing 85 sl_X2_readThing_3 := fd_n 29 sr_X2_readThing_2 rfl
theorem dX2_readThing_0 : decode cX2_readThing 0 = .ok (.aload_n 0, 1) := fo_42 sr_X2_readThing_0
theorem dX2_readThing_1 : decode cX2_readThing 1 = .ok (.invokevirtual 34, 3) := fo_182 (fd_n 1 sr_X2_readThing_0 rfl) rfl
theorem dX2_readThing_4 : decode cX2_readThing 4 = .ok (.aload_n 0, 1) := fo_42 (fd_n 4 sr_X2_readThing_0 rfl)
theorem dX2_readThing_5 : decode cX2_readThing 5 = .ok (.ldc 76, 2) := fo_18 (fd_n 5 sr_X2_readThing_0 rfl) rfl
theorem dX2_readThing_7 : decode cX2_readThing 7 = .ok (.invokevirtual 78, 3) := fo_182 (fd_n 7 sr_X2_readThing_0 rfl) rfl
theorem dX2_readThing_10 : decode cX2_readThing 10 = .ok (.aload_n 0, 1) := fo_42 (fd_n 10 sr_X2_readThing_0 rfl)
theorem dX2_readThing_11 : decode cX2_readThing 11 = .ok (.aload_n 1, 1) := fo_43 (fd_n 11 sr_X2_readThing_0 rfl)
theorem dX2_readThing_12 : decode cX2_readThing 12 = .ok (.iconst 0, 1) := fo_3 (fd_n 12 sr_X2_readThing_0 rfl)
theorem dX2_readThing_13 : decode cX2_readThing 13 = .ok (.invokevirtual 82, 3) := fo_182 (fd_n 13 sr_X2_readThing_0 rfl) rfl
theorem dX2_readThing_16 : decode cX2_readThing 16 = .ok (.istore_n 3, 1) := fo_62 (fd_n 16 sr_X2_readThing_0 rfl)
theorem dX2_readThing_17 : decode cX2_readThing 17 = .ok (.aload_n 0, 1) := fo_42 (fd_n 17 sr_X2_readThing_0 rfl)
theorem dX2_readThing_18 : decode cX2_readThing 18 = .ok (.ldc 86, 2) := fo_18 (fd_n 18 sr_X2_readThing_0 rfl) rfl
theorem dX2_readThing_20 : decode cX2_readThing 20 = .ok (.invokevirtual 78, 3) := fo_182 (fd_n 20 sr_X2_readThing_0 rfl) rfl
theorem dX2_readThing_23 : decode cX2_readThing 23 = .ok (.aload_n 0, 1) := fo_42 (fd_n 23 sr_X2_readThing_0 rfl)
theorem dX2_readThing_24 : decode cX2_readThing 24 = .ok (.iconst 4, 1) := fo_7 (fd_n 24 sr_X2_readThing_0 rfl)
theorem dX2_readThing_25 : decode cX2_readThing 25 = .ok (.invokevirtual 88, 3) := fo_182 (fd_n 25 sr_X2_readThing_0 rfl) rfl
theorem dX2_readThing_28 : decode cX2_readThing 28 = .ok (.istore 4, 2) := fo_54 sr_X2_readThing_1 rfl
theorem dX2_readThing_30 : decode cX2_readThing 30 = .ok (.aload_n 0, 1) := fo_42 (fd_n 2 sr_X2_readThing_1 rfl)
theorem dX2_readThing_31 : decode cX2_readThing 31 = .ok (.ldc 92, 2) := fo_18 (fd_n 3 sr_X2_readThing_1 rfl) rfl
theorem dX2_readThing_33 : decode cX2_readThing 33 = .ok (.invokevirtual 78, 3) := fo_182 (fd_n 5 sr_X2_readThing_1 rfl) rfl
theorem dX2_readThing_36 : decode cX2_readThing 36 = .ok (.aload_n 0, 1) := fo_42 (fd_n 8 sr_X2_readThing_1 rfl)
theorem dX2_readThing_37 : decode cX2_readThing 37 = .ok (.bipush 10, 2) := fo_16 (fd_n 9 sr_X2_readThing_1 rfl) (by decide +kernel)
theorem dX2_readThing_39 : decode cX2_readThing 39 = .ok (.invokevirtual 88, 3) := fo_182 (fd_n 11 sr_X2_readThing_1 rfl) rfl
theorem dX2_readThing_42 : decode cX2_readThing 42 = .ok (.istore 5, 2) := fo_54 (fd_n 14 sr_X2_readThing_1 rfl) rfl
theorem dX2_readThing_44 : decode cX2_readThing 44 = .ok (.iconst 0, 1) := fo_3 (fd_n 16 sr_X2_readThing_1 rfl)
theorem dX2_readThing_45 : decode cX2_readThing 45 = .ok (.istore 6, 2) := fo_54 (fd_n 17 sr_X2_readThing_1 rfl) rfl
theorem dX2_readThing_47 : decode cX2_readThing 47 = .ok (.aload_n 0, 1) := fo_42 (fd_n 19 sr_X2_readThing_1 rfl)
theorem dX2_readThing_48 : decode cX2_readThing 48 = .ok (.ldc 94, 2) := fo_18 (fd_n 20 sr_X2_readThing_1 rfl) rfl
theorem dX2_readThing_50 : decode cX2_readThing 50 = .ok (.invokevirtual 54, 3) := fo_182 (fd_n 22 sr_X2_readThing_1 rfl) rfl
theorem dX2_readThing_53 : decode cX2_readThing 53 = .ok (.ifCond .eq 16, 3) := fo_153 (fd_n 25 sr_X2_readThing_1 rfl) (by decide +kernel)
theorem dX2_readThing_56 : decode cX2_readThing 56 = .ok (.aload_n 0, 1) := fo_42 sr_X2_readThing_2
theorem dX2_readThing_57 : decode cX2_readThing 57 = .ok (.ldc 94, 2) := fo_18 (fd_n 1 sr_X2_readThing_2 rfl) rfl
theorem dX2_readThing_59 : decode cX2_readThing 59 = .ok (.invokevirtual 78, 3) := fo_182 (fd_n 3 sr_X2_readThing_2 rfl) rfl
theorem dX2_readThing_62 : decode cX2_readThing 62 = .ok (.aload_n 0, 1) := fo_42 (fd_n 6 sr_X2_readThing_2 rfl)
theorem dX2_readThing_63 : decode cX2_readThing 63 = .ok (.iconst 4, 1) := fo_7 (fd_n 7 sr_X2_readThing_2 rfl)
theorem dX2_readThing_64 : decode cX2_readThing 64 = .ok (.invokevirtual 88, 3) := fo_182 (fd_n 8 sr_X2_readThing_2 rfl) rfl
theorem dX2_readThing_67 : decode cX2_readThing 67 = .ok (.istore 6, 2) := fo_54 (fd_n 11 sr_X2_readThing_2 rfl) rfl
theorem dX2_readThing_69 : decode cX2_readThing 69 = .ok (.aload_n 0, 1) := fo_42 (fd_n 13 sr_X2_readThing_2 rfl)
theorem dX2_readThing_70 : decode cX2_readThing 70 = .ok (.getfield 31, 3) := fo_180 (fd_n 14 sr_X2_readThing_2 rfl) rfl
theorem dX2_readThing_73 : decode cX2_readThing 73 = .ok (.ifCond .ge 15, 3) := fo_156 (fd_n 17 sr_X2_readThing_2 rfl) (by decide +kernel)
theorem dX2_readThing_76 : decode cX2_readThing 76 = .ok (.aload_n 1, 1) := fo_43 (fd_n 20 sr_X2_readThing_2 rfl)
theorem dX2_readThing_77 : decode cX2_readThing 77 = .ok (.iload_n 3, 1) := fo_29 (fd_n 21 sr_X2_readThing_2 rfl)
theorem dX2_readThing_78 : decode cX2_readThing 78 = .ok (.iload_n 2, 1) := fo_28 (fd_n 22 sr_X2_readThing_2 rfl)
theorem dX2_readThing_79 : decode cX2_readThing 79 = .ok (.iload 4, 2) := fo_21 (fd_n 23 sr_X2_readThing_2 rfl) rfl
theorem dX2_readThing_81 : decode cX2_readThing 81 = .ok (.iload 5, 2) := fo_21 (fd_n 25 sr_X2_readThing_2 rfl) rfl
theorem dX2_readThing_83 : decode cX2_readThing 83 = .ok (.iload 6, 2) := fo_21 (fd_n 27 sr_X2_readThing_2 rfl) rfl
theorem dX2_readThing_85 : decode cX2_readThing 85 = .ok (.invokevirtual 96, 3) := fo_182 sr_X2_readThing_3 rfl
theorem dX2_readThing_88 : decode cX2_readThing 88 = .ok (.return_, 1) := fo_177 (fd_n 3 sr_X2_readThing_3 rfl)
noncomputable def sl_X2_readWindow_2 : List UInt8 := 180 :: 0 :: 31 :: 156 :: 0 :: 13 :: 43 :: 28 :: 29 :: 21 :: 4 :: 21 :: 5 :: 182 :: 0 :: 106 :: 177 :: []
noncomputable def sl_X2_readWindow_1 : List UInt8 := 62 :: 42 :: 18 :: 102 :: 182 :: 0 :: 78 :: 42 :: 7 :: 182 :: 0 :: 88 :: 54 :: 4 :: 42 :: 18 :: 104 :: 182 :: 0 :: 78 :: 42 :: 7 :: 182 :: 0 :: 88 :: 54 :: 5 :: 42 :: sl_X2_readWindow_2
noncomputable def sl_X2_readWindow_0 : List UInt8 := 42 :: 182 :: 0 :: 34 :: 42 :: 18 :: 76 :: 182 :: 0 :: 78 :: 42 :: 16 :: 25 :: 182 :: 0 :: 88 :: 61 :: 42 :: 18 :: 100 :: 182 :: 0 :: 78 :: 42 :: 16 :: 10 :: 182 :: 0 :: 88 :: sl_X2_readWindow_1
theorem sr_X2_readWindow_0 : fd_at cX2_readWindow 0 sl_X2_readWindow_0 := fd_base (by decide +kernel)
theorem sr_X2_readWindow_1 : fd_at cX2_readWindow 29 sl_X2_readWindow_1 := fd_n 29 sr_X2_readWindow_0 rfl
theorem sr_X2_readWindow_2 : fd_at cX2_readWindow 57 sl_X2_readWindow_2 := fd_n 28 sr_X2_readWindow_1 rfl
theorem dX2_readWindow_0 : decode cX2_readWindow 0 = .ok (.aload_n 0, 1) := fo_42 sr_X2_readWindow_0
theorem dX2_readWindow_1 : decode cX2_readWindow 1 = .ok (.invokevirtual 34, 3) := fo_182 (fd_n 1 sr_X2_readWindow_0 rfl) rfl
theorem dX2_readWindow_4 : decode cX2_readWindow 4 = .ok (.aload_n 0, 1) := fo_42 (fd_n 4 sr_X2_readWindow_0 rfl)
theorem dX2_readWindow_5 : decode cX2_readWindow 5 = .ok (.ldc 76, 2) := fo_18 (fd_n 5 sr_X2_readWindow_0 rfl) rfl
theorem dX2_readWindow_7 : decode cX2_readWindow 7 = .ok (.invokevirtual 78, 3) := fo_182 (fd_n 7 sr_X2_readWindow_0 rfl) rfl
theorem dX2_readWindow_10 : decode cX2_readWindow 10 = .ok (.aload_n 0, 1) := fo_42 (fd_n 10 sr_X2_readWindow_0 rfl)
theorem dX2_readWindow_11 : decode cX2_readWindow 11 = .ok (.bipush 25, 2) := fo_16 (fd_n 11 sr_X2_readWindow_0 rfl) (by decide +kernel)
theorem dX2_readWindow_13 : decode cX2_readWindow 13 = .ok (.invokevirtual 88, 3) := fo_182 (fd_n 13 sr_X2_readWindow_0 rfl) rfl
theorem dX2_readWindow_16 : decode cX2_readWindow 16 = .ok (.istore_n 2, 1) := fo_61 (fd_n 16 sr_X2_readWindow_0 rfl)
theorem dX2_readWindow_17 : decode cX2_readWindow 17 = .ok (.aload_n 0, 1) := fo_42 (fd_n 17 sr_X2_readWindow_0 rfl)
theorem dX2_readWindow_18 : decode cX2_readWindow 18 = .ok (.ldc 100, 2) := fo_18 (fd_n 18 sr_X2_readWindow_0 rfl) rfl
theorem dX2_readWindow_20 : decode cX2_readWindow 20 = .ok (.invokevirtual 78, 3) := fo_182 (fd_n 20 sr_X2_readWindow_0 rfl) rfl
theorem dX2_readWindow_23 : decode cX2_readWindow 23 = .ok (.aload_n 0, 1) := fo_42 (fd_n 23 sr_X2_readWindow_0 rfl)
theorem dX2_readWindow_24 : decode cX2_readWindow 24 = .ok (.bipush 10, 2) := fo_16 (fd_n 24 sr_X2_readWindow_0 rfl) (by decide +kernel)
theorem dX2_readWindow_26 : decode cX2_readWindow 26 = .ok (.invokevirtual 88, 3) := fo_182 (fd_n 26 sr_X2_readWindow_0 rfl) rfl
theorem dX2_readWindow_29 : decode cX2_readWindow 29 = .ok (.istore_n 3, 1) := fo_62 sr_X2_readWindow_1
theorem dX2_readWindow_30 : decode cX2_readWindow 30 = .ok (.aload_n 0, 1) := fo_42 (fd_n 1 sr_X2_readWindow_1 rfl)
theorem dX2_readWindow_31 : decode cX2_readWindow 31 = .ok (.ldc 102, 2) := fo_18 (fd_n 2 sr_X2_readWindow_1 rfl) rfl
theorem dX2_readWindow_33 : decode cX2_readWindow 33 = .ok (.invokevirtual 78, 3) := fo_182 (fd_n 4 sr_X2_readWindow_1 rfl) rfl
theorem dX2_readWindow_36 : decode cX2_readWindow 36 = .ok (.aload_n 0, 1) := fo_42 (fd_n 7 sr_X2_readWindow_1 rfl)
theorem dX2_readWindow_37 : decode cX2_readWindow 37 = .ok (.iconst 4, 1) := fo_7 (fd_n 8 sr_X2_readWindow_1 rfl)
theorem dX2_readWindow_38 : decode cX2_readWindow 38 = .ok (.invokevirtual 88, 3) := fo_182 (fd_n 9 sr_X2_readWindow_1 rfl) rfl
theorem dX2_readWindow_41 : decode cX2_readWindow 41 = .ok (.istore 4, 2) := fo_54 (fd_n 12 sr_X2_readWindow_1 rfl) rfl
theorem dX2_readWindow_43 : decode cX2_readWindow 43 = .ok (.aload_n 0, 1) := fo_42 (fd_n 14 sr_X2_readWindow_1 rfl)
theorem dX2_readWindow_44 : decode cX2_readWindow 44 = .ok (.ldc 104, 2) := fo_18 (fd_n 15 sr_X2_readWindow_1 rfl) rfl
theorem dX2_readWindow_46 : decode cX2_readWindow 46 = .ok (.invokevirtual 78, 3) := fo_182 (fd_n 17 sr_X2_readWindow_1 rfl) rfl
theorem dX2_readWindow_49 : decode cX2_readWindow 49 = .ok (.aload_n 0, 1) := fo_42 (fd_n 20 sr_X2_readWindow_1 rfl)
theorem dX2_readWindow_50 : decode cX2_readWindow 50 = .ok (.iconst 4, 1) := fo_7 (fd_n 21 sr_X2_readWindow_1 rfl)
theorem dX2_readWindow_51 : decode cX2_readWindow 51 = .ok (.invokevirtual 88, 3) := fo_182 (fd_n 22 sr_X2_readWindow_1 rfl) rfl
theorem dX2_readWindow_54 : decode cX2_readWindow 54 = .ok (.istore 5, 2) := fo_54 (fd_n 25 sr_X2_readWindow_1 rfl) rfl
theorem dX2_readWindow_56 : decode cX2_readWindow 56 = .ok (.aload_n 0, 1) := fo_42 (fd_n 27 sr_X2_readWindow_1 rfl)
theorem dX2_readWindow_57 : decode cX2_readWindow 57 = .ok (.getfield 31, 3) := fo_180 sr_X2_readWindow_2 rfl
theorem dX2_readWindow_60 : decode cX2_readWindow 60 = .ok (.ifCond .ge 13, 3) := fo_156 (fd_n 3 sr_X2_readWindow_2 rfl) (by decide +kernel)
theorem dX2_readWindow_63 : decode cX2_readWindow 63 = .ok (.aload_n 1, 1) := fo_43 (fd_n 6 sr_X2_readWindow_2 rfl)
theorem dX2_readWindow_64 : decode cX2_readWindow 64 = .ok (.iload_n 2, 1) := fo_28 (fd_n 7 sr_X2_readWindow_2 rfl)
theorem dX2_readWindow_65 : decode cX2_readWindow 65 = .ok (.iload_n 3, 1) := fo_29 (fd_n 8 sr_X2_readWindow_2 rfl)
theorem dX2_readWindow_66 : decode cX2_readWindow 66 = .ok (.iload 4, 2) := fo_21 (fd_n 9 sr_X2_readWindow_2 rfl) rfl
theorem dX2_readWindow_68 : decode cX2_readWindow 68 = .ok (.iload 5, 2) := fo_21 (fd_n 11 sr_X2_readWindow_2 rfl) rfl
theorem dX2_readWindow_70 : decode cX2_readWindow 70 = .ok (.invokevirtual 106, 3) := fo_182 (fd_n 13 sr_X2_readWindow_2 rfl) rfl
theorem dX2_readWindow_73 : decode cX2_readWindow 73 = .ok (.return_, 1) := fo_177 (fd_n 16 sr_X2_readWindow_2 rfl)
noncomputable def sl_X2_readPrice_1 : List UInt8 := 28 :: 29 :: 79 :: 177 :: []
noncomputable def sl_X2_readPrice_0 : List UInt8 := 42 :: 182 :: 0 :: 34 :: 42 :: 7 :: 182 :: 0 :: 88 :: 61 :: 42 :: 16 :: 100 :: 182 :: 0 :: 88 :: 62 :: 42 :: 180 :: 0 :: 31 :: 156 :: 0 :: 10 :: 43 :: 180 :: 0 :: 110 :: sl_X2_readPrice_1
theorem sr_X2_readPrice_0 : fd_at cX2_readPrice 0 sl_X2_readPrice_0 := fd_base (by decide +kernel)
theorem sr_X2_readPrice_1 : fd_at cX2_readPrice 28 sl_X2_readPrice_1 := fd_n 28 sr_X2_readPrice_0 rfl
theorem dX2_readPrice_0 : decode cX2_readPrice 0 = .ok (.aload_n 0, 1) := fo_42 sr_X2_readPrice_0
theorem dX2_readPrice_1 : decode cX2_readPrice 1 = .ok (.invokevirtual 34, 3) := fo_182 (fd_n 1 sr_X2_readPrice_0 rfl) rfl
theorem dX2_readPrice_4 : decode cX2_readPrice 4 = .ok (.aload_n 0, 1) := fo_42 (fd_n 4 sr_X2_readPrice_0 rfl)
theorem dX2_readPrice_5 : decode cX2_readPrice 5 = .ok (.iconst 4, 1) := fo_7 (fd_n 5 sr_X2_readPrice_0 rfl)
theorem dX2_readPrice_6 : decode cX2_readPrice 6 = .ok (.invokevirtual 88, 3) := fo_182 (fd_n 6 sr_X2_readPrice_0 rfl) rfl
theorem dX2_readPrice_9 : decode cX2_readPrice 9 = .ok (.istore_n 2, 1) := fo_61 (fd_n 9 sr_X2_readPrice_0 rfl)
theorem dX2_readPrice_10 : decode cX2_readPrice 10 = .ok (.aload_n 0, 1) := fo_42 (fd_n 10 sr_X2_readPrice_0 rfl)
theorem dX2_readPrice_11 : decode cX2_readPrice 11 = .ok (.bipush 100, 2) := fo_16 (fd_n 11 sr_X2_readPrice_0 rfl) (by decide +kernel)
theorem dX2_readPrice_13 : decode cX2_readPrice 13 = .ok (.invokevirtual 88, 3) := fo_182 (fd_n 13 sr_X2_readPrice_0 rfl) rfl
theorem dX2_readPrice_16 : decode cX2_readPrice 16 = .ok (.istore_n 3, 1) := fo_62 (fd_n 16 sr_X2_readPrice_0 rfl)
theorem dX2_readPrice_17 : decode cX2_readPrice 17 = .ok (.aload_n 0, 1) := fo_42 (fd_n 17 sr_X2_readPrice_0 rfl)
theorem dX2_readPrice_18 : decode cX2_readPrice 18 = .ok (.getfield 31, 3) := fo_180 (fd_n 18 sr_X2_readPrice_0 rfl) rfl
theorem dX2_readPrice_21 : decode cX2_readPrice 21 = .ok (.ifCond .ge 10, 3) := fo_156 (fd_n 21 sr_X2_readPrice_0 rfl) (by decide +kernel)
theorem dX2_readPrice_24 : decode cX2_readPrice 24 = .ok (.aload_n 1, 1) := fo_43 (fd_n 24 sr_X2_readPrice_0 rfl)
theorem dX2_readPrice_25 : decode cX2_readPrice 25 = .ok (.getfield 110, 3) := fo_180 (fd_n 25 sr_X2_readPrice_0 rfl) rfl
theorem dX2_readPrice_28 : decode cX2_readPrice 28 = .ok (.iload_n 2, 1) := fo_28 sr_X2_readPrice_1
theorem dX2_readPrice_29 : decode cX2_readPrice 29 = .ok (.iload_n 3, 1) := fo_29 (fd_n 1 sr_X2_readPrice_1 rfl)
theorem dX2_readPrice_30 : decode cX2_readPrice 30 = .ok (.iastore, 1) := fo_79 (fd_n 2 sr_X2_readPrice_1 rfl)
theorem dX2_readPrice_31 : decode cX2_readPrice 31 = .ok (.return_, 1) := fo_177 (fd_n 3 sr_X2_readPrice_1 rfl)
noncomputable def sl_X2_readClear_0 : List UInt8 := 42 :: 182 :: 0 :: 34 :: 42 :: 43 :: 4 :: 182 :: 0 :: 82 :: 61 :: 42 :: 180 :: 0 :: 31 :: 156 :: 0 :: 8 :: 43 :: 28 :: 182 :: 0 :: 113 :: 177 :: []
theorem sr_X2_readClear_0 : fd_at cX2_readClear 0 sl_X2_readClear_0 := fd_base (by decide +kernel)
theorem dX2_readClear_0 : decode cX2_readClear 0 = .ok (.aload_n 0, 1) := fo_42 sr_X2_readClear_0
theorem dX2_readClear_1 : decode cX2_readClear 1 = .ok (.invokevirtual 34, 3) := fo_182 (fd_n 1 sr_X2_readClear_0 rfl) rfl
theorem dX2_readClear_4 : decode cX2_readClear 4 = .ok (.aload_n 0, 1) := fo_42 (fd_n 4 sr_X2_readClear_0 rfl)
theorem dX2_readClear_5 : decode cX2_readClear 5 = .ok (.aload_n 1, 1) := fo_43 (fd_n 5 sr_X2_readClear_0 rfl)
theorem dX2_readClear_6 : decode cX2_readClear 6 = .ok (.iconst 1, 1) := fo_4 (fd_n 6 sr_X2_readClear_0 rfl)
theorem dX2_readClear_7 : decode cX2_readClear 7 = .ok (.invokevirtual 82, 3) := fo_182 (fd_n 7 sr_X2_readClear_0 rfl) rfl
theorem dX2_readClear_10 : decode cX2_readClear 10 = .ok (.istore_n 2, 1) := fo_61 (fd_n 10 sr_X2_readClear_0 rfl)
theorem dX2_readClear_11 : decode cX2_readClear 11 = .ok (.aload_n 0, 1) := fo_42 (fd_n 11 sr_X2_readClear_0 rfl)
theorem dX2_readClear_12 : decode cX2_readClear 12 = .ok (.getfield 31, 3) := fo_180 (fd_n 12 sr_X2_readClear_0 rfl) rfl
theorem dX2_readClear_15 : decode cX2_readClear 15 = .ok (.ifCond .ge 8, 3) := fo_156 (fd_n 15 sr_X2_readClear_0 rfl) (by decide +kernel)
theorem dX2_readClear_18 : decode cX2_readClear 18 = .ok (.aload_n 1, 1) := fo_43 (fd_n 18 sr_X2_readClear_0 rfl)
theorem dX2_readClear_19 : decode cX2_readClear 19 = .ok (.iload_n 2, 1) := fo_28 (fd_n 19 sr_X2_readClear_0 rfl)
theorem dX2_readClear_20 : decode cX2_readClear 20 = .ok (.invokevirtual 113, 3) := fo_182 (fd_n 20 sr_X2_readClear_0 rfl) rfl
theorem dX2_readClear_23 : decode cX2_readClear 23 = .ok (.return_, 1) := fo_177 (fd_n 23 sr_X2_readClear_0 rfl)
noncomputable def sl_X2_failHere_0 : List UInt8 := 42 :: 180 :: 0 :: 31 :: 156 :: 0 :: 11 :: 42 :: 42 :: 180 :: 0 :: 22 :: 181 :: 0 :: 31 :: 177 :: []
theorem sr_X2_failHere_0 : fd_at cX2_failHere 0 sl_X2_failHere_0 := fd_base (by decide +kernel)
theorem dX2_failHere_0 : decode cX2_failHere 0 = .ok (.aload_n 0, 1) := fo_42 sr_X2_failHere_0
theorem dX2_failHere_1 : decode cX2_failHere 1 = .ok (.getfield 31, 3) := fo_180 (fd_n 1 sr_X2_failHere_0 rfl) rfl
theorem dX2_failHere_4 : decode cX2_failHere 4 = .ok (.ifCond .ge 11, 3) := fo_156 (fd_n 4 sr_X2_failHere_0 rfl) (by decide +kernel)
theorem dX2_failHere_7 : decode cX2_failHere 7 = .ok (.aload_n 0, 1) := fo_42 (fd_n 7 sr_X2_failHere_0 rfl)
theorem dX2_failHere_8 : decode cX2_failHere 8 = .ok (.aload_n 0, 1) := fo_42 (fd_n 8 sr_X2_failHere_0 rfl)
theorem dX2_failHere_9 : decode cX2_failHere 9 = .ok (.getfield 22, 3) := fo_180 (fd_n 9 sr_X2_failHere_0 rfl) rfl
theorem dX2_failHere_12 : decode cX2_failHere 12 = .ok (.putfield 31, 3) := fo_181 (fd_n 12 sr_X2_failHere_0 rfl) rfl
theorem dX2_failHere_15 : decode cX2_failHere 15 = .ok (.return_, 1) := fo_177 (fd_n 15 sr_X2_failHere_0 rfl)
noncomputable def sl_X2_takeWord_0 : List UInt8 := 42 :: 180 :: 0 :: 31 :: 156 :: 0 :: 18 :: 42 :: 43 :: 182 :: 0 :: 54 :: 153 :: 0 :: 10 :: 42 :: 182 :: 0 :: 34 :: 167 :: 0 :: 7 :: 42 :: 182 :: 0 :: 41 :: 177 :: []
theorem sr_X2_takeWord_0 : fd_at cX2_takeWord 0 sl_X2_takeWord_0 := fd_base (by decide +kernel)
theorem dX2_takeWord_0 : decode cX2_takeWord 0 = .ok (.aload_n 0, 1) := fo_42 sr_X2_takeWord_0
theorem dX2_takeWord_1 : decode cX2_takeWord 1 = .ok (.getfield 31, 3) := fo_180 (fd_n 1 sr_X2_takeWord_0 rfl) rfl
theorem dX2_takeWord_4 : decode cX2_takeWord 4 = .ok (.ifCond .ge 18, 3) := fo_156 (fd_n 4 sr_X2_takeWord_0 rfl) (by decide +kernel)
theorem dX2_takeWord_7 : decode cX2_takeWord 7 = .ok (.aload_n 0, 1) := fo_42 (fd_n 7 sr_X2_takeWord_0 rfl)
theorem dX2_takeWord_8 : decode cX2_takeWord 8 = .ok (.aload_n 1, 1) := fo_43 (fd_n 8 sr_X2_takeWord_0 rfl)
theorem dX2_takeWord_9 : decode cX2_takeWord 9 = .ok (.invokevirtual 54, 3) := fo_182 (fd_n 9 sr_X2_takeWord_0 rfl) rfl
theorem dX2_takeWord_12 : decode cX2_takeWord 12 = .ok (.ifCond .eq 10, 3) := fo_153 (fd_n 12 sr_X2_takeWord_0 rfl) (by decide +kernel)
theorem dX2_takeWord_15 : decode cX2_takeWord 15 = .ok (.aload_n 0, 1) := fo_42 (fd_n 15 sr_X2_takeWord_0 rfl)
theorem dX2_takeWord_16 : decode cX2_takeWord 16 = .ok (.invokevirtual 34, 3) := fo_182 (fd_n 16 sr_X2_takeWord_0 rfl) rfl
theorem dX2_takeWord_19 : decode cX2_takeWord 19 = .ok (.goto 7, 3) := fo_167 (fd_n 19 sr_X2_takeWord_0 rfl) (by decide +kernel)
theorem dX2_takeWord_22 : decode cX2_takeWord 22 = .ok (.aload_n 0, 1) := fo_42 (fd_n 22 sr_X2_takeWord_0 rfl)
theorem dX2_takeWord_23 : decode cX2_takeWord 23 = .ok (.invokevirtual 41, 3) := fo_182 (fd_n 23 sr_X2_takeWord_0 rfl) rfl
theorem dX2_takeWord_26 : decode cX2_takeWord 26 = .ok (.return_, 1) := fo_177 (fd_n 26 sr_X2_takeWord_0 rfl)
noncomputable def sl_X2_takeNumber_1 : List UInt8 := 172 :: 42 :: 180 :: 0 :: 28 :: 61 :: 42 :: 182 :: 0 :: 34 :: 28 :: 172 :: []
noncomputable def sl_X2_takeNumber_0 : List UInt8 := 42 :: 180 :: 0 :: 31 :: 156 :: 0 :: 19 :: 42 :: 180 :: 0 :: 19 :: 5 :: 160 :: 0 :: 11 :: 42 :: 180 :: 0 :: 28 :: 27 :: 161 :: 0 :: 9 :: 42 :: 182 :: 0 :: 41 :: 3 :: sl_X2_takeNumber_1
theorem sr_X2_takeNumber_0 : fd_at cX2_takeNumber 0 sl_X2_takeNumber_0 := fd_base (by decide +kernel)
theorem sr_X2_takeNumber_1 : fd_at cX2_takeNumber 28 sl_X2_takeNumber_1 := fd_n 28 sr_X2_takeNumber_0 rfl
theorem dX2_takeNumber_0 : decode cX2_takeNumber 0 = .ok (.aload_n 0, 1) := fo_42 sr_X2_takeNumber_0
theorem dX2_takeNumber_1 : decode cX2_takeNumber 1 = .ok (.getfield 31, 3) := fo_180 (fd_n 1 sr_X2_takeNumber_0 rfl) rfl
theorem dX2_takeNumber_4 : decode cX2_takeNumber 4 = .ok (.ifCond .ge 19, 3) := fo_156 (fd_n 4 sr_X2_takeNumber_0 rfl) (by decide +kernel)
theorem dX2_takeNumber_7 : decode cX2_takeNumber 7 = .ok (.aload_n 0, 1) := fo_42 (fd_n 7 sr_X2_takeNumber_0 rfl)
theorem dX2_takeNumber_8 : decode cX2_takeNumber 8 = .ok (.getfield 19, 3) := fo_180 (fd_n 8 sr_X2_takeNumber_0 rfl) rfl
theorem dX2_takeNumber_11 : decode cX2_takeNumber 11 = .ok (.iconst 2, 1) := fo_5 (fd_n 11 sr_X2_takeNumber_0 rfl)
theorem dX2_takeNumber_12 : decode cX2_takeNumber 12 = .ok (.if_icmp .ne 11, 3) := fo_160 (fd_n 12 sr_X2_takeNumber_0 rfl) (by decide +kernel)
theorem dX2_takeNumber_15 : decode cX2_takeNumber 15 = .ok (.aload_n 0, 1) := fo_42 (fd_n 15 sr_X2_takeNumber_0 rfl)
theorem dX2_takeNumber_16 : decode cX2_takeNumber 16 = .ok (.getfield 28, 3) := fo_180 (fd_n 16 sr_X2_takeNumber_0 rfl) rfl
theorem dX2_takeNumber_19 : decode cX2_takeNumber 19 = .ok (.iload_n 1, 1) := fo_27 (fd_n 19 sr_X2_takeNumber_0 rfl)
theorem dX2_takeNumber_20 : decode cX2_takeNumber 20 = .ok (.if_icmp .lt 9, 3) := fo_161 (fd_n 20 sr_X2_takeNumber_0 rfl) (by decide +kernel)
theorem dX2_takeNumber_23 : decode cX2_takeNumber 23 = .ok (.aload_n 0, 1) := fo_42 (fd_n 23 sr_X2_takeNumber_0 rfl)
theorem dX2_takeNumber_24 : decode cX2_takeNumber 24 = .ok (.invokevirtual 41, 3) := fo_182 (fd_n 24 sr_X2_takeNumber_0 rfl) rfl
theorem dX2_takeNumber_27 : decode cX2_takeNumber 27 = .ok (.iconst 0, 1) := fo_3 (fd_n 27 sr_X2_takeNumber_0 rfl)
theorem dX2_takeNumber_28 : decode cX2_takeNumber 28 = .ok (.ireturn, 1) := fo_172 sr_X2_takeNumber_1
theorem dX2_takeNumber_29 : decode cX2_takeNumber 29 = .ok (.aload_n 0, 1) := fo_42 (fd_n 1 sr_X2_takeNumber_1 rfl)
theorem dX2_takeNumber_30 : decode cX2_takeNumber 30 = .ok (.getfield 28, 3) := fo_180 (fd_n 2 sr_X2_takeNumber_1 rfl) rfl
theorem dX2_takeNumber_33 : decode cX2_takeNumber 33 = .ok (.istore_n 2, 1) := fo_61 (fd_n 5 sr_X2_takeNumber_1 rfl)
theorem dX2_takeNumber_34 : decode cX2_takeNumber 34 = .ok (.aload_n 0, 1) := fo_42 (fd_n 6 sr_X2_takeNumber_1 rfl)
theorem dX2_takeNumber_35 : decode cX2_takeNumber 35 = .ok (.invokevirtual 34, 3) := fo_182 (fd_n 7 sr_X2_takeNumber_1 rfl) rfl
theorem dX2_takeNumber_38 : decode cX2_takeNumber 38 = .ok (.iload_n 2, 1) := fo_28 (fd_n 10 sr_X2_takeNumber_1 rfl)
theorem dX2_takeNumber_39 : decode cX2_takeNumber 39 = .ok (.ireturn, 1) := fo_172 (fd_n 11 sr_X2_takeNumber_1 rfl)
noncomputable def sl_X2_takeLot_1 : List UInt8 := 182 :: 0 :: 117 :: 28 :: 159 :: 0 :: 9 :: 42 :: 182 :: 0 :: 41 :: 3 :: 172 :: 42 :: 180 :: 0 :: 28 :: 62 :: 42 :: 182 :: 0 :: 34 :: 29 :: 172 :: []
noncomputable def sl_X2_takeLot_0 : List UInt8 := 42 :: 180 :: 0 :: 31 :: 156 :: 0 :: 32 :: 42 :: 180 :: 0 :: 19 :: 5 :: 160 :: 0 :: 24 :: 42 :: 180 :: 0 :: 28 :: 16 :: 25 :: 162 :: 0 :: 15 :: 43 :: 42 :: 180 :: 0 :: 28 :: sl_X2_takeLot_1
theorem sr_X2_takeLot_0 : fd_at cX2_takeLot 0 sl_X2_takeLot_0 := fd_base (by decide +kernel)
theorem sr_X2_takeLot_1 : fd_at cX2_takeLot 29 sl_X2_takeLot_1 := fd_n 29 sr_X2_takeLot_0 rfl
theorem dX2_takeLot_0 : decode cX2_takeLot 0 = .ok (.aload_n 0, 1) := fo_42 sr_X2_takeLot_0
theorem dX2_takeLot_1 : decode cX2_takeLot 1 = .ok (.getfield 31, 3) := fo_180 (fd_n 1 sr_X2_takeLot_0 rfl) rfl
theorem dX2_takeLot_4 : decode cX2_takeLot 4 = .ok (.ifCond .ge 32, 3) := fo_156 (fd_n 4 sr_X2_takeLot_0 rfl) (by decide +kernel)
theorem dX2_takeLot_7 : decode cX2_takeLot 7 = .ok (.aload_n 0, 1) := fo_42 (fd_n 7 sr_X2_takeLot_0 rfl)
theorem dX2_takeLot_8 : decode cX2_takeLot 8 = .ok (.getfield 19, 3) := fo_180 (fd_n 8 sr_X2_takeLot_0 rfl) rfl
theorem dX2_takeLot_11 : decode cX2_takeLot 11 = .ok (.iconst 2, 1) := fo_5 (fd_n 11 sr_X2_takeLot_0 rfl)
theorem dX2_takeLot_12 : decode cX2_takeLot 12 = .ok (.if_icmp .ne 24, 3) := fo_160 (fd_n 12 sr_X2_takeLot_0 rfl) (by decide +kernel)
theorem dX2_takeLot_15 : decode cX2_takeLot 15 = .ok (.aload_n 0, 1) := fo_42 (fd_n 15 sr_X2_takeLot_0 rfl)
theorem dX2_takeLot_16 : decode cX2_takeLot 16 = .ok (.getfield 28, 3) := fo_180 (fd_n 16 sr_X2_takeLot_0 rfl) rfl
theorem dX2_takeLot_19 : decode cX2_takeLot 19 = .ok (.bipush 25, 2) := fo_16 (fd_n 19 sr_X2_takeLot_0 rfl) (by decide +kernel)
theorem dX2_takeLot_21 : decode cX2_takeLot 21 = .ok (.if_icmp .ge 15, 3) := fo_162 (fd_n 21 sr_X2_takeLot_0 rfl) (by decide +kernel)
theorem dX2_takeLot_24 : decode cX2_takeLot 24 = .ok (.aload_n 1, 1) := fo_43 (fd_n 24 sr_X2_takeLot_0 rfl)
theorem dX2_takeLot_25 : decode cX2_takeLot 25 = .ok (.aload_n 0, 1) := fo_42 (fd_n 25 sr_X2_takeLot_0 rfl)
theorem dX2_takeLot_26 : decode cX2_takeLot 26 = .ok (.getfield 28, 3) := fo_180 (fd_n 26 sr_X2_takeLot_0 rfl) rfl
theorem dX2_takeLot_29 : decode cX2_takeLot 29 = .ok (.invokevirtual 117, 3) := fo_182 sr_X2_takeLot_1 rfl
theorem dX2_takeLot_32 : decode cX2_takeLot 32 = .ok (.iload_n 2, 1) := fo_28 (fd_n 3 sr_X2_takeLot_1 rfl)
theorem dX2_takeLot_33 : decode cX2_takeLot 33 = .ok (.if_icmp .eq 9, 3) := fo_159 (fd_n 4 sr_X2_takeLot_1 rfl) (by decide +kernel)
theorem dX2_takeLot_36 : decode cX2_takeLot 36 = .ok (.aload_n 0, 1) := fo_42 (fd_n 7 sr_X2_takeLot_1 rfl)
theorem dX2_takeLot_37 : decode cX2_takeLot 37 = .ok (.invokevirtual 41, 3) := fo_182 (fd_n 8 sr_X2_takeLot_1 rfl) rfl
theorem dX2_takeLot_40 : decode cX2_takeLot 40 = .ok (.iconst 0, 1) := fo_3 (fd_n 11 sr_X2_takeLot_1 rfl)
theorem dX2_takeLot_41 : decode cX2_takeLot 41 = .ok (.ireturn, 1) := fo_172 (fd_n 12 sr_X2_takeLot_1 rfl)
theorem dX2_takeLot_42 : decode cX2_takeLot 42 = .ok (.aload_n 0, 1) := fo_42 (fd_n 13 sr_X2_takeLot_1 rfl)
theorem dX2_takeLot_43 : decode cX2_takeLot 43 = .ok (.getfield 28, 3) := fo_180 (fd_n 14 sr_X2_takeLot_1 rfl) rfl
theorem dX2_takeLot_46 : decode cX2_takeLot 46 = .ok (.istore_n 3, 1) := fo_62 (fd_n 17 sr_X2_takeLot_1 rfl)
theorem dX2_takeLot_47 : decode cX2_takeLot 47 = .ok (.aload_n 0, 1) := fo_42 (fd_n 18 sr_X2_takeLot_1 rfl)
theorem dX2_takeLot_48 : decode cX2_takeLot 48 = .ok (.invokevirtual 34, 3) := fo_182 (fd_n 19 sr_X2_takeLot_1 rfl) rfl
theorem dX2_takeLot_51 : decode cX2_takeLot 51 = .ok (.iload_n 3, 1) := fo_29 (fd_n 22 sr_X2_takeLot_1 rfl)
theorem dX2_takeLot_52 : decode cX2_takeLot 52 = .ok (.ireturn, 1) := fo_172 (fd_n 23 sr_X2_takeLot_1 rfl)
noncomputable def sl_X2_kindOfWord_2 : List UInt8 := 18 :: 131 :: 182 :: 0 :: 54 :: 153 :: 0 :: 5 :: 8 :: 172 :: 42 :: 18 :: 133 :: 182 :: 0 :: 54 :: 153 :: 0 :: 8 :: 16 :: 6 :: 167 :: 0 :: 4 :: 2 :: 172 :: []
noncomputable def sl_X2_kindOfWord_1 : List UInt8 := 153 :: 0 :: 5 :: 5 :: 172 :: 42 :: 18 :: 127 :: 182 :: 0 :: 54 :: 153 :: 0 :: 5 :: 6 :: 172 :: 42 :: 18 :: 129 :: 182 :: 0 :: 54 :: 153 :: 0 :: 5 :: 7 :: 172 :: 42 :: sl_X2_kindOfWord_2
noncomputable def sl_X2_kindOfWord_0 : List UInt8 := 42 :: 18 :: 121 :: 182 :: 0 :: 54 :: 153 :: 0 :: 5 :: 3 :: 172 :: 42 :: 18 :: 123 :: 182 :: 0 :: 54 :: 153 :: 0 :: 5 :: 4 :: 172 :: 42 :: 18 :: 125 :: 182 :: 0 :: 54 :: sl_X2_kindOfWord_1
theorem sr_X2_kindOfWord_0 : fd_at cX2_kindOfWord 0 sl_X2_kindOfWord_0 := fd_base (by decide +kernel)
theorem sr_X2_kindOfWord_1 : fd_at cX2_kindOfWord 28 sl_X2_kindOfWord_1 := fd_n 28 sr_X2_kindOfWord_0 rfl
theorem sr_X2_kindOfWord_2 : fd_at cX2_kindOfWord 56 sl_X2_kindOfWord_2 := fd_n 28 sr_X2_kindOfWord_1 rfl
theorem dX2_kindOfWord_0 : decode cX2_kindOfWord 0 = .ok (.aload_n 0, 1) := fo_42 sr_X2_kindOfWord_0
theorem dX2_kindOfWord_1 : decode cX2_kindOfWord 1 = .ok (.ldc 121, 2) := fo_18 (fd_n 1 sr_X2_kindOfWord_0 rfl) rfl
theorem dX2_kindOfWord_3 : decode cX2_kindOfWord 3 = .ok (.invokevirtual 54, 3) := fo_182 (fd_n 3 sr_X2_kindOfWord_0 rfl) rfl
theorem dX2_kindOfWord_6 : decode cX2_kindOfWord 6 = .ok (.ifCond .eq 5, 3) := fo_153 (fd_n 6 sr_X2_kindOfWord_0 rfl) (by decide +kernel)
theorem dX2_kindOfWord_9 : decode cX2_kindOfWord 9 = .ok (.iconst 0, 1) := fo_3 (fd_n 9 sr_X2_kindOfWord_0 rfl)
theorem dX2_kindOfWord_10 : decode cX2_kindOfWord 10 = .ok (.ireturn, 1) := fo_172 (fd_n 10 sr_X2_kindOfWord_0 rfl)
theorem dX2_kindOfWord_11 : decode cX2_kindOfWord 11 = .ok (.aload_n 0, 1) := fo_42 (fd_n 11 sr_X2_kindOfWord_0 rfl)
theorem dX2_kindOfWord_12 : decode cX2_kindOfWord 12 = .ok (.ldc 123, 2) := fo_18 (fd_n 12 sr_X2_kindOfWord_0 rfl) rfl
theorem dX2_kindOfWord_14 : decode cX2_kindOfWord 14 = .ok (.invokevirtual 54, 3) := fo_182 (fd_n 14 sr_X2_kindOfWord_0 rfl) rfl
theorem dX2_kindOfWord_17 : decode cX2_kindOfWord 17 = .ok (.ifCond .eq 5, 3) := fo_153 (fd_n 17 sr_X2_kindOfWord_0 rfl) (by decide +kernel)
theorem dX2_kindOfWord_20 : decode cX2_kindOfWord 20 = .ok (.iconst 1, 1) := fo_4 (fd_n 20 sr_X2_kindOfWord_0 rfl)
theorem dX2_kindOfWord_21 : decode cX2_kindOfWord 21 = .ok (.ireturn, 1) := fo_172 (fd_n 21 sr_X2_kindOfWord_0 rfl)
theorem dX2_kindOfWord_22 : decode cX2_kindOfWord 22 = .ok (.aload_n 0, 1) := fo_42 (fd_n 22 sr_X2_kindOfWord_0 rfl)
theorem dX2_kindOfWord_23 : decode cX2_kindOfWord 23 = .ok (.ldc 125, 2) := fo_18 (fd_n 23 sr_X2_kindOfWord_0 rfl) rfl
theorem dX2_kindOfWord_25 : decode cX2_kindOfWord 25 = .ok (.invokevirtual 54, 3) := fo_182 (fd_n 25 sr_X2_kindOfWord_0 rfl) rfl
theorem dX2_kindOfWord_28 : decode cX2_kindOfWord 28 = .ok (.ifCond .eq 5, 3) := fo_153 sr_X2_kindOfWord_1 (by decide +kernel)
theorem dX2_kindOfWord_31 : decode cX2_kindOfWord 31 = .ok (.iconst 2, 1) := fo_5 (fd_n 3 sr_X2_kindOfWord_1 rfl)
theorem dX2_kindOfWord_32 : decode cX2_kindOfWord 32 = .ok (.ireturn, 1) := fo_172 (fd_n 4 sr_X2_kindOfWord_1 rfl)
theorem dX2_kindOfWord_33 : decode cX2_kindOfWord 33 = .ok (.aload_n 0, 1) := fo_42 (fd_n 5 sr_X2_kindOfWord_1 rfl)
theorem dX2_kindOfWord_34 : decode cX2_kindOfWord 34 = .ok (.ldc 127, 2) := fo_18 (fd_n 6 sr_X2_kindOfWord_1 rfl) rfl
theorem dX2_kindOfWord_36 : decode cX2_kindOfWord 36 = .ok (.invokevirtual 54, 3) := fo_182 (fd_n 8 sr_X2_kindOfWord_1 rfl) rfl
theorem dX2_kindOfWord_39 : decode cX2_kindOfWord 39 = .ok (.ifCond .eq 5, 3) := fo_153 (fd_n 11 sr_X2_kindOfWord_1 rfl) (by decide +kernel)
theorem dX2_kindOfWord_42 : decode cX2_kindOfWord 42 = .ok (.iconst 3, 1) := fo_6 (fd_n 14 sr_X2_kindOfWord_1 rfl)
theorem dX2_kindOfWord_43 : decode cX2_kindOfWord 43 = .ok (.ireturn, 1) := fo_172 (fd_n 15 sr_X2_kindOfWord_1 rfl)
theorem dX2_kindOfWord_44 : decode cX2_kindOfWord 44 = .ok (.aload_n 0, 1) := fo_42 (fd_n 16 sr_X2_kindOfWord_1 rfl)
theorem dX2_kindOfWord_45 : decode cX2_kindOfWord 45 = .ok (.ldc 129, 2) := fo_18 (fd_n 17 sr_X2_kindOfWord_1 rfl) rfl
theorem dX2_kindOfWord_47 : decode cX2_kindOfWord 47 = .ok (.invokevirtual 54, 3) := fo_182 (fd_n 19 sr_X2_kindOfWord_1 rfl) rfl
theorem dX2_kindOfWord_50 : decode cX2_kindOfWord 50 = .ok (.ifCond .eq 5, 3) := fo_153 (fd_n 22 sr_X2_kindOfWord_1 rfl) (by decide +kernel)
theorem dX2_kindOfWord_53 : decode cX2_kindOfWord 53 = .ok (.iconst 4, 1) := fo_7 (fd_n 25 sr_X2_kindOfWord_1 rfl)
theorem dX2_kindOfWord_54 : decode cX2_kindOfWord 54 = .ok (.ireturn, 1) := fo_172 (fd_n 26 sr_X2_kindOfWord_1 rfl)
theorem dX2_kindOfWord_55 : decode cX2_kindOfWord 55 = .ok (.aload_n 0, 1) := fo_42 (fd_n 27 sr_X2_kindOfWord_1 rfl)
theorem dX2_kindOfWord_56 : decode cX2_kindOfWord 56 = .ok (.ldc 131, 2) := fo_18 sr_X2_kindOfWord_2 rfl
theorem dX2_kindOfWord_58 : decode cX2_kindOfWord 58 = .ok (.invokevirtual 54, 3) := fo_182 (fd_n 2 sr_X2_kindOfWord_2 rfl) rfl
theorem dX2_kindOfWord_61 : decode cX2_kindOfWord 61 = .ok (.ifCond .eq 5, 3) := fo_153 (fd_n 5 sr_X2_kindOfWord_2 rfl) (by decide +kernel)
theorem dX2_kindOfWord_64 : decode cX2_kindOfWord 64 = .ok (.iconst 5, 1) := fo_8 (fd_n 8 sr_X2_kindOfWord_2 rfl)
theorem dX2_kindOfWord_65 : decode cX2_kindOfWord 65 = .ok (.ireturn, 1) := fo_172 (fd_n 9 sr_X2_kindOfWord_2 rfl)
theorem dX2_kindOfWord_66 : decode cX2_kindOfWord 66 = .ok (.aload_n 0, 1) := fo_42 (fd_n 10 sr_X2_kindOfWord_2 rfl)
theorem dX2_kindOfWord_67 : decode cX2_kindOfWord 67 = .ok (.ldc 133, 2) := fo_18 (fd_n 11 sr_X2_kindOfWord_2 rfl) rfl
theorem dX2_kindOfWord_69 : decode cX2_kindOfWord 69 = .ok (.invokevirtual 54, 3) := fo_182 (fd_n 13 sr_X2_kindOfWord_2 rfl) rfl
theorem dX2_kindOfWord_72 : decode cX2_kindOfWord 72 = .ok (.ifCond .eq 8, 3) := fo_153 (fd_n 16 sr_X2_kindOfWord_2 rfl) (by decide +kernel)
theorem dX2_kindOfWord_75 : decode cX2_kindOfWord 75 = .ok (.bipush 6, 2) := fo_16 (fd_n 19 sr_X2_kindOfWord_2 rfl) (by decide +kernel)
theorem dX2_kindOfWord_77 : decode cX2_kindOfWord 77 = .ok (.goto 4, 3) := fo_167 (fd_n 21 sr_X2_kindOfWord_2 rfl) (by decide +kernel)
theorem dX2_kindOfWord_80 : decode cX2_kindOfWord 80 = .ok (.iconst (-1), 1) := fo_2 (fd_n 24 sr_X2_kindOfWord_2 rfl)
theorem dX2_kindOfWord_81 : decode cX2_kindOfWord 81 = .ok (.ireturn, 1) := fo_172 (fd_n 25 sr_X2_kindOfWord_2 rfl)
noncomputable def sl_X2_isWord_2 : List UInt8 := 172 :: 132 :: 2 :: 1 :: 167 :: 255 :: 224 :: 4 :: 172 :: []
noncomputable def sl_X2_isWord_1 : List UInt8 := 28 :: 43 :: 182 :: 0 :: 135 :: 162 :: 0 :: 30 :: 42 :: 180 :: 0 :: 9 :: 42 :: 180 :: 0 :: 22 :: 28 :: 96 :: 46 :: 43 :: 28 :: 182 :: 0 :: 139 :: 159 :: 0 :: 5 :: 3 :: sl_X2_isWord_2
noncomputable def sl_X2_isWord_0 : List UInt8 := 42 :: 180 :: 0 :: 19 :: 4 :: 160 :: 0 :: 19 :: 42 :: 180 :: 0 :: 25 :: 42 :: 180 :: 0 :: 22 :: 100 :: 43 :: 182 :: 0 :: 135 :: 159 :: 0 :: 5 :: 3 :: 172 :: 3 :: 61 :: sl_X2_isWord_1
theorem sr_X2_isWord_0 : fd_at cX2_isWord 0 sl_X2_isWord_0 := fd_base (by decide +kernel)
theorem sr_X2_isWord_1 : fd_at cX2_isWord 28 sl_X2_isWord_1 := fd_n 28 sr_X2_isWord_0 rfl
theorem sr_X2_isWord_2 : fd_at cX2_isWord 56 sl_X2_isWord_2 := fd_n 28 sr_X2_isWord_1 rfl
theorem dX2_isWord_0 : decode cX2_isWord 0 = .ok (.aload_n 0, 1) := fo_42 sr_X2_isWord_0
theorem dX2_isWord_1 : decode cX2_isWord 1 = .ok (.getfield 19, 3) := fo_180 (fd_n 1 sr_X2_isWord_0 rfl) rfl
theorem dX2_isWord_4 : decode cX2_isWord 4 = .ok (.iconst 1, 1) := fo_4 (fd_n 4 sr_X2_isWord_0 rfl)
theorem dX2_isWord_5 : decode cX2_isWord 5 = .ok (.if_icmp .ne 19, 3) := fo_160 (fd_n 5 sr_X2_isWord_0 rfl) (by decide +kernel)
theorem dX2_isWord_8 : decode cX2_isWord 8 = .ok (.aload_n 0, 1) := fo_42 (fd_n 8 sr_X2_isWord_0 rfl)
theorem dX2_isWord_9 : decode cX2_isWord 9 = .ok (.getfield 25, 3) := fo_180 (fd_n 9 sr_X2_isWord_0 rfl) rfl
theorem dX2_isWord_12 : decode cX2_isWord 12 = .ok (.aload_n 0, 1) := fo_42 (fd_n 12 sr_X2_isWord_0 rfl)
theorem dX2_isWord_13 : decode cX2_isWord 13 = .ok (.getfield 22, 3) := fo_180 (fd_n 13 sr_X2_isWord_0 rfl) rfl
theorem dX2_isWord_16 : decode cX2_isWord 16 = .ok (.isub, 1) := fo_100 (fd_n 16 sr_X2_isWord_0 rfl)
theorem dX2_isWord_17 : decode cX2_isWord 17 = .ok (.aload_n 1, 1) := fo_43 (fd_n 17 sr_X2_isWord_0 rfl)
theorem dX2_isWord_18 : decode cX2_isWord 18 = .ok (.invokevirtual 135, 3) := fo_182 (fd_n 18 sr_X2_isWord_0 rfl) rfl
theorem dX2_isWord_21 : decode cX2_isWord 21 = .ok (.if_icmp .eq 5, 3) := fo_159 (fd_n 21 sr_X2_isWord_0 rfl) (by decide +kernel)
theorem dX2_isWord_24 : decode cX2_isWord 24 = .ok (.iconst 0, 1) := fo_3 (fd_n 24 sr_X2_isWord_0 rfl)
theorem dX2_isWord_25 : decode cX2_isWord 25 = .ok (.ireturn, 1) := fo_172 (fd_n 25 sr_X2_isWord_0 rfl)
theorem dX2_isWord_26 : decode cX2_isWord 26 = .ok (.iconst 0, 1) := fo_3 (fd_n 26 sr_X2_isWord_0 rfl)
theorem dX2_isWord_27 : decode cX2_isWord 27 = .ok (.istore_n 2, 1) := fo_61 (fd_n 27 sr_X2_isWord_0 rfl)
theorem dX2_isWord_28 : decode cX2_isWord 28 = .ok (.iload_n 2, 1) := fo_28 sr_X2_isWord_1
theorem dX2_isWord_29 : decode cX2_isWord 29 = .ok (.aload_n 1, 1) := fo_43 (fd_n 1 sr_X2_isWord_1 rfl)
theorem dX2_isWord_30 : decode cX2_isWord 30 = .ok (.invokevirtual 135, 3) := fo_182 (fd_n 2 sr_X2_isWord_1 rfl) rfl
theorem dX2_isWord_33 : decode cX2_isWord 33 = .ok (.if_icmp .ge 30, 3) := fo_162 (fd_n 5 sr_X2_isWord_1 rfl) (by decide +kernel)
theorem dX2_isWord_36 : decode cX2_isWord 36 = .ok (.aload_n 0, 1) := fo_42 (fd_n 8 sr_X2_isWord_1 rfl)
theorem dX2_isWord_37 : decode cX2_isWord 37 = .ok (.getfield 9, 3) := fo_180 (fd_n 9 sr_X2_isWord_1 rfl) rfl
theorem dX2_isWord_40 : decode cX2_isWord 40 = .ok (.aload_n 0, 1) := fo_42 (fd_n 12 sr_X2_isWord_1 rfl)
theorem dX2_isWord_41 : decode cX2_isWord 41 = .ok (.getfield 22, 3) := fo_180 (fd_n 13 sr_X2_isWord_1 rfl) rfl
theorem dX2_isWord_44 : decode cX2_isWord 44 = .ok (.iload_n 2, 1) := fo_28 (fd_n 16 sr_X2_isWord_1 rfl)
theorem dX2_isWord_45 : decode cX2_isWord 45 = .ok (.iadd, 1) := fo_96 (fd_n 17 sr_X2_isWord_1 rfl)
theorem dX2_isWord_46 : decode cX2_isWord 46 = .ok (.iaload, 1) := fo_46 (fd_n 18 sr_X2_isWord_1 rfl)
theorem dX2_isWord_47 : decode cX2_isWord 47 = .ok (.aload_n 1, 1) := fo_43 (fd_n 19 sr_X2_isWord_1 rfl)
theorem dX2_isWord_48 : decode cX2_isWord 48 = .ok (.iload_n 2, 1) := fo_28 (fd_n 20 sr_X2_isWord_1 rfl)
theorem dX2_isWord_49 : decode cX2_isWord 49 = .ok (.invokevirtual 139, 3) := fo_182 (fd_n 21 sr_X2_isWord_1 rfl) rfl
theorem dX2_isWord_52 : decode cX2_isWord 52 = .ok (.if_icmp .eq 5, 3) := fo_159 (fd_n 24 sr_X2_isWord_1 rfl) (by decide +kernel)
theorem dX2_isWord_55 : decode cX2_isWord 55 = .ok (.iconst 0, 1) := fo_3 (fd_n 27 sr_X2_isWord_1 rfl)
theorem dX2_isWord_56 : decode cX2_isWord 56 = .ok (.ireturn, 1) := fo_172 sr_X2_isWord_2
theorem dX2_isWord_57 : decode cX2_isWord 57 = .ok (.iinc 2 1, 3) := fo_132 (fd_n 1 sr_X2_isWord_2 rfl) rfl (by decide +kernel)
theorem dX2_isWord_60 : decode cX2_isWord 60 = .ok (.goto (-32), 3) := fo_167 (fd_n 4 sr_X2_isWord_2 rfl) (by decide +kernel)
theorem dX2_isWord_63 : decode cX2_isWord 63 = .ok (.iconst 1, 1) := fo_4 (fd_n 7 sr_X2_isWord_2 rfl)
theorem dX2_isWord_64 : decode cX2_isWord 64 = .ok (.ireturn, 1) := fo_172 (fd_n 8 sr_X2_isWord_2 rfl)
noncomputable def sl_X2_nextToken_6 : List UInt8 := 4 :: 96 :: 181 :: 0 :: 25 :: 167 :: 255 :: 178 :: 177 :: []
noncomputable def sl_X2_nextToken_5 : List UInt8 := 104 :: 42 :: 180 :: 0 :: 9 :: 42 :: 180 :: 0 :: 25 :: 46 :: 96 :: 16 :: 48 :: 100 :: 184 :: 0 :: 146 :: 167 :: 0 :: 4 :: 3 :: 181 :: 0 :: 28 :: 42 :: 89 :: 180 :: 0 :: 25 :: sl_X2_nextToken_6
noncomputable def sl_X2_nextToken_4 : List UInt8 := 182 :: 0 :: 143 :: 42 :: 180 :: 0 :: 19 :: 160 :: 0 :: 58 :: 42 :: 42 :: 180 :: 0 :: 19 :: 5 :: 160 :: 0 :: 32 :: 17 :: 3 :: 232 :: 16 :: 10 :: 42 :: 180 :: 0 :: 28 :: sl_X2_nextToken_5
noncomputable def sl_X2_nextToken_3 : List UInt8 := 4 :: 159 :: 0 :: 11 :: 42 :: 180 :: 0 :: 19 :: 5 :: 160 :: 0 :: 84 :: 42 :: 180 :: 0 :: 25 :: 42 :: 180 :: 0 :: 15 :: 162 :: 0 :: 73 :: 42 :: 42 :: 180 :: 0 :: 25 :: sl_X2_nextToken_4
noncomputable def sl_X2_nextToken_2 : List UInt8 := 42 :: 3 :: 181 :: 0 :: 28 :: 42 :: 180 :: 0 :: 19 :: 6 :: 160 :: 0 :: 16 :: 42 :: 89 :: 180 :: 0 :: 25 :: 4 :: 96 :: 181 :: 0 :: 25 :: 167 :: 0 :: 100 :: 42 :: 180 :: 0 :: 19 :: sl_X2_nextToken_3
noncomputable def sl_X2_nextToken_1 : List UInt8 := 4 :: 96 :: 181 :: 0 :: 25 :: 167 :: 255 :: 221 :: 42 :: 42 :: 180 :: 0 :: 25 :: 181 :: 0 :: 22 :: 42 :: 42 :: 42 :: 180 :: 0 :: 22 :: 182 :: 0 :: 143 :: 181 :: 0 :: 19 :: sl_X2_nextToken_2
noncomputable def sl_X2_nextToken_0 : List UInt8 := 42 :: 180 :: 0 :: 25 :: 42 :: 180 :: 0 :: 15 :: 162 :: 0 :: 30 :: 42 :: 180 :: 0 :: 9 :: 42 :: 180 :: 0 :: 25 :: 46 :: 16 :: 32 :: 160 :: 0 :: 16 :: 42 :: 89 :: 180 :: 0 :: 25 :: sl_X2_nextToken_1
theorem sr_X2_nextToken_0 : fd_at cX2_nextToken 0 sl_X2_nextToken_0 := fd_base (by decide +kernel)
theorem sr_X2_nextToken_1 : fd_at cX2_nextToken 30 sl_X2_nextToken_1 := fd_n 30 sr_X2_nextToken_0 rfl
theorem sr_X2_nextToken_2 : fd_at cX2_nextToken 58 sl_X2_nextToken_2 := fd_n 28 sr_X2_nextToken_1 rfl
theorem sr_X2_nextToken_3 : fd_at cX2_nextToken 88 sl_X2_nextToken_3 := fd_n 30 sr_X2_nextToken_2 rfl
theorem sr_X2_nextToken_4 : fd_at cX2_nextToken 116 sl_X2_nextToken_4 := fd_n 28 sr_X2_nextToken_3 rfl
theorem sr_X2_nextToken_5 : fd_at cX2_nextToken 144 sl_X2_nextToken_5 := fd_n 28 sr_X2_nextToken_4 rfl
theorem sr_X2_nextToken_6 : fd_at cX2_nextToken 173 sl_X2_nextToken_6 := fd_n 29 sr_X2_nextToken_5 rfl
theorem dX2_nextToken_0 : decode cX2_nextToken 0 = .ok (.aload_n 0, 1) := fo_42 sr_X2_nextToken_0
theorem dX2_nextToken_1 : decode cX2_nextToken 1 = .ok (.getfield 25, 3) := fo_180 (fd_n 1 sr_X2_nextToken_0 rfl) rfl
theorem dX2_nextToken_4 : decode cX2_nextToken 4 = .ok (.aload_n 0, 1) := fo_42 (fd_n 4 sr_X2_nextToken_0 rfl)
theorem dX2_nextToken_5 : decode cX2_nextToken 5 = .ok (.getfield 15, 3) := fo_180 (fd_n 5 sr_X2_nextToken_0 rfl) rfl
theorem dX2_nextToken_8 : decode cX2_nextToken 8 = .ok (.if_icmp .ge 30, 3) := fo_162 (fd_n 8 sr_X2_nextToken_0 rfl) (by decide +kernel)
theorem dX2_nextToken_11 : decode cX2_nextToken 11 = .ok (.aload_n 0, 1) := fo_42 (fd_n 11 sr_X2_nextToken_0 rfl)
theorem dX2_nextToken_12 : decode cX2_nextToken 12 = .ok (.getfield 9, 3) := fo_180 (fd_n 12 sr_X2_nextToken_0 rfl) rfl
theorem dX2_nextToken_15 : decode cX2_nextToken 15 = .ok (.aload_n 0, 1) := fo_42 (fd_n 15 sr_X2_nextToken_0 rfl)
theorem dX2_nextToken_16 : decode cX2_nextToken 16 = .ok (.getfield 25, 3) := fo_180 (fd_n 16 sr_X2_nextToken_0 rfl) rfl
theorem dX2_nextToken_19 : decode cX2_nextToken 19 = .ok (.iaload, 1) := fo_46 (fd_n 19 sr_X2_nextToken_0 rfl)
theorem dX2_nextToken_20 : decode cX2_nextToken 20 = .ok (.bipush 32, 2) := fo_16 (fd_n 20 sr_X2_nextToken_0 rfl) (by decide +kernel)
theorem dX2_nextToken_22 : decode cX2_nextToken 22 = .ok (.if_icmp .ne 16, 3) := fo_160 (fd_n 22 sr_X2_nextToken_0 rfl) (by decide +kernel)
theorem dX2_nextToken_25 : decode cX2_nextToken 25 = .ok (.aload_n 0, 1) := fo_42 (fd_n 25 sr_X2_nextToken_0 rfl)
theorem dX2_nextToken_26 : decode cX2_nextToken 26 = .ok (.dup, 1) := fo_89 (fd_n 26 sr_X2_nextToken_0 rfl)
theorem dX2_nextToken_27 : decode cX2_nextToken 27 = .ok (.getfield 25, 3) := fo_180 (fd_n 27 sr_X2_nextToken_0 rfl) rfl
theorem dX2_nextToken_30 : decode cX2_nextToken 30 = .ok (.iconst 1, 1) := fo_4 sr_X2_nextToken_1
theorem dX2_nextToken_31 : decode cX2_nextToken 31 = .ok (.iadd, 1) := fo_96 (fd_n 1 sr_X2_nextToken_1 rfl)
theorem dX2_nextToken_32 : decode cX2_nextToken 32 = .ok (.putfield 25, 3) := fo_181 (fd_n 2 sr_X2_nextToken_1 rfl) rfl
theorem dX2_nextToken_35 : decode cX2_nextToken 35 = .ok (.goto (-35), 3) := fo_167 (fd_n 5 sr_X2_nextToken_1 rfl) (by decide +kernel)
theorem dX2_nextToken_38 : decode cX2_nextToken 38 = .ok (.aload_n 0, 1) := fo_42 (fd_n 8 sr_X2_nextToken_1 rfl)
theorem dX2_nextToken_39 : decode cX2_nextToken 39 = .ok (.aload_n 0, 1) := fo_42 (fd_n 9 sr_X2_nextToken_1 rfl)
theorem dX2_nextToken_40 : decode cX2_nextToken 40 = .ok (.getfield 25, 3) := fo_180 (fd_n 10 sr_X2_nextToken_1 rfl) rfl
theorem dX2_nextToken_43 : decode cX2_nextToken 43 = .ok (.putfield 22, 3) := fo_181 (fd_n 13 sr_X2_nextToken_1 rfl) rfl
theorem dX2_nextToken_46 : decode cX2_nextToken 46 = .ok (.aload_n 0, 1) := fo_42 (fd_n 16 sr_X2_nextToken_1 rfl)
theorem dX2_nextToken_47 : decode cX2_nextToken 47 = .ok (.aload_n 0, 1) := fo_42 (fd_n 17 sr_X2_nextToken_1 rfl)
theorem dX2_nextToken_48 : decode cX2_nextToken 48 = .ok (.aload_n 0, 1) := fo_42 (fd_n 18 sr_X2_nextToken_1 rfl)
theorem dX2_nextToken_49 : decode cX2_nextToken 49 = .ok (.getfield 22, 3) := fo_180 (fd_n 19 sr_X2_nextToken_1 rfl) rfl
theorem dX2_nextToken_52 : decode cX2_nextToken 52 = .ok (.invokevirtual 143, 3) := fo_182 (fd_n 22 sr_X2_nextToken_1 rfl) rfl
theorem dX2_nextToken_55 : decode cX2_nextToken 55 = .ok (.putfield 19, 3) := fo_181 (fd_n 25 sr_X2_nextToken_1 rfl) rfl
theorem dX2_nextToken_58 : decode cX2_nextToken 58 = .ok (.aload_n 0, 1) := fo_42 sr_X2_nextToken_2
theorem dX2_nextToken_59 : decode cX2_nextToken 59 = .ok (.iconst 0, 1) := fo_3 (fd_n 1 sr_X2_nextToken_2 rfl)
theorem dX2_nextToken_60 : decode cX2_nextToken 60 = .ok (.putfield 28, 3) := fo_181 (fd_n 2 sr_X2_nextToken_2 rfl) rfl
theorem dX2_nextToken_63 : decode cX2_nextToken 63 = .ok (.aload_n 0, 1) := fo_42 (fd_n 5 sr_X2_nextToken_2 rfl)
theorem dX2_nextToken_64 : decode cX2_nextToken 64 = .ok (.getfield 19, 3) := fo_180 (fd_n 6 sr_X2_nextToken_2 rfl) rfl
theorem dX2_nextToken_67 : decode cX2_nextToken 67 = .ok (.iconst 3, 1) := fo_6 (fd_n 9 sr_X2_nextToken_2 rfl)
theorem dX2_nextToken_68 : decode cX2_nextToken 68 = .ok (.if_icmp .ne 16, 3) := fo_160 (fd_n 10 sr_X2_nextToken_2 rfl) (by decide +kernel)
theorem dX2_nextToken_71 : decode cX2_nextToken 71 = .ok (.aload_n 0, 1) := fo_42 (fd_n 13 sr_X2_nextToken_2 rfl)
theorem dX2_nextToken_72 : decode cX2_nextToken 72 = .ok (.dup, 1) := fo_89 (fd_n 14 sr_X2_nextToken_2 rfl)
theorem dX2_nextToken_73 : decode cX2_nextToken 73 = .ok (.getfield 25, 3) := fo_180 (fd_n 15 sr_X2_nextToken_2 rfl) rfl
theorem dX2_nextToken_76 : decode cX2_nextToken 76 = .ok (.iconst 1, 1) := fo_4 (fd_n 18 sr_X2_nextToken_2 rfl)
theorem dX2_nextToken_77 : decode cX2_nextToken 77 = .ok (.iadd, 1) := fo_96 (fd_n 19 sr_X2_nextToken_2 rfl)
theorem dX2_nextToken_78 : decode cX2_nextToken 78 = .ok (.putfield 25, 3) := fo_181 (fd_n 20 sr_X2_nextToken_2 rfl) rfl
theorem dX2_nextToken_81 : decode cX2_nextToken 81 = .ok (.goto 100, 3) := fo_167 (fd_n 23 sr_X2_nextToken_2 rfl) (by decide +kernel)
theorem dX2_nextToken_84 : decode cX2_nextToken 84 = .ok (.aload_n 0, 1) := fo_42 (fd_n 26 sr_X2_nextToken_2 rfl)
theorem dX2_nextToken_85 : decode cX2_nextToken 85 = .ok (.getfield 19, 3) := fo_180 (fd_n 27 sr_X2_nextToken_2 rfl) rfl
theorem dX2_nextToken_88 : decode cX2_nextToken 88 = .ok (.iconst 1, 1) := fo_4 sr_X2_nextToken_3
theorem dX2_nextToken_89 : decode cX2_nextToken 89 = .ok (.if_icmp .eq 11, 3) := fo_159 (fd_n 1 sr_X2_nextToken_3 rfl) (by decide +kernel)
theorem dX2_nextToken_92 : decode cX2_nextToken 92 = .ok (.aload_n 0, 1) := fo_42 (fd_n 4 sr_X2_nextToken_3 rfl)
theorem dX2_nextToken_93 : decode cX2_nextToken 93 = .ok (.getfield 19, 3) := fo_180 (fd_n 5 sr_X2_nextToken_3 rfl) rfl
theorem dX2_nextToken_96 : decode cX2_nextToken 96 = .ok (.iconst 2, 1) := fo_5 (fd_n 8 sr_X2_nextToken_3 rfl)
theorem dX2_nextToken_97 : decode cX2_nextToken 97 = .ok (.if_icmp .ne 84, 3) := fo_160 (fd_n 9 sr_X2_nextToken_3 rfl) (by decide +kernel)
theorem dX2_nextToken_100 : decode cX2_nextToken 100 = .ok (.aload_n 0, 1) := fo_42 (fd_n 12 sr_X2_nextToken_3 rfl)
theorem dX2_nextToken_101 : decode cX2_nextToken 101 = .ok (.getfield 25, 3) := fo_180 (fd_n 13 sr_X2_nextToken_3 rfl) rfl
theorem dX2_nextToken_104 : decode cX2_nextToken 104 = .ok (.aload_n 0, 1) := fo_42 (fd_n 16 sr_X2_nextToken_3 rfl)
theorem dX2_nextToken_105 : decode cX2_nextToken 105 = .ok (.getfield 15, 3) := fo_180 (fd_n 17 sr_X2_nextToken_3 rfl) rfl
theorem dX2_nextToken_108 : decode cX2_nextToken 108 = .ok (.if_icmp .ge 73, 3) := fo_162 (fd_n 20 sr_X2_nextToken_3 rfl) (by decide +kernel)
theorem dX2_nextToken_111 : decode cX2_nextToken 111 = .ok (.aload_n 0, 1) := fo_42 (fd_n 23 sr_X2_nextToken_3 rfl)
theorem dX2_nextToken_112 : decode cX2_nextToken 112 = .ok (.aload_n 0, 1) := fo_42 (fd_n 24 sr_X2_nextToken_3 rfl)
theorem dX2_nextToken_113 : decode cX2_nextToken 113 = .ok (.getfield 25, 3) := fo_180 (fd_n 25 sr_X2_nextToken_3 rfl) rfl
theorem dX2_nextToken_116 : decode cX2_nextToken 116 = .ok (.invokevirtual 143, 3) := fo_182 sr_X2_nextToken_4 rfl
theorem dX2_nextToken_119 : decode cX2_nextToken 119 = .ok (.aload_n 0, 1) := fo_42 (fd_n 3 sr_X2_nextToken_4 rfl)
theorem dX2_nextToken_120 : decode cX2_nextToken 120 = .ok (.getfield 19, 3) := fo_180 (fd_n 4 sr_X2_nextToken_4 rfl) rfl
theorem dX2_nextToken_123 : decode cX2_nextToken 123 = .ok (.if_icmp .ne 58, 3) := fo_160 (fd_n 7 sr_X2_nextToken_4 rfl) (by decide +kernel)
theorem dX2_nextToken_126 : decode cX2_nextToken 126 = .ok (.aload_n 0, 1) := fo_42 (fd_n 10 sr_X2_nextToken_4 rfl)
theorem dX2_nextToken_127 : decode cX2_nextToken 127 = .ok (.aload_n 0, 1) := fo_42 (fd_n 11 sr_X2_nextToken_4 rfl)
theorem dX2_nextToken_128 : decode cX2_nextToken 128 = .ok (.getfield 19, 3) := fo_180 (fd_n 12 sr_X2_nextToken_4 rfl) rfl
theorem dX2_nextToken_131 : decode cX2_nextToken 131 = .ok (.iconst 2, 1) := fo_5 (fd_n 15 sr_X2_nextToken_4 rfl)
theorem dX2_nextToken_132 : decode cX2_nextToken 132 = .ok (.if_icmp .ne 32, 3) := fo_160 (fd_n 16 sr_X2_nextToken_4 rfl) (by decide +kernel)
theorem dX2_nextToken_135 : decode cX2_nextToken 135 = .ok (.sipush 1000, 3) := fo_17 (fd_n 19 sr_X2_nextToken_4 rfl) (by decide +kernel)
theorem dX2_nextToken_138 : decode cX2_nextToken 138 = .ok (.bipush 10, 2) := fo_16 (fd_n 22 sr_X2_nextToken_4 rfl) (by decide +kernel)
theorem dX2_nextToken_140 : decode cX2_nextToken 140 = .ok (.aload_n 0, 1) := fo_42 (fd_n 24 sr_X2_nextToken_4 rfl)
theorem dX2_nextToken_141 : decode cX2_nextToken 141 = .ok (.getfield 28, 3) := fo_180 (fd_n 25 sr_X2_nextToken_4 rfl) rfl
theorem dX2_nextToken_144 : decode cX2_nextToken 144 = .ok (.imul, 1) := fo_104 sr_X2_nextToken_5
theorem dX2_nextToken_145 : decode cX2_nextToken 145 = .ok (.aload_n 0, 1) := fo_42 (fd_n 1 sr_X2_nextToken_5 rfl)
theorem dX2_nextToken_146 : decode cX2_nextToken 146 = .ok (.getfield 9, 3) := fo_180 (fd_n 2 sr_X2_nextToken_5 rfl) rfl
theorem dX2_nextToken_149 : decode cX2_nextToken 149 = .ok (.aload_n 0, 1) := fo_42 (fd_n 5 sr_X2_nextToken_5 rfl)
theorem dX2_nextToken_150 : decode cX2_nextToken 150 = .ok (.getfield 25, 3) := fo_180 (fd_n 6 sr_X2_nextToken_5 rfl) rfl
theorem dX2_nextToken_153 : decode cX2_nextToken 153 = .ok (.iaload, 1) := fo_46 (fd_n 9 sr_X2_nextToken_5 rfl)
theorem dX2_nextToken_154 : decode cX2_nextToken 154 = .ok (.iadd, 1) := fo_96 (fd_n 10 sr_X2_nextToken_5 rfl)
theorem dX2_nextToken_155 : decode cX2_nextToken 155 = .ok (.bipush 48, 2) := fo_16 (fd_n 11 sr_X2_nextToken_5 rfl) (by decide +kernel)
theorem dX2_nextToken_157 : decode cX2_nextToken 157 = .ok (.isub, 1) := fo_100 (fd_n 13 sr_X2_nextToken_5 rfl)
theorem dX2_nextToken_158 : decode cX2_nextToken 158 = .ok (.invokestatic 146, 3) := fo_184 (fd_n 14 sr_X2_nextToken_5 rfl) rfl
theorem dX2_nextToken_161 : decode cX2_nextToken 161 = .ok (.goto 4, 3) := fo_167 (fd_n 17 sr_X2_nextToken_5 rfl) (by decide +kernel)
theorem dX2_nextToken_164 : decode cX2_nextToken 164 = .ok (.iconst 0, 1) := fo_3 (fd_n 20 sr_X2_nextToken_5 rfl)
theorem dX2_nextToken_165 : decode cX2_nextToken 165 = .ok (.putfield 28, 3) := fo_181 (fd_n 21 sr_X2_nextToken_5 rfl) rfl
theorem dX2_nextToken_168 : decode cX2_nextToken 168 = .ok (.aload_n 0, 1) := fo_42 (fd_n 24 sr_X2_nextToken_5 rfl)
theorem dX2_nextToken_169 : decode cX2_nextToken 169 = .ok (.dup, 1) := fo_89 (fd_n 25 sr_X2_nextToken_5 rfl)
theorem dX2_nextToken_170 : decode cX2_nextToken 170 = .ok (.getfield 25, 3) := fo_180 (fd_n 26 sr_X2_nextToken_5 rfl) rfl
theorem dX2_nextToken_173 : decode cX2_nextToken 173 = .ok (.iconst 1, 1) := fo_4 sr_X2_nextToken_6
theorem dX2_nextToken_174 : decode cX2_nextToken 174 = .ok (.iadd, 1) := fo_96 (fd_n 1 sr_X2_nextToken_6 rfl)
theorem dX2_nextToken_175 : decode cX2_nextToken 175 = .ok (.putfield 25, 3) := fo_181 (fd_n 2 sr_X2_nextToken_6 rfl) rfl
theorem dX2_nextToken_178 : decode cX2_nextToken 178 = .ok (.goto (-78), 3) := fo_167 (fd_n 5 sr_X2_nextToken_6 rfl) (by decide +kernel)
theorem dX2_nextToken_181 : decode cX2_nextToken 181 = .ok (.return_, 1) := fo_177 (fd_n 8 sr_X2_nextToken_6 rfl)
noncomputable def sl_X2_sortAt_2 : List UInt8 := 167 :: 0 :: 4 :: 7 :: 172 :: []
noncomputable def sl_X2_sortAt_1 : List UInt8 := 16 :: 122 :: 163 :: 0 :: 5 :: 4 :: 172 :: 28 :: 16 :: 48 :: 161 :: 0 :: 11 :: 28 :: 16 :: 57 :: 163 :: 0 :: 5 :: 5 :: 172 :: 28 :: 16 :: 59 :: 160 :: 0 :: 7 :: 6 :: sl_X2_sortAt_2
noncomputable def sl_X2_sortAt_0 : List UInt8 := 27 :: 155 :: 0 :: 11 :: 27 :: 42 :: 180 :: 0 :: 15 :: 161 :: 0 :: 5 :: 3 :: 172 :: 42 :: 180 :: 0 :: 9 :: 27 :: 46 :: 61 :: 28 :: 16 :: 97 :: 161 :: 0 :: 11 :: 28 :: sl_X2_sortAt_1
theorem sr_X2_sortAt_0 : fd_at cX2_sortAt 0 sl_X2_sortAt_0 := fd_base (by decide +kernel)
theorem sr_X2_sortAt_1 : fd_at cX2_sortAt 28 sl_X2_sortAt_1 := fd_n 28 sr_X2_sortAt_0 rfl
theorem sr_X2_sortAt_2 : fd_at cX2_sortAt 56 sl_X2_sortAt_2 := fd_n 28 sr_X2_sortAt_1 rfl
theorem dX2_sortAt_0 : decode cX2_sortAt 0 = .ok (.iload_n 1, 1) := fo_27 sr_X2_sortAt_0
theorem dX2_sortAt_1 : decode cX2_sortAt 1 = .ok (.ifCond .lt 11, 3) := fo_155 (fd_n 1 sr_X2_sortAt_0 rfl) (by decide +kernel)
theorem dX2_sortAt_4 : decode cX2_sortAt 4 = .ok (.iload_n 1, 1) := fo_27 (fd_n 4 sr_X2_sortAt_0 rfl)
theorem dX2_sortAt_5 : decode cX2_sortAt 5 = .ok (.aload_n 0, 1) := fo_42 (fd_n 5 sr_X2_sortAt_0 rfl)
theorem dX2_sortAt_6 : decode cX2_sortAt 6 = .ok (.getfield 15, 3) := fo_180 (fd_n 6 sr_X2_sortAt_0 rfl) rfl
theorem dX2_sortAt_9 : decode cX2_sortAt 9 = .ok (.if_icmp .lt 5, 3) := fo_161 (fd_n 9 sr_X2_sortAt_0 rfl) (by decide +kernel)
theorem dX2_sortAt_12 : decode cX2_sortAt 12 = .ok (.iconst 0, 1) := fo_3 (fd_n 12 sr_X2_sortAt_0 rfl)
theorem dX2_sortAt_13 : decode cX2_sortAt 13 = .ok (.ireturn, 1) := fo_172 (fd_n 13 sr_X2_sortAt_0 rfl)
theorem dX2_sortAt_14 : decode cX2_sortAt 14 = .ok (.aload_n 0, 1) := fo_42 (fd_n 14 sr_X2_sortAt_0 rfl)
theorem dX2_sortAt_15 : decode cX2_sortAt 15 = .ok (.getfield 9, 3) := fo_180 (fd_n 15 sr_X2_sortAt_0 rfl) rfl
theorem dX2_sortAt_18 : decode cX2_sortAt 18 = .ok (.iload_n 1, 1) := fo_27 (fd_n 18 sr_X2_sortAt_0 rfl)
theorem dX2_sortAt_19 : decode cX2_sortAt 19 = .ok (.iaload, 1) := fo_46 (fd_n 19 sr_X2_sortAt_0 rfl)
theorem dX2_sortAt_20 : decode cX2_sortAt 20 = .ok (.istore_n 2, 1) := fo_61 (fd_n 20 sr_X2_sortAt_0 rfl)
theorem dX2_sortAt_21 : decode cX2_sortAt 21 = .ok (.iload_n 2, 1) := fo_28 (fd_n 21 sr_X2_sortAt_0 rfl)
theorem dX2_sortAt_22 : decode cX2_sortAt 22 = .ok (.bipush 97, 2) := fo_16 (fd_n 22 sr_X2_sortAt_0 rfl) (by decide +kernel)
theorem dX2_sortAt_24 : decode cX2_sortAt 24 = .ok (.if_icmp .lt 11, 3) := fo_161 (fd_n 24 sr_X2_sortAt_0 rfl) (by decide +kernel)
theorem dX2_sortAt_27 : decode cX2_sortAt 27 = .ok (.iload_n 2, 1) := fo_28 (fd_n 27 sr_X2_sortAt_0 rfl)
theorem dX2_sortAt_28 : decode cX2_sortAt 28 = .ok (.bipush 122, 2) := fo_16 sr_X2_sortAt_1 (by decide +kernel)
theorem dX2_sortAt_30 : decode cX2_sortAt 30 = .ok (.if_icmp .gt 5, 3) := fo_163 (fd_n 2 sr_X2_sortAt_1 rfl) (by decide +kernel)
theorem dX2_sortAt_33 : decode cX2_sortAt 33 = .ok (.iconst 1, 1) := fo_4 (fd_n 5 sr_X2_sortAt_1 rfl)
theorem dX2_sortAt_34 : decode cX2_sortAt 34 = .ok (.ireturn, 1) := fo_172 (fd_n 6 sr_X2_sortAt_1 rfl)
theorem dX2_sortAt_35 : decode cX2_sortAt 35 = .ok (.iload_n 2, 1) := fo_28 (fd_n 7 sr_X2_sortAt_1 rfl)
theorem dX2_sortAt_36 : decode cX2_sortAt 36 = .ok (.bipush 48, 2) := fo_16 (fd_n 8 sr_X2_sortAt_1 rfl) (by decide +kernel)
theorem dX2_sortAt_38 : decode cX2_sortAt 38 = .ok (.if_icmp .lt 11, 3) := fo_161 (fd_n 10 sr_X2_sortAt_1 rfl) (by decide +kernel)
theorem dX2_sortAt_41 : decode cX2_sortAt 41 = .ok (.iload_n 2, 1) := fo_28 (fd_n 13 sr_X2_sortAt_1 rfl)
theorem dX2_sortAt_42 : decode cX2_sortAt 42 = .ok (.bipush 57, 2) := fo_16 (fd_n 14 sr_X2_sortAt_1 rfl) (by decide +kernel)
theorem dX2_sortAt_44 : decode cX2_sortAt 44 = .ok (.if_icmp .gt 5, 3) := fo_163 (fd_n 16 sr_X2_sortAt_1 rfl) (by decide +kernel)
theorem dX2_sortAt_47 : decode cX2_sortAt 47 = .ok (.iconst 2, 1) := fo_5 (fd_n 19 sr_X2_sortAt_1 rfl)
theorem dX2_sortAt_48 : decode cX2_sortAt 48 = .ok (.ireturn, 1) := fo_172 (fd_n 20 sr_X2_sortAt_1 rfl)
theorem dX2_sortAt_49 : decode cX2_sortAt 49 = .ok (.iload_n 2, 1) := fo_28 (fd_n 21 sr_X2_sortAt_1 rfl)
theorem dX2_sortAt_50 : decode cX2_sortAt 50 = .ok (.bipush 59, 2) := fo_16 (fd_n 22 sr_X2_sortAt_1 rfl) (by decide +kernel)
theorem dX2_sortAt_52 : decode cX2_sortAt 52 = .ok (.if_icmp .ne 7, 3) := fo_160 (fd_n 24 sr_X2_sortAt_1 rfl) (by decide +kernel)
theorem dX2_sortAt_55 : decode cX2_sortAt 55 = .ok (.iconst 3, 1) := fo_6 (fd_n 27 sr_X2_sortAt_1 rfl)
theorem dX2_sortAt_56 : decode cX2_sortAt 56 = .ok (.goto 4, 3) := fo_167 sr_X2_sortAt_2 (by decide +kernel)
theorem dX2_sortAt_59 : decode cX2_sortAt 59 = .ok (.iconst 4, 1) := fo_7 (fd_n 3 sr_X2_sortAt_2 rfl)
theorem dX2_sortAt_60 : decode cX2_sortAt 60 = .ok (.ireturn, 1) := fo_172 (fd_n 4 sr_X2_sortAt_2 rfl)
noncomputable def sl_X3_init_4 : List UInt8 := 16 :: 10 :: 162 :: 0 :: 16 :: 42 :: 180 :: 0 :: 26 :: 27 :: 2 :: 79 :: 132 :: 1 :: 1 :: 167 :: 255 :: 240 :: 177 :: []
noncomputable def sl_X3_init_3 : List UInt8 := 167 :: 255 :: 238 :: 3 :: 60 :: 27 :: 7 :: 162 :: 0 :: 18 :: 42 :: 180 :: 0 :: 19 :: 27 :: 27 :: 4 :: 96 :: 79 :: 132 :: 1 :: 1 :: 167 :: 255 :: 239 :: 3 :: 60 :: 27 :: sl_X3_init_4
noncomputable def sl_X3_init_2 : List UInt8 := 181 :: 0 :: 33 :: 42 :: 4 :: 181 :: 0 :: 36 :: 3 :: 60 :: 27 :: 16 :: 25 :: 162 :: 0 :: 18 :: 42 :: 180 :: 0 :: 11 :: 3 :: 50 :: 27 :: 2 :: 79 :: 132 :: 1 :: 1 :: sl_X3_init_3
noncomputable def sl_X3_init_1 : List UInt8 := 7 :: 188 :: 10 :: 181 :: 0 :: 19 :: 42 :: 7 :: 188 :: 10 :: 181 :: 0 :: 23 :: 42 :: 16 :: 10 :: 188 :: 10 :: 181 :: 0 :: 26 :: 42 :: 3 :: 181 :: 0 :: 29 :: 42 :: 3 :: sl_X3_init_2
noncomputable def sl_X3_init_0 : List UInt8 := 42 :: 183 :: 0 :: 3 :: 42 :: 7 :: 16 :: 25 :: 197 :: 0 :: 9 :: 2 :: 181 :: 0 :: 11 :: 42 :: 16 :: 6 :: 16 :: 10 :: 197 :: 0 :: 9 :: 2 :: 181 :: 0 :: 16 :: 42 :: sl_X3_init_1
theorem sr_X3_init_0 : fd_at cX3_init 0 sl_X3_init_0 := fd_base (by decide +kernel)
theorem sr_X3_init_1 : fd_at cX3_init 28 sl_X3_init_1 := fd_n 28 sr_X3_init_0 rfl
theorem sr_X3_init_2 : fd_at cX3_init 56 sl_X3_init_2 := fd_n 28 sr_X3_init_1 rfl
theorem sr_X3_init_3 : fd_at cX3_init 84 sl_X3_init_3 := fd_n 28 sr_X3_init_2 rfl
theorem sr_X3_init_4 : fd_at cX3_init 112 sl_X3_init_4 := fd_n 28 sr_X3_init_3 rfl
theorem dX3_init_0 : decode cX3_init 0 = .ok (.aload_n 0, 1) := fo_42 sr_X3_init_0
theorem dX3_init_1 : decode cX3_init 1 = .ok (.invokespecial 3, 3) := fo_183 (fd_n 1 sr_X3_init_0 rfl) rfl
theorem dX3_init_4 : decode cX3_init 4 = .ok (.aload_n 0, 1) := fo_42 (fd_n 4 sr_X3_init_0 rfl)
theorem dX3_init_5 : decode cX3_init 5 = .ok (.iconst 4, 1) := fo_7 (fd_n 5 sr_X3_init_0 rfl)
theorem dX3_init_6 : decode cX3_init 6 = .ok (.bipush 25, 2) := fo_16 (fd_n 6 sr_X3_init_0 rfl) (by decide +kernel)
theorem dX3_init_12 : decode cX3_init 12 = .ok (.putfield 11, 3) := fo_181 (fd_n 12 sr_X3_init_0 rfl) rfl
theorem dX3_init_15 : decode cX3_init 15 = .ok (.aload_n 0, 1) := fo_42 (fd_n 15 sr_X3_init_0 rfl)
theorem dX3_init_16 : decode cX3_init 16 = .ok (.bipush 6, 2) := fo_16 (fd_n 16 sr_X3_init_0 rfl) (by decide +kernel)
theorem dX3_init_18 : decode cX3_init 18 = .ok (.bipush 10, 2) := fo_16 (fd_n 18 sr_X3_init_0 rfl) (by decide +kernel)
theorem dX3_init_24 : decode cX3_init 24 = .ok (.putfield 16, 3) := fo_181 (fd_n 24 sr_X3_init_0 rfl) rfl
theorem dX3_init_27 : decode cX3_init 27 = .ok (.aload_n 0, 1) := fo_42 (fd_n 27 sr_X3_init_0 rfl)
theorem dX3_init_28 : decode cX3_init 28 = .ok (.iconst 4, 1) := fo_7 sr_X3_init_1
theorem dX3_init_31 : decode cX3_init 31 = .ok (.putfield 19, 3) := fo_181 (fd_n 3 sr_X3_init_1 rfl) rfl
theorem dX3_init_34 : decode cX3_init 34 = .ok (.aload_n 0, 1) := fo_42 (fd_n 6 sr_X3_init_1 rfl)
theorem dX3_init_35 : decode cX3_init 35 = .ok (.iconst 4, 1) := fo_7 (fd_n 7 sr_X3_init_1 rfl)
theorem dX3_init_38 : decode cX3_init 38 = .ok (.putfield 23, 3) := fo_181 (fd_n 10 sr_X3_init_1 rfl) rfl
theorem dX3_init_41 : decode cX3_init 41 = .ok (.aload_n 0, 1) := fo_42 (fd_n 13 sr_X3_init_1 rfl)
theorem dX3_init_42 : decode cX3_init 42 = .ok (.bipush 10, 2) := fo_16 (fd_n 14 sr_X3_init_1 rfl) (by decide +kernel)
theorem dX3_init_46 : decode cX3_init 46 = .ok (.putfield 26, 3) := fo_181 (fd_n 18 sr_X3_init_1 rfl) rfl
theorem dX3_init_49 : decode cX3_init 49 = .ok (.aload_n 0, 1) := fo_42 (fd_n 21 sr_X3_init_1 rfl)
theorem dX3_init_50 : decode cX3_init 50 = .ok (.iconst 0, 1) := fo_3 (fd_n 22 sr_X3_init_1 rfl)
theorem dX3_init_51 : decode cX3_init 51 = .ok (.putfield 29, 3) := fo_181 (fd_n 23 sr_X3_init_1 rfl) rfl
theorem dX3_init_54 : decode cX3_init 54 = .ok (.aload_n 0, 1) := fo_42 (fd_n 26 sr_X3_init_1 rfl)
theorem dX3_init_55 : decode cX3_init 55 = .ok (.iconst 0, 1) := fo_3 (fd_n 27 sr_X3_init_1 rfl)
theorem dX3_init_56 : decode cX3_init 56 = .ok (.putfield 33, 3) := fo_181 sr_X3_init_2 rfl
theorem dX3_init_59 : decode cX3_init 59 = .ok (.aload_n 0, 1) := fo_42 (fd_n 3 sr_X3_init_2 rfl)
theorem dX3_init_60 : decode cX3_init 60 = .ok (.iconst 1, 1) := fo_4 (fd_n 4 sr_X3_init_2 rfl)
theorem dX3_init_61 : decode cX3_init 61 = .ok (.putfield 36, 3) := fo_181 (fd_n 5 sr_X3_init_2 rfl) rfl
theorem dX3_init_64 : decode cX3_init 64 = .ok (.iconst 0, 1) := fo_3 (fd_n 8 sr_X3_init_2 rfl)
theorem dX3_init_65 : decode cX3_init 65 = .ok (.istore_n 1, 1) := fo_60 (fd_n 9 sr_X3_init_2 rfl)
theorem dX3_init_66 : decode cX3_init 66 = .ok (.iload_n 1, 1) := fo_27 (fd_n 10 sr_X3_init_2 rfl)
theorem dX3_init_67 : decode cX3_init 67 = .ok (.bipush 25, 2) := fo_16 (fd_n 11 sr_X3_init_2 rfl) (by decide +kernel)
theorem dX3_init_69 : decode cX3_init 69 = .ok (.if_icmp .ge 18, 3) := fo_162 (fd_n 13 sr_X3_init_2 rfl) (by decide +kernel)
theorem dX3_init_72 : decode cX3_init 72 = .ok (.aload_n 0, 1) := fo_42 (fd_n 16 sr_X3_init_2 rfl)
theorem dX3_init_73 : decode cX3_init 73 = .ok (.getfield 11, 3) := fo_180 (fd_n 17 sr_X3_init_2 rfl) rfl
theorem dX3_init_76 : decode cX3_init 76 = .ok (.iconst 0, 1) := fo_3 (fd_n 20 sr_X3_init_2 rfl)
theorem dX3_init_77 : decode cX3_init 77 = .ok (.aaload, 1) := fo_50 (fd_n 21 sr_X3_init_2 rfl)
theorem dX3_init_78 : decode cX3_init 78 = .ok (.iload_n 1, 1) := fo_27 (fd_n 22 sr_X3_init_2 rfl)
theorem dX3_init_79 : decode cX3_init 79 = .ok (.iconst (-1), 1) := fo_2 (fd_n 23 sr_X3_init_2 rfl)
theorem dX3_init_80 : decode cX3_init 80 = .ok (.iastore, 1) := fo_79 (fd_n 24 sr_X3_init_2 rfl)
theorem dX3_init_81 : decode cX3_init 81 = .ok (.iinc 1 1, 3) := fo_132 (fd_n 25 sr_X3_init_2 rfl) rfl (by decide +kernel)
theorem dX3_init_84 : decode cX3_init 84 = .ok (.goto (-18), 3) := fo_167 sr_X3_init_3 (by decide +kernel)
theorem dX3_init_87 : decode cX3_init 87 = .ok (.iconst 0, 1) := fo_3 (fd_n 3 sr_X3_init_3 rfl)
theorem dX3_init_88 : decode cX3_init 88 = .ok (.istore_n 1, 1) := fo_60 (fd_n 4 sr_X3_init_3 rfl)
theorem dX3_init_89 : decode cX3_init 89 = .ok (.iload_n 1, 1) := fo_27 (fd_n 5 sr_X3_init_3 rfl)
theorem dX3_init_90 : decode cX3_init 90 = .ok (.iconst 4, 1) := fo_7 (fd_n 6 sr_X3_init_3 rfl)
theorem dX3_init_91 : decode cX3_init 91 = .ok (.if_icmp .ge 18, 3) := fo_162 (fd_n 7 sr_X3_init_3 rfl) (by decide +kernel)
theorem dX3_init_94 : decode cX3_init 94 = .ok (.aload_n 0, 1) := fo_42 (fd_n 10 sr_X3_init_3 rfl)
theorem dX3_init_95 : decode cX3_init 95 = .ok (.getfield 19, 3) := fo_180 (fd_n 11 sr_X3_init_3 rfl) rfl
theorem dX3_init_98 : decode cX3_init 98 = .ok (.iload_n 1, 1) := fo_27 (fd_n 14 sr_X3_init_3 rfl)
theorem dX3_init_99 : decode cX3_init 99 = .ok (.iload_n 1, 1) := fo_27 (fd_n 15 sr_X3_init_3 rfl)
theorem dX3_init_100 : decode cX3_init 100 = .ok (.iconst 1, 1) := fo_4 (fd_n 16 sr_X3_init_3 rfl)
theorem dX3_init_101 : decode cX3_init 101 = .ok (.iadd, 1) := fo_96 (fd_n 17 sr_X3_init_3 rfl)
theorem dX3_init_102 : decode cX3_init 102 = .ok (.iastore, 1) := fo_79 (fd_n 18 sr_X3_init_3 rfl)
theorem dX3_init_103 : decode cX3_init 103 = .ok (.iinc 1 1, 3) := fo_132 (fd_n 19 sr_X3_init_3 rfl) rfl (by decide +kernel)
theorem dX3_init_106 : decode cX3_init 106 = .ok (.goto (-17), 3) := fo_167 (fd_n 22 sr_X3_init_3 rfl) (by decide +kernel)
theorem dX3_init_109 : decode cX3_init 109 = .ok (.iconst 0, 1) := fo_3 (fd_n 25 sr_X3_init_3 rfl)
theorem dX3_init_110 : decode cX3_init 110 = .ok (.istore_n 1, 1) := fo_60 (fd_n 26 sr_X3_init_3 rfl)
theorem dX3_init_111 : decode cX3_init 111 = .ok (.iload_n 1, 1) := fo_27 (fd_n 27 sr_X3_init_3 rfl)
theorem dX3_init_112 : decode cX3_init 112 = .ok (.bipush 10, 2) := fo_16 sr_X3_init_4 (by decide +kernel)
theorem dX3_init_114 : decode cX3_init 114 = .ok (.if_icmp .ge 16, 3) := fo_162 (fd_n 2 sr_X3_init_4 rfl) (by decide +kernel)
theorem dX3_init_117 : decode cX3_init 117 = .ok (.aload_n 0, 1) := fo_42 (fd_n 5 sr_X3_init_4 rfl)
theorem dX3_init_118 : decode cX3_init 118 = .ok (.getfield 26, 3) := fo_180 (fd_n 6 sr_X3_init_4 rfl) rfl
theorem dX3_init_121 : decode cX3_init 121 = .ok (.iload_n 1, 1) := fo_27 (fd_n 9 sr_X3_init_4 rfl)
theorem dX3_init_122 : decode cX3_init 122 = .ok (.iconst (-1), 1) := fo_2 (fd_n 10 sr_X3_init_4 rfl)
theorem dX3_init_123 : decode cX3_init 123 = .ok (.iastore, 1) := fo_79 (fd_n 11 sr_X3_init_4 rfl)
theorem dX3_init_124 : decode cX3_init 124 = .ok (.iinc 1 1, 3) := fo_132 (fd_n 12 sr_X3_init_4 rfl) rfl (by decide +kernel)
theorem dX3_init_127 : decode cX3_init 127 = .ok (.goto (-16), 3) := fo_167 (fd_n 15 sr_X3_init_4 rfl) (by decide +kernel)
theorem dX3_init_130 : decode cX3_init 130 = .ok (.return_, 1) := fo_177 (fd_n 18 sr_X3_init_4 rfl)
theorem dX3_init_8 : decode cX3_init 8 = .ok (.multianewarray 9 2, 4) := by decide +kernel
theorem dX3_init_20 : decode cX3_init 20 = .ok (.multianewarray 9 2, 4) := by decide +kernel
theorem dX3_init_29 : decode cX3_init 29 = .ok (.newarray .int, 2) := by decide +kernel
theorem dX3_init_36 : decode cX3_init 36 = .ok (.newarray .int, 2) := by decide +kernel
theorem dX3_init_44 : decode cX3_init 44 = .ok (.newarray .int, 2) := by decide +kernel
noncomputable def sl_X3_become_4 : List UInt8 := 42 :: 43 :: 180 :: 0 :: 33 :: 181 :: 0 :: 33 :: 42 :: 43 :: 180 :: 0 :: 36 :: 181 :: 0 :: 36 :: 177 :: []
noncomputable def sl_X3_become_3 : List UInt8 := 3 :: 7 :: 184 :: 0 :: 39 :: 43 :: 180 :: 0 :: 26 :: 3 :: 42 :: 180 :: 0 :: 26 :: 3 :: 16 :: 10 :: 184 :: 0 :: 39 :: 42 :: 43 :: 180 :: 0 :: 29 :: 181 :: 0 :: 29 :: sl_X3_become_4
noncomputable def sl_X3_become_2 : List UInt8 := 132 :: 2 :: 1 :: 167 :: 255 :: 228 :: 43 :: 180 :: 0 :: 19 :: 3 :: 42 :: 180 :: 0 :: 19 :: 3 :: 7 :: 184 :: 0 :: 39 :: 43 :: 180 :: 0 :: 23 :: 3 :: 42 :: 180 :: 0 :: 23 :: sl_X3_become_3
noncomputable def sl_X3_become_1 : List UInt8 := 167 :: 255 :: 229 :: 3 :: 61 :: 28 :: 16 :: 6 :: 162 :: 0 :: 28 :: 43 :: 180 :: 0 :: 16 :: 28 :: 50 :: 3 :: 42 :: 180 :: 0 :: 16 :: 28 :: 50 :: 3 :: 16 :: 10 :: 184 :: 0 :: 39 :: sl_X3_become_2
noncomputable def sl_X3_become_0 : List UInt8 := 3 :: 61 :: 28 :: 7 :: 162 :: 0 :: 28 :: 43 :: 180 :: 0 :: 11 :: 28 :: 50 :: 3 :: 42 :: 180 :: 0 :: 11 :: 28 :: 50 :: 3 :: 16 :: 25 :: 184 :: 0 :: 39 :: 132 :: 2 :: 1 :: sl_X3_become_1
theorem sr_X3_become_0 : fd_at cX3_become 0 sl_X3_become_0 := fd_base (by decide +kernel)
theorem sr_X3_become_1 : fd_at cX3_become 29 sl_X3_become_1 := fd_n 29 sr_X3_become_0 rfl
theorem sr_X3_become_2 : fd_at cX3_become 59 sl_X3_become_2 := fd_n 30 sr_X3_become_1 rfl
theorem sr_X3_become_3 : fd_at cX3_become 88 sl_X3_become_3 := fd_n 29 sr_X3_become_2 rfl
theorem sr_X3_become_4 : fd_at cX3_become 116 sl_X3_become_4 := fd_n 28 sr_X3_become_3 rfl
theorem dX3_become_0 : decode cX3_become 0 = .ok (.iconst 0, 1) := fo_3 sr_X3_become_0
theorem dX3_become_1 : decode cX3_become 1 = .ok (.istore_n 2, 1) := fo_61 (fd_n 1 sr_X3_become_0 rfl)
theorem dX3_become_2 : decode cX3_become 2 = .ok (.iload_n 2, 1) := fo_28 (fd_n 2 sr_X3_become_0 rfl)
theorem dX3_become_3 : decode cX3_become 3 = .ok (.iconst 4, 1) := fo_7 (fd_n 3 sr_X3_become_0 rfl)
theorem dX3_become_4 : decode cX3_become 4 = .ok (.if_icmp .ge 28, 3) := fo_162 (fd_n 4 sr_X3_become_0 rfl) (by decide +kernel)
theorem dX3_become_7 : decode cX3_become 7 = .ok (.aload_n 1, 1) := fo_43 (fd_n 7 sr_X3_become_0 rfl)
theorem dX3_become_8 : decode cX3_become 8 = .ok (.getfield 11, 3) := fo_180 (fd_n 8 sr_X3_become_0 rfl) rfl
theorem dX3_become_11 : decode cX3_become 11 = .ok (.iload_n 2, 1) := fo_28 (fd_n 11 sr_X3_become_0 rfl)
theorem dX3_become_12 : decode cX3_become 12 = .ok (.aaload, 1) := fo_50 (fd_n 12 sr_X3_become_0 rfl)
theorem dX3_become_13 : decode cX3_become 13 = .ok (.iconst 0, 1) := fo_3 (fd_n 13 sr_X3_become_0 rfl)
theorem dX3_become_14 : decode cX3_become 14 = .ok (.aload_n 0, 1) := fo_42 (fd_n 14 sr_X3_become_0 rfl)
theorem dX3_become_15 : decode cX3_become 15 = .ok (.getfield 11, 3) := fo_180 (fd_n 15 sr_X3_become_0 rfl) rfl
theorem dX3_become_18 : decode cX3_become 18 = .ok (.iload_n 2, 1) := fo_28 (fd_n 18 sr_X3_become_0 rfl)
theorem dX3_become_19 : decode cX3_become 19 = .ok (.aaload, 1) := fo_50 (fd_n 19 sr_X3_become_0 rfl)
theorem dX3_become_20 : decode cX3_become 20 = .ok (.iconst 0, 1) := fo_3 (fd_n 20 sr_X3_become_0 rfl)
theorem dX3_become_21 : decode cX3_become 21 = .ok (.bipush 25, 2) := fo_16 (fd_n 21 sr_X3_become_0 rfl) (by decide +kernel)
theorem dX3_become_23 : decode cX3_become 23 = .ok (.invokestatic 39, 3) := fo_184 (fd_n 23 sr_X3_become_0 rfl) rfl
theorem dX3_become_26 : decode cX3_become 26 = .ok (.iinc 2 1, 3) := fo_132 (fd_n 26 sr_X3_become_0 rfl) rfl (by decide +kernel)
theorem dX3_become_29 : decode cX3_become 29 = .ok (.goto (-27), 3) := fo_167 sr_X3_become_1 (by decide +kernel)
theorem dX3_become_32 : decode cX3_become 32 = .ok (.iconst 0, 1) := fo_3 (fd_n 3 sr_X3_become_1 rfl)
theorem dX3_become_33 : decode cX3_become 33 = .ok (.istore_n 2, 1) := fo_61 (fd_n 4 sr_X3_become_1 rfl)
theorem dX3_become_34 : decode cX3_become 34 = .ok (.iload_n 2, 1) := fo_28 (fd_n 5 sr_X3_become_1 rfl)
theorem dX3_become_35 : decode cX3_become 35 = .ok (.bipush 6, 2) := fo_16 (fd_n 6 sr_X3_become_1 rfl) (by decide +kernel)
theorem dX3_become_37 : decode cX3_become 37 = .ok (.if_icmp .ge 28, 3) := fo_162 (fd_n 8 sr_X3_become_1 rfl) (by decide +kernel)
theorem dX3_become_40 : decode cX3_become 40 = .ok (.aload_n 1, 1) := fo_43 (fd_n 11 sr_X3_become_1 rfl)
theorem dX3_become_41 : decode cX3_become 41 = .ok (.getfield 16, 3) := fo_180 (fd_n 12 sr_X3_become_1 rfl) rfl
theorem dX3_become_44 : decode cX3_become 44 = .ok (.iload_n 2, 1) := fo_28 (fd_n 15 sr_X3_become_1 rfl)
theorem dX3_become_45 : decode cX3_become 45 = .ok (.aaload, 1) := fo_50 (fd_n 16 sr_X3_become_1 rfl)
theorem dX3_become_46 : decode cX3_become 46 = .ok (.iconst 0, 1) := fo_3 (fd_n 17 sr_X3_become_1 rfl)
theorem dX3_become_47 : decode cX3_become 47 = .ok (.aload_n 0, 1) := fo_42 (fd_n 18 sr_X3_become_1 rfl)
theorem dX3_become_48 : decode cX3_become 48 = .ok (.getfield 16, 3) := fo_180 (fd_n 19 sr_X3_become_1 rfl) rfl
theorem dX3_become_51 : decode cX3_become 51 = .ok (.iload_n 2, 1) := fo_28 (fd_n 22 sr_X3_become_1 rfl)
theorem dX3_become_52 : decode cX3_become 52 = .ok (.aaload, 1) := fo_50 (fd_n 23 sr_X3_become_1 rfl)
theorem dX3_become_53 : decode cX3_become 53 = .ok (.iconst 0, 1) := fo_3 (fd_n 24 sr_X3_become_1 rfl)
theorem dX3_become_54 : decode cX3_become 54 = .ok (.bipush 10, 2) := fo_16 (fd_n 25 sr_X3_become_1 rfl) (by decide +kernel)
theorem dX3_become_56 : decode cX3_become 56 = .ok (.invokestatic 39, 3) := fo_184 (fd_n 27 sr_X3_become_1 rfl) rfl
theorem dX3_become_59 : decode cX3_become 59 = .ok (.iinc 2 1, 3) := fo_132 sr_X3_become_2 rfl (by decide +kernel)
theorem dX3_become_62 : decode cX3_become 62 = .ok (.goto (-28), 3) := fo_167 (fd_n 3 sr_X3_become_2 rfl) (by decide +kernel)
theorem dX3_become_65 : decode cX3_become 65 = .ok (.aload_n 1, 1) := fo_43 (fd_n 6 sr_X3_become_2 rfl)
theorem dX3_become_66 : decode cX3_become 66 = .ok (.getfield 19, 3) := fo_180 (fd_n 7 sr_X3_become_2 rfl) rfl
theorem dX3_become_69 : decode cX3_become 69 = .ok (.iconst 0, 1) := fo_3 (fd_n 10 sr_X3_become_2 rfl)
theorem dX3_become_70 : decode cX3_become 70 = .ok (.aload_n 0, 1) := fo_42 (fd_n 11 sr_X3_become_2 rfl)
theorem dX3_become_71 : decode cX3_become 71 = .ok (.getfield 19, 3) := fo_180 (fd_n 12 sr_X3_become_2 rfl) rfl
theorem dX3_become_74 : decode cX3_become 74 = .ok (.iconst 0, 1) := fo_3 (fd_n 15 sr_X3_become_2 rfl)
theorem dX3_become_75 : decode cX3_become 75 = .ok (.iconst 4, 1) := fo_7 (fd_n 16 sr_X3_become_2 rfl)
theorem dX3_become_76 : decode cX3_become 76 = .ok (.invokestatic 39, 3) := fo_184 (fd_n 17 sr_X3_become_2 rfl) rfl
theorem dX3_become_79 : decode cX3_become 79 = .ok (.aload_n 1, 1) := fo_43 (fd_n 20 sr_X3_become_2 rfl)
theorem dX3_become_80 : decode cX3_become 80 = .ok (.getfield 23, 3) := fo_180 (fd_n 21 sr_X3_become_2 rfl) rfl
theorem dX3_become_83 : decode cX3_become 83 = .ok (.iconst 0, 1) := fo_3 (fd_n 24 sr_X3_become_2 rfl)
theorem dX3_become_84 : decode cX3_become 84 = .ok (.aload_n 0, 1) := fo_42 (fd_n 25 sr_X3_become_2 rfl)
theorem dX3_become_85 : decode cX3_become 85 = .ok (.getfield 23, 3) := fo_180 (fd_n 26 sr_X3_become_2 rfl) rfl
theorem dX3_become_88 : decode cX3_become 88 = .ok (.iconst 0, 1) := fo_3 sr_X3_become_3
theorem dX3_become_89 : decode cX3_become 89 = .ok (.iconst 4, 1) := fo_7 (fd_n 1 sr_X3_become_3 rfl)
theorem dX3_become_90 : decode cX3_become 90 = .ok (.invokestatic 39, 3) := fo_184 (fd_n 2 sr_X3_become_3 rfl) rfl
theorem dX3_become_93 : decode cX3_become 93 = .ok (.aload_n 1, 1) := fo_43 (fd_n 5 sr_X3_become_3 rfl)
theorem dX3_become_94 : decode cX3_become 94 = .ok (.getfield 26, 3) := fo_180 (fd_n 6 sr_X3_become_3 rfl) rfl
theorem dX3_become_97 : decode cX3_become 97 = .ok (.iconst 0, 1) := fo_3 (fd_n 9 sr_X3_become_3 rfl)
theorem dX3_become_98 : decode cX3_become 98 = .ok (.aload_n 0, 1) := fo_42 (fd_n 10 sr_X3_become_3 rfl)
theorem dX3_become_99 : decode cX3_become 99 = .ok (.getfield 26, 3) := fo_180 (fd_n 11 sr_X3_become_3 rfl) rfl
theorem dX3_become_102 : decode cX3_become 102 = .ok (.iconst 0, 1) := fo_3 (fd_n 14 sr_X3_become_3 rfl)
theorem dX3_become_103 : decode cX3_become 103 = .ok (.bipush 10, 2) := fo_16 (fd_n 15 sr_X3_become_3 rfl) (by decide +kernel)
theorem dX3_become_105 : decode cX3_become 105 = .ok (.invokestatic 39, 3) := fo_184 (fd_n 17 sr_X3_become_3 rfl) rfl
theorem dX3_become_108 : decode cX3_become 108 = .ok (.aload_n 0, 1) := fo_42 (fd_n 20 sr_X3_become_3 rfl)
theorem dX3_become_109 : decode cX3_become 109 = .ok (.aload_n 1, 1) := fo_43 (fd_n 21 sr_X3_become_3 rfl)
theorem dX3_become_110 : decode cX3_become 110 = .ok (.getfield 29, 3) := fo_180 (fd_n 22 sr_X3_become_3 rfl) rfl
theorem dX3_become_113 : decode cX3_become 113 = .ok (.putfield 29, 3) := fo_181 (fd_n 25 sr_X3_become_3 rfl) rfl
theorem dX3_become_116 : decode cX3_become 116 = .ok (.aload_n 0, 1) := fo_42 sr_X3_become_4
theorem dX3_become_117 : decode cX3_become 117 = .ok (.aload_n 1, 1) := fo_43 (fd_n 1 sr_X3_become_4 rfl)
theorem dX3_become_118 : decode cX3_become 118 = .ok (.getfield 33, 3) := fo_180 (fd_n 2 sr_X3_become_4 rfl) rfl
theorem dX3_become_121 : decode cX3_become 121 = .ok (.putfield 33, 3) := fo_181 (fd_n 5 sr_X3_become_4 rfl) rfl
theorem dX3_become_124 : decode cX3_become 124 = .ok (.aload_n 0, 1) := fo_42 (fd_n 8 sr_X3_become_4 rfl)
theorem dX3_become_125 : decode cX3_become 125 = .ok (.aload_n 1, 1) := fo_43 (fd_n 9 sr_X3_become_4 rfl)
theorem dX3_become_126 : decode cX3_become 126 = .ok (.getfield 36, 3) := fo_180 (fd_n 10 sr_X3_become_4 rfl) rfl
theorem dX3_become_129 : decode cX3_become 129 = .ok (.putfield 36, 3) := fo_181 (fd_n 13 sr_X3_become_4 rfl) rfl
theorem dX3_become_132 : decode cX3_become 132 = .ok (.return_, 1) := fo_177 (fd_n 16 sr_X3_become_4 rfl)
noncomputable def sl_X3_isTaken_0 : List UInt8 := 42 :: 180 :: 0 :: 11 :: 3 :: 50 :: 27 :: 46 :: 155 :: 0 :: 7 :: 4 :: 167 :: 0 :: 4 :: 3 :: 172 :: []
theorem sr_X3_isTaken_0 : fd_at cX3_isTaken 0 sl_X3_isTaken_0 := fd_base (by decide +kernel)
theorem dX3_isTaken_0 : decode cX3_isTaken 0 = .ok (.aload_n 0, 1) := fo_42 sr_X3_isTaken_0
theorem dX3_isTaken_1 : decode cX3_isTaken 1 = .ok (.getfield 11, 3) := fo_180 (fd_n 1 sr_X3_isTaken_0 rfl) rfl
theorem dX3_isTaken_4 : decode cX3_isTaken 4 = .ok (.iconst 0, 1) := fo_3 (fd_n 4 sr_X3_isTaken_0 rfl)
theorem dX3_isTaken_5 : decode cX3_isTaken 5 = .ok (.aaload, 1) := fo_50 (fd_n 5 sr_X3_isTaken_0 rfl)
theorem dX3_isTaken_6 : decode cX3_isTaken 6 = .ok (.iload_n 1, 1) := fo_27 (fd_n 6 sr_X3_isTaken_0 rfl)
theorem dX3_isTaken_7 : decode cX3_isTaken 7 = .ok (.iaload, 1) := fo_46 (fd_n 7 sr_X3_isTaken_0 rfl)
theorem dX3_isTaken_8 : decode cX3_isTaken 8 = .ok (.ifCond .lt 7, 3) := fo_155 (fd_n 8 sr_X3_isTaken_0 rfl) (by decide +kernel)
theorem dX3_isTaken_11 : decode cX3_isTaken 11 = .ok (.iconst 1, 1) := fo_4 (fd_n 11 sr_X3_isTaken_0 rfl)
theorem dX3_isTaken_12 : decode cX3_isTaken 12 = .ok (.goto 4, 3) := fo_167 (fd_n 12 sr_X3_isTaken_0 rfl) (by decide +kernel)
theorem dX3_isTaken_15 : decode cX3_isTaken 15 = .ok (.iconst 0, 1) := fo_3 (fd_n 15 sr_X3_isTaken_0 rfl)
theorem dX3_isTaken_16 : decode cX3_isTaken 16 = .ok (.ireturn, 1) := fo_172 (fd_n 16 sr_X3_isTaken_0 rfl)
noncomputable def sl_X3_isOwnersLot_0 : List UInt8 := 42 :: 27 :: 182 :: 0 :: 45 :: 153 :: 0 :: 19 :: 42 :: 180 :: 0 :: 11 :: 4 :: 50 :: 27 :: 46 :: 28 :: 160 :: 0 :: 7 :: 4 :: 167 :: 0 :: 4 :: 3 :: 172 :: []
theorem sr_X3_isOwnersLot_0 : fd_at cX3_isOwnersLot 0 sl_X3_isOwnersLot_0 := fd_base (by decide +kernel)
theorem dX3_isOwnersLot_0 : decode cX3_isOwnersLot 0 = .ok (.aload_n 0, 1) := fo_42 sr_X3_isOwnersLot_0
theorem dX3_isOwnersLot_1 : decode cX3_isOwnersLot 1 = .ok (.iload_n 1, 1) := fo_27 (fd_n 1 sr_X3_isOwnersLot_0 rfl)
theorem dX3_isOwnersLot_2 : decode cX3_isOwnersLot 2 = .ok (.invokevirtual 45, 3) := fo_182 (fd_n 2 sr_X3_isOwnersLot_0 rfl) rfl
theorem dX3_isOwnersLot_5 : decode cX3_isOwnersLot 5 = .ok (.ifCond .eq 19, 3) := fo_153 (fd_n 5 sr_X3_isOwnersLot_0 rfl) (by decide +kernel)
theorem dX3_isOwnersLot_8 : decode cX3_isOwnersLot 8 = .ok (.aload_n 0, 1) := fo_42 (fd_n 8 sr_X3_isOwnersLot_0 rfl)
theorem dX3_isOwnersLot_9 : decode cX3_isOwnersLot 9 = .ok (.getfield 11, 3) := fo_180 (fd_n 9 sr_X3_isOwnersLot_0 rfl) rfl
theorem dX3_isOwnersLot_12 : decode cX3_isOwnersLot 12 = .ok (.iconst 1, 1) := fo_4 (fd_n 12 sr_X3_isOwnersLot_0 rfl)
theorem dX3_isOwnersLot_13 : decode cX3_isOwnersLot 13 = .ok (.aaload, 1) := fo_50 (fd_n 13 sr_X3_isOwnersLot_0 rfl)
theorem dX3_isOwnersLot_14 : decode cX3_isOwnersLot 14 = .ok (.iload_n 1, 1) := fo_27 (fd_n 14 sr_X3_isOwnersLot_0 rfl)
theorem dX3_isOwnersLot_15 : decode cX3_isOwnersLot 15 = .ok (.iaload, 1) := fo_46 (fd_n 15 sr_X3_isOwnersLot_0 rfl)
theorem dX3_isOwnersLot_16 : decode cX3_isOwnersLot 16 = .ok (.iload_n 2, 1) := fo_28 (fd_n 16 sr_X3_isOwnersLot_0 rfl)
theorem dX3_isOwnersLot_17 : decode cX3_isOwnersLot 17 = .ok (.if_icmp .ne 7, 3) := fo_160 (fd_n 17 sr_X3_isOwnersLot_0 rfl) (by decide +kernel)
theorem dX3_isOwnersLot_20 : decode cX3_isOwnersLot 20 = .ok (.iconst 1, 1) := fo_4 (fd_n 20 sr_X3_isOwnersLot_0 rfl)
theorem dX3_isOwnersLot_21 : decode cX3_isOwnersLot 21 = .ok (.goto 4, 3) := fo_167 (fd_n 21 sr_X3_isOwnersLot_0 rfl) (by decide +kernel)
theorem dX3_isOwnersLot_24 : decode cX3_isOwnersLot 24 = .ok (.iconst 0, 1) := fo_3 (fd_n 24 sr_X3_isOwnersLot_0 rfl)
theorem dX3_isOwnersLot_25 : decode cX3_isOwnersLot 25 = .ok (.ireturn, 1) := fo_172 (fd_n 25 sr_X3_isOwnersLot_0 rfl)
noncomputable def sl_X3_put_1 : List UInt8 := 42 :: 180 :: 0 :: 11 :: 6 :: 50 :: 27 :: 21 :: 5 :: 79 :: 177 :: []
noncomputable def sl_X3_put_0 : List UInt8 := 42 :: 180 :: 0 :: 11 :: 3 :: 50 :: 27 :: 28 :: 79 :: 42 :: 180 :: 0 :: 11 :: 4 :: 50 :: 27 :: 29 :: 79 :: 42 :: 180 :: 0 :: 11 :: 5 :: 50 :: 27 :: 21 :: 4 :: 79 :: sl_X3_put_1
theorem sr_X3_put_0 : fd_at cX3_put 0 sl_X3_put_0 := fd_base (by decide +kernel)
theorem sr_X3_put_1 : fd_at cX3_put 28 sl_X3_put_1 := fd_n 28 sr_X3_put_0 rfl
theorem dX3_put_0 : decode cX3_put 0 = .ok (.aload_n 0, 1) := fo_42 sr_X3_put_0
theorem dX3_put_1 : decode cX3_put 1 = .ok (.getfield 11, 3) := fo_180 (fd_n 1 sr_X3_put_0 rfl) rfl
theorem dX3_put_4 : decode cX3_put 4 = .ok (.iconst 0, 1) := fo_3 (fd_n 4 sr_X3_put_0 rfl)
theorem dX3_put_5 : decode cX3_put 5 = .ok (.aaload, 1) := fo_50 (fd_n 5 sr_X3_put_0 rfl)
theorem dX3_put_6 : decode cX3_put 6 = .ok (.iload_n 1, 1) := fo_27 (fd_n 6 sr_X3_put_0 rfl)
theorem dX3_put_7 : decode cX3_put 7 = .ok (.iload_n 2, 1) := fo_28 (fd_n 7 sr_X3_put_0 rfl)
theorem dX3_put_8 : decode cX3_put 8 = .ok (.iastore, 1) := fo_79 (fd_n 8 sr_X3_put_0 rfl)
theorem dX3_put_9 : decode cX3_put 9 = .ok (.aload_n 0, 1) := fo_42 (fd_n 9 sr_X3_put_0 rfl)
theorem dX3_put_10 : decode cX3_put 10 = .ok (.getfield 11, 3) := fo_180 (fd_n 10 sr_X3_put_0 rfl) rfl
theorem dX3_put_13 : decode cX3_put 13 = .ok (.iconst 1, 1) := fo_4 (fd_n 13 sr_X3_put_0 rfl)
theorem dX3_put_14 : decode cX3_put 14 = .ok (.aaload, 1) := fo_50 (fd_n 14 sr_X3_put_0 rfl)
theorem dX3_put_15 : decode cX3_put 15 = .ok (.iload_n 1, 1) := fo_27 (fd_n 15 sr_X3_put_0 rfl)
theorem dX3_put_16 : decode cX3_put 16 = .ok (.iload_n 3, 1) := fo_29 (fd_n 16 sr_X3_put_0 rfl)
theorem dX3_put_17 : decode cX3_put 17 = .ok (.iastore, 1) := fo_79 (fd_n 17 sr_X3_put_0 rfl)
theorem dX3_put_18 : decode cX3_put 18 = .ok (.aload_n 0, 1) := fo_42 (fd_n 18 sr_X3_put_0 rfl)
theorem dX3_put_19 : decode cX3_put 19 = .ok (.getfield 11, 3) := fo_180 (fd_n 19 sr_X3_put_0 rfl) rfl
theorem dX3_put_22 : decode cX3_put 22 = .ok (.iconst 2, 1) := fo_5 (fd_n 22 sr_X3_put_0 rfl)
theorem dX3_put_23 : decode cX3_put 23 = .ok (.aaload, 1) := fo_50 (fd_n 23 sr_X3_put_0 rfl)
theorem dX3_put_24 : decode cX3_put 24 = .ok (.iload_n 1, 1) := fo_27 (fd_n 24 sr_X3_put_0 rfl)
theorem dX3_put_25 : decode cX3_put 25 = .ok (.iload 4, 2) := fo_21 (fd_n 25 sr_X3_put_0 rfl) rfl
theorem dX3_put_27 : decode cX3_put 27 = .ok (.iastore, 1) := fo_79 (fd_n 27 sr_X3_put_0 rfl)
theorem dX3_put_28 : decode cX3_put 28 = .ok (.aload_n 0, 1) := fo_42 sr_X3_put_1
theorem dX3_put_29 : decode cX3_put 29 = .ok (.getfield 11, 3) := fo_180 (fd_n 1 sr_X3_put_1 rfl) rfl
theorem dX3_put_32 : decode cX3_put 32 = .ok (.iconst 3, 1) := fo_6 (fd_n 4 sr_X3_put_1 rfl)
theorem dX3_put_33 : decode cX3_put 33 = .ok (.aaload, 1) := fo_50 (fd_n 5 sr_X3_put_1 rfl)
theorem dX3_put_34 : decode cX3_put 34 = .ok (.iload_n 1, 1) := fo_27 (fd_n 6 sr_X3_put_1 rfl)
theorem dX3_put_35 : decode cX3_put 35 = .ok (.iload 5, 2) := fo_21 (fd_n 7 sr_X3_put_1 rfl) rfl
theorem dX3_put_37 : decode cX3_put 37 = .ok (.iastore, 1) := fo_79 (fd_n 9 sr_X3_put_1 rfl)
theorem dX3_put_38 : decode cX3_put 38 = .ok (.return_, 1) := fo_177 (fd_n 10 sr_X3_put_1 rfl)
noncomputable def sl_X3_takeOff_0 : List UInt8 := 42 :: 180 :: 0 :: 11 :: 3 :: 50 :: 27 :: 2 :: 79 :: 177 :: []
theorem sr_X3_takeOff_0 : fd_at cX3_takeOff 0 sl_X3_takeOff_0 := fd_base (by decide +kernel)
theorem dX3_takeOff_0 : decode cX3_takeOff 0 = .ok (.aload_n 0, 1) := fo_42 sr_X3_takeOff_0
theorem dX3_takeOff_1 : decode cX3_takeOff 1 = .ok (.getfield 11, 3) := fo_180 (fd_n 1 sr_X3_takeOff_0 rfl) rfl
theorem dX3_takeOff_4 : decode cX3_takeOff 4 = .ok (.iconst 0, 1) := fo_3 (fd_n 4 sr_X3_takeOff_0 rfl)
theorem dX3_takeOff_5 : decode cX3_takeOff 5 = .ok (.aaload, 1) := fo_50 (fd_n 5 sr_X3_takeOff_0 rfl)
theorem dX3_takeOff_6 : decode cX3_takeOff 6 = .ok (.iload_n 1, 1) := fo_27 (fd_n 6 sr_X3_takeOff_0 rfl)
theorem dX3_takeOff_7 : decode cX3_takeOff 7 = .ok (.iconst (-1), 1) := fo_2 (fd_n 7 sr_X3_takeOff_0 rfl)
theorem dX3_takeOff_8 : decode cX3_takeOff 8 = .ok (.iastore, 1) := fo_79 (fd_n 8 sr_X3_takeOff_0 rfl)
theorem dX3_takeOff_9 : decode cX3_takeOff 9 = .ok (.return_, 1) := fo_177 (fd_n 9 sr_X3_takeOff_0 rfl)
noncomputable def sl_X3_exchange_1 : List UInt8 := 29 :: 50 :: 28 :: 46 :: 79 :: 42 :: 180 :: 0 :: 11 :: 29 :: 50 :: 28 :: 21 :: 4 :: 79 :: 132 :: 3 :: 1 :: 167 :: 255 :: 212 :: 177 :: []
noncomputable def sl_X3_exchange_0 : List UInt8 := 3 :: 62 :: 29 :: 7 :: 162 :: 0 :: 45 :: 42 :: 180 :: 0 :: 11 :: 29 :: 50 :: 27 :: 46 :: 54 :: 4 :: 42 :: 180 :: 0 :: 11 :: 29 :: 50 :: 27 :: 42 :: 180 :: 0 :: 11 :: sl_X3_exchange_1
theorem sr_X3_exchange_0 : fd_at cX3_exchange 0 sl_X3_exchange_0 := fd_base (by decide +kernel)
theorem sr_X3_exchange_1 : fd_at cX3_exchange 28 sl_X3_exchange_1 := fd_n 28 sr_X3_exchange_0 rfl
theorem dX3_exchange_0 : decode cX3_exchange 0 = .ok (.iconst 0, 1) := fo_3 sr_X3_exchange_0
theorem dX3_exchange_1 : decode cX3_exchange 1 = .ok (.istore_n 3, 1) := fo_62 (fd_n 1 sr_X3_exchange_0 rfl)
theorem dX3_exchange_2 : decode cX3_exchange 2 = .ok (.iload_n 3, 1) := fo_29 (fd_n 2 sr_X3_exchange_0 rfl)
theorem dX3_exchange_3 : decode cX3_exchange 3 = .ok (.iconst 4, 1) := fo_7 (fd_n 3 sr_X3_exchange_0 rfl)
theorem dX3_exchange_4 : decode cX3_exchange 4 = .ok (.if_icmp .ge 45, 3) := fo_162 (fd_n 4 sr_X3_exchange_0 rfl) (by decide +kernel)
theorem dX3_exchange_7 : decode cX3_exchange 7 = .ok (.aload_n 0, 1) := fo_42 (fd_n 7 sr_X3_exchange_0 rfl)
theorem dX3_exchange_8 : decode cX3_exchange 8 = .ok (.getfield 11, 3) := fo_180 (fd_n 8 sr_X3_exchange_0 rfl) rfl
theorem dX3_exchange_11 : decode cX3_exchange 11 = .ok (.iload_n 3, 1) := fo_29 (fd_n 11 sr_X3_exchange_0 rfl)
theorem dX3_exchange_12 : decode cX3_exchange 12 = .ok (.aaload, 1) := fo_50 (fd_n 12 sr_X3_exchange_0 rfl)
theorem dX3_exchange_13 : decode cX3_exchange 13 = .ok (.iload_n 1, 1) := fo_27 (fd_n 13 sr_X3_exchange_0 rfl)
theorem dX3_exchange_14 : decode cX3_exchange 14 = .ok (.iaload, 1) := fo_46 (fd_n 14 sr_X3_exchange_0 rfl)
theorem dX3_exchange_15 : decode cX3_exchange 15 = .ok (.istore 4, 2) := fo_54 (fd_n 15 sr_X3_exchange_0 rfl) rfl
theorem dX3_exchange_17 : decode cX3_exchange 17 = .ok (.aload_n 0, 1) := fo_42 (fd_n 17 sr_X3_exchange_0 rfl)
theorem dX3_exchange_18 : decode cX3_exchange 18 = .ok (.getfield 11, 3) := fo_180 (fd_n 18 sr_X3_exchange_0 rfl) rfl
theorem dX3_exchange_21 : decode cX3_exchange 21 = .ok (.iload_n 3, 1) := fo_29 (fd_n 21 sr_X3_exchange_0 rfl)
theorem dX3_exchange_22 : decode cX3_exchange 22 = .ok (.aaload, 1) := fo_50 (fd_n 22 sr_X3_exchange_0 rfl)
theorem dX3_exchange_23 : decode cX3_exchange 23 = .ok (.iload_n 1, 1) := fo_27 (fd_n 23 sr_X3_exchange_0 rfl)
theorem dX3_exchange_24 : decode cX3_exchange 24 = .ok (.aload_n 0, 1) := fo_42 (fd_n 24 sr_X3_exchange_0 rfl)
theorem dX3_exchange_25 : decode cX3_exchange 25 = .ok (.getfield 11, 3) := fo_180 (fd_n 25 sr_X3_exchange_0 rfl) rfl
theorem dX3_exchange_28 : decode cX3_exchange 28 = .ok (.iload_n 3, 1) := fo_29 sr_X3_exchange_1
theorem dX3_exchange_29 : decode cX3_exchange 29 = .ok (.aaload, 1) := fo_50 (fd_n 1 sr_X3_exchange_1 rfl)
theorem dX3_exchange_30 : decode cX3_exchange 30 = .ok (.iload_n 2, 1) := fo_28 (fd_n 2 sr_X3_exchange_1 rfl)
theorem dX3_exchange_31 : decode cX3_exchange 31 = .ok (.iaload, 1) := fo_46 (fd_n 3 sr_X3_exchange_1 rfl)
theorem dX3_exchange_32 : decode cX3_exchange 32 = .ok (.iastore, 1) := fo_79 (fd_n 4 sr_X3_exchange_1 rfl)
theorem dX3_exchange_33 : decode cX3_exchange 33 = .ok (.aload_n 0, 1) := fo_42 (fd_n 5 sr_X3_exchange_1 rfl)
theorem dX3_exchange_34 : decode cX3_exchange 34 = .ok (.getfield 11, 3) := fo_180 (fd_n 6 sr_X3_exchange_1 rfl) rfl
theorem dX3_exchange_37 : decode cX3_exchange 37 = .ok (.iload_n 3, 1) := fo_29 (fd_n 9 sr_X3_exchange_1 rfl)
theorem dX3_exchange_38 : decode cX3_exchange 38 = .ok (.aaload, 1) := fo_50 (fd_n 10 sr_X3_exchange_1 rfl)
theorem dX3_exchange_39 : decode cX3_exchange 39 = .ok (.iload_n 2, 1) := fo_28 (fd_n 11 sr_X3_exchange_1 rfl)
theorem dX3_exchange_40 : decode cX3_exchange 40 = .ok (.iload 4, 2) := fo_21 (fd_n 12 sr_X3_exchange_1 rfl) rfl
theorem dX3_exchange_42 : decode cX3_exchange 42 = .ok (.iastore, 1) := fo_79 (fd_n 14 sr_X3_exchange_1 rfl)
theorem dX3_exchange_43 : decode cX3_exchange 43 = .ok (.iinc 3 1, 3) := fo_132 (fd_n 15 sr_X3_exchange_1 rfl) rfl (by decide +kernel)
theorem dX3_exchange_46 : decode cX3_exchange 46 = .ok (.goto (-44), 3) := fo_167 (fd_n 18 sr_X3_exchange_1 rfl) (by decide +kernel)
theorem dX3_exchange_49 : decode cX3_exchange 49 = .ok (.return_, 1) := fo_177 (fd_n 21 sr_X3_exchange_1 rfl)
noncomputable def sl_X3_lower_1 : List UInt8 := 79 :: 28 :: 172 :: []
noncomputable def sl_X3_lower_0 : List UInt8 := 42 :: 180 :: 0 :: 11 :: 5 :: 50 :: 27 :: 46 :: 158 :: 0 :: 7 :: 4 :: 167 :: 0 :: 4 :: 3 :: 61 :: 42 :: 180 :: 0 :: 11 :: 5 :: 50 :: 27 :: 92 :: 46 :: 28 :: 100 :: sl_X3_lower_1
theorem sr_X3_lower_0 : fd_at cX3_lower 0 sl_X3_lower_0 := fd_base (by decide +kernel)
theorem sr_X3_lower_1 : fd_at cX3_lower 28 sl_X3_lower_1 := fd_n 28 sr_X3_lower_0 rfl
theorem dX3_lower_0 : decode cX3_lower 0 = .ok (.aload_n 0, 1) := fo_42 sr_X3_lower_0
theorem dX3_lower_1 : decode cX3_lower 1 = .ok (.getfield 11, 3) := fo_180 (fd_n 1 sr_X3_lower_0 rfl) rfl
theorem dX3_lower_4 : decode cX3_lower 4 = .ok (.iconst 2, 1) := fo_5 (fd_n 4 sr_X3_lower_0 rfl)
theorem dX3_lower_5 : decode cX3_lower 5 = .ok (.aaload, 1) := fo_50 (fd_n 5 sr_X3_lower_0 rfl)
theorem dX3_lower_6 : decode cX3_lower 6 = .ok (.iload_n 1, 1) := fo_27 (fd_n 6 sr_X3_lower_0 rfl)
theorem dX3_lower_7 : decode cX3_lower 7 = .ok (.iaload, 1) := fo_46 (fd_n 7 sr_X3_lower_0 rfl)
theorem dX3_lower_8 : decode cX3_lower 8 = .ok (.ifCond .le 7, 3) := fo_158 (fd_n 8 sr_X3_lower_0 rfl) (by decide +kernel)
theorem dX3_lower_11 : decode cX3_lower 11 = .ok (.iconst 1, 1) := fo_4 (fd_n 11 sr_X3_lower_0 rfl)
theorem dX3_lower_12 : decode cX3_lower 12 = .ok (.goto 4, 3) := fo_167 (fd_n 12 sr_X3_lower_0 rfl) (by decide +kernel)
theorem dX3_lower_15 : decode cX3_lower 15 = .ok (.iconst 0, 1) := fo_3 (fd_n 15 sr_X3_lower_0 rfl)
theorem dX3_lower_16 : decode cX3_lower 16 = .ok (.istore_n 2, 1) := fo_61 (fd_n 16 sr_X3_lower_0 rfl)
theorem dX3_lower_17 : decode cX3_lower 17 = .ok (.aload_n 0, 1) := fo_42 (fd_n 17 sr_X3_lower_0 rfl)
theorem dX3_lower_18 : decode cX3_lower 18 = .ok (.getfield 11, 3) := fo_180 (fd_n 18 sr_X3_lower_0 rfl) rfl
theorem dX3_lower_21 : decode cX3_lower 21 = .ok (.iconst 2, 1) := fo_5 (fd_n 21 sr_X3_lower_0 rfl)
theorem dX3_lower_22 : decode cX3_lower 22 = .ok (.aaload, 1) := fo_50 (fd_n 22 sr_X3_lower_0 rfl)
theorem dX3_lower_23 : decode cX3_lower 23 = .ok (.iload_n 1, 1) := fo_27 (fd_n 23 sr_X3_lower_0 rfl)
theorem dX3_lower_24 : decode cX3_lower 24 = .ok (.dup2, 1) := fo_92 (fd_n 24 sr_X3_lower_0 rfl)
theorem dX3_lower_25 : decode cX3_lower 25 = .ok (.iaload, 1) := fo_46 (fd_n 25 sr_X3_lower_0 rfl)
theorem dX3_lower_26 : decode cX3_lower 26 = .ok (.iload_n 2, 1) := fo_28 (fd_n 26 sr_X3_lower_0 rfl)
theorem dX3_lower_27 : decode cX3_lower 27 = .ok (.isub, 1) := fo_100 (fd_n 27 sr_X3_lower_0 rfl)
theorem dX3_lower_28 : decode cX3_lower 28 = .ok (.iastore, 1) := fo_79 sr_X3_lower_1
theorem dX3_lower_29 : decode cX3_lower 29 = .ok (.iload_n 2, 1) := fo_28 (fd_n 1 sr_X3_lower_1 rfl)
theorem dX3_lower_30 : decode cX3_lower 30 = .ok (.ireturn, 1) := fo_172 (fd_n 2 sr_X3_lower_1 rfl)
noncomputable def sl_X3_addWindow_3 : List UInt8 := 4 :: 96 :: 181 :: 0 :: 29 :: 177 :: []
noncomputable def sl_X3_addWindow_2 : List UInt8 := 79 :: 42 :: 180 :: 0 :: 16 :: 7 :: 50 :: 42 :: 180 :: 0 :: 29 :: 2 :: 79 :: 42 :: 180 :: 0 :: 16 :: 8 :: 50 :: 42 :: 180 :: 0 :: 29 :: 3 :: 79 :: 42 :: 89 :: 180 :: 0 :: 29 :: sl_X3_addWindow_3
noncomputable def sl_X3_addWindow_1 : List UInt8 := 180 :: 0 :: 29 :: 28 :: 79 :: 42 :: 180 :: 0 :: 16 :: 5 :: 50 :: 42 :: 180 :: 0 :: 29 :: 29 :: 79 :: 42 :: 180 :: 0 :: 16 :: 6 :: 50 :: 42 :: 180 :: 0 :: 29 :: 21 :: 4 :: sl_X3_addWindow_2
noncomputable def sl_X3_addWindow_0 : List UInt8 := 42 :: 180 :: 0 :: 29 :: 16 :: 10 :: 162 :: 0 :: 86 :: 42 :: 180 :: 0 :: 16 :: 3 :: 50 :: 42 :: 180 :: 0 :: 29 :: 27 :: 79 :: 42 :: 180 :: 0 :: 16 :: 4 :: 50 :: 42 :: sl_X3_addWindow_1
theorem sr_X3_addWindow_0 : fd_at cX3_addWindow 0 sl_X3_addWindow_0 := fd_base (by decide +kernel)
theorem sr_X3_addWindow_1 : fd_at cX3_addWindow 28 sl_X3_addWindow_1 := fd_n 28 sr_X3_addWindow_0 rfl
theorem sr_X3_addWindow_2 : fd_at cX3_addWindow 57 sl_X3_addWindow_2 := fd_n 29 sr_X3_addWindow_1 rfl
theorem sr_X3_addWindow_3 : fd_at cX3_addWindow 87 sl_X3_addWindow_3 := fd_n 30 sr_X3_addWindow_2 rfl
theorem dX3_addWindow_0 : decode cX3_addWindow 0 = .ok (.aload_n 0, 1) := fo_42 sr_X3_addWindow_0
theorem dX3_addWindow_1 : decode cX3_addWindow 1 = .ok (.getfield 29, 3) := fo_180 (fd_n 1 sr_X3_addWindow_0 rfl) rfl
theorem dX3_addWindow_4 : decode cX3_addWindow 4 = .ok (.bipush 10, 2) := fo_16 (fd_n 4 sr_X3_addWindow_0 rfl) (by decide +kernel)
theorem dX3_addWindow_6 : decode cX3_addWindow 6 = .ok (.if_icmp .ge 86, 3) := fo_162 (fd_n 6 sr_X3_addWindow_0 rfl) (by decide +kernel)
theorem dX3_addWindow_9 : decode cX3_addWindow 9 = .ok (.aload_n 0, 1) := fo_42 (fd_n 9 sr_X3_addWindow_0 rfl)
theorem dX3_addWindow_10 : decode cX3_addWindow 10 = .ok (.getfield 16, 3) := fo_180 (fd_n 10 sr_X3_addWindow_0 rfl) rfl
theorem dX3_addWindow_13 : decode cX3_addWindow 13 = .ok (.iconst 0, 1) := fo_3 (fd_n 13 sr_X3_addWindow_0 rfl)
theorem dX3_addWindow_14 : decode cX3_addWindow 14 = .ok (.aaload, 1) := fo_50 (fd_n 14 sr_X3_addWindow_0 rfl)
theorem dX3_addWindow_15 : decode cX3_addWindow 15 = .ok (.aload_n 0, 1) := fo_42 (fd_n 15 sr_X3_addWindow_0 rfl)
theorem dX3_addWindow_16 : decode cX3_addWindow 16 = .ok (.getfield 29, 3) := fo_180 (fd_n 16 sr_X3_addWindow_0 rfl) rfl
theorem dX3_addWindow_19 : decode cX3_addWindow 19 = .ok (.iload_n 1, 1) := fo_27 (fd_n 19 sr_X3_addWindow_0 rfl)
theorem dX3_addWindow_20 : decode cX3_addWindow 20 = .ok (.iastore, 1) := fo_79 (fd_n 20 sr_X3_addWindow_0 rfl)
theorem dX3_addWindow_21 : decode cX3_addWindow 21 = .ok (.aload_n 0, 1) := fo_42 (fd_n 21 sr_X3_addWindow_0 rfl)
theorem dX3_addWindow_22 : decode cX3_addWindow 22 = .ok (.getfield 16, 3) := fo_180 (fd_n 22 sr_X3_addWindow_0 rfl) rfl
theorem dX3_addWindow_25 : decode cX3_addWindow 25 = .ok (.iconst 1, 1) := fo_4 (fd_n 25 sr_X3_addWindow_0 rfl)
theorem dX3_addWindow_26 : decode cX3_addWindow 26 = .ok (.aaload, 1) := fo_50 (fd_n 26 sr_X3_addWindow_0 rfl)
theorem dX3_addWindow_27 : decode cX3_addWindow 27 = .ok (.aload_n 0, 1) := fo_42 (fd_n 27 sr_X3_addWindow_0 rfl)
theorem dX3_addWindow_28 : decode cX3_addWindow 28 = .ok (.getfield 29, 3) := fo_180 sr_X3_addWindow_1 rfl
theorem dX3_addWindow_31 : decode cX3_addWindow 31 = .ok (.iload_n 2, 1) := fo_28 (fd_n 3 sr_X3_addWindow_1 rfl)
theorem dX3_addWindow_32 : decode cX3_addWindow 32 = .ok (.iastore, 1) := fo_79 (fd_n 4 sr_X3_addWindow_1 rfl)
theorem dX3_addWindow_33 : decode cX3_addWindow 33 = .ok (.aload_n 0, 1) := fo_42 (fd_n 5 sr_X3_addWindow_1 rfl)
theorem dX3_addWindow_34 : decode cX3_addWindow 34 = .ok (.getfield 16, 3) := fo_180 (fd_n 6 sr_X3_addWindow_1 rfl) rfl
theorem dX3_addWindow_37 : decode cX3_addWindow 37 = .ok (.iconst 2, 1) := fo_5 (fd_n 9 sr_X3_addWindow_1 rfl)
theorem dX3_addWindow_38 : decode cX3_addWindow 38 = .ok (.aaload, 1) := fo_50 (fd_n 10 sr_X3_addWindow_1 rfl)
theorem dX3_addWindow_39 : decode cX3_addWindow 39 = .ok (.aload_n 0, 1) := fo_42 (fd_n 11 sr_X3_addWindow_1 rfl)
theorem dX3_addWindow_40 : decode cX3_addWindow 40 = .ok (.getfield 29, 3) := fo_180 (fd_n 12 sr_X3_addWindow_1 rfl) rfl
theorem dX3_addWindow_43 : decode cX3_addWindow 43 = .ok (.iload_n 3, 1) := fo_29 (fd_n 15 sr_X3_addWindow_1 rfl)
theorem dX3_addWindow_44 : decode cX3_addWindow 44 = .ok (.iastore, 1) := fo_79 (fd_n 16 sr_X3_addWindow_1 rfl)
theorem dX3_addWindow_45 : decode cX3_addWindow 45 = .ok (.aload_n 0, 1) := fo_42 (fd_n 17 sr_X3_addWindow_1 rfl)
theorem dX3_addWindow_46 : decode cX3_addWindow 46 = .ok (.getfield 16, 3) := fo_180 (fd_n 18 sr_X3_addWindow_1 rfl) rfl
theorem dX3_addWindow_49 : decode cX3_addWindow 49 = .ok (.iconst 3, 1) := fo_6 (fd_n 21 sr_X3_addWindow_1 rfl)
theorem dX3_addWindow_50 : decode cX3_addWindow 50 = .ok (.aaload, 1) := fo_50 (fd_n 22 sr_X3_addWindow_1 rfl)
theorem dX3_addWindow_51 : decode cX3_addWindow 51 = .ok (.aload_n 0, 1) := fo_42 (fd_n 23 sr_X3_addWindow_1 rfl)
theorem dX3_addWindow_52 : decode cX3_addWindow 52 = .ok (.getfield 29, 3) := fo_180 (fd_n 24 sr_X3_addWindow_1 rfl) rfl
theorem dX3_addWindow_55 : decode cX3_addWindow 55 = .ok (.iload 4, 2) := fo_21 (fd_n 27 sr_X3_addWindow_1 rfl) rfl
theorem dX3_addWindow_57 : decode cX3_addWindow 57 = .ok (.iastore, 1) := fo_79 sr_X3_addWindow_2
theorem dX3_addWindow_58 : decode cX3_addWindow 58 = .ok (.aload_n 0, 1) := fo_42 (fd_n 1 sr_X3_addWindow_2 rfl)
theorem dX3_addWindow_59 : decode cX3_addWindow 59 = .ok (.getfield 16, 3) := fo_180 (fd_n 2 sr_X3_addWindow_2 rfl) rfl
theorem dX3_addWindow_62 : decode cX3_addWindow 62 = .ok (.iconst 4, 1) := fo_7 (fd_n 5 sr_X3_addWindow_2 rfl)
theorem dX3_addWindow_63 : decode cX3_addWindow 63 = .ok (.aaload, 1) := fo_50 (fd_n 6 sr_X3_addWindow_2 rfl)
theorem dX3_addWindow_64 : decode cX3_addWindow 64 = .ok (.aload_n 0, 1) := fo_42 (fd_n 7 sr_X3_addWindow_2 rfl)
theorem dX3_addWindow_65 : decode cX3_addWindow 65 = .ok (.getfield 29, 3) := fo_180 (fd_n 8 sr_X3_addWindow_2 rfl) rfl
theorem dX3_addWindow_68 : decode cX3_addWindow 68 = .ok (.iconst (-1), 1) := fo_2 (fd_n 11 sr_X3_addWindow_2 rfl)
theorem dX3_addWindow_69 : decode cX3_addWindow 69 = .ok (.iastore, 1) := fo_79 (fd_n 12 sr_X3_addWindow_2 rfl)
theorem dX3_addWindow_70 : decode cX3_addWindow 70 = .ok (.aload_n 0, 1) := fo_42 (fd_n 13 sr_X3_addWindow_2 rfl)
theorem dX3_addWindow_71 : decode cX3_addWindow 71 = .ok (.getfield 16, 3) := fo_180 (fd_n 14 sr_X3_addWindow_2 rfl) rfl
theorem dX3_addWindow_74 : decode cX3_addWindow 74 = .ok (.iconst 5, 1) := fo_8 (fd_n 17 sr_X3_addWindow_2 rfl)
theorem dX3_addWindow_75 : decode cX3_addWindow 75 = .ok (.aaload, 1) := fo_50 (fd_n 18 sr_X3_addWindow_2 rfl)
theorem dX3_addWindow_76 : decode cX3_addWindow 76 = .ok (.aload_n 0, 1) := fo_42 (fd_n 19 sr_X3_addWindow_2 rfl)
theorem dX3_addWindow_77 : decode cX3_addWindow 77 = .ok (.getfield 29, 3) := fo_180 (fd_n 20 sr_X3_addWindow_2 rfl) rfl
theorem dX3_addWindow_80 : decode cX3_addWindow 80 = .ok (.iconst 0, 1) := fo_3 (fd_n 23 sr_X3_addWindow_2 rfl)
theorem dX3_addWindow_81 : decode cX3_addWindow 81 = .ok (.iastore, 1) := fo_79 (fd_n 24 sr_X3_addWindow_2 rfl)
theorem dX3_addWindow_82 : decode cX3_addWindow 82 = .ok (.aload_n 0, 1) := fo_42 (fd_n 25 sr_X3_addWindow_2 rfl)
theorem dX3_addWindow_83 : decode cX3_addWindow 83 = .ok (.dup, 1) := fo_89 (fd_n 26 sr_X3_addWindow_2 rfl)
theorem dX3_addWindow_84 : decode cX3_addWindow 84 = .ok (.getfield 29, 3) := fo_180 (fd_n 27 sr_X3_addWindow_2 rfl) rfl
theorem dX3_addWindow_87 : decode cX3_addWindow 87 = .ok (.iconst 1, 1) := fo_4 sr_X3_addWindow_3
theorem dX3_addWindow_88 : decode cX3_addWindow 88 = .ok (.iadd, 1) := fo_96 (fd_n 1 sr_X3_addWindow_3 rfl)
theorem dX3_addWindow_89 : decode cX3_addWindow 89 = .ok (.putfield 29, 3) := fo_181 (fd_n 2 sr_X3_addWindow_3 rfl) rfl
theorem dX3_addWindow_92 : decode cX3_addWindow 92 = .ok (.return_, 1) := fo_177 (fd_n 5 sr_X3_addWindow_3 rfl)
noncomputable def sl_X3_isSummer_0 : List UInt8 := 42 :: 180 :: 0 :: 33 :: 16 :: 12 :: 112 :: 60 :: 27 :: 6 :: 161 :: 0 :: 13 :: 27 :: 16 :: 8 :: 163 :: 0 :: 7 :: 4 :: 167 :: 0 :: 4 :: 3 :: 172 :: []
theorem sr_X3_isSummer_0 : fd_at cX3_isSummer 0 sl_X3_isSummer_0 := fd_base (by decide +kernel)
theorem dX3_isSummer_0 : decode cX3_isSummer 0 = .ok (.aload_n 0, 1) := fo_42 sr_X3_isSummer_0
theorem dX3_isSummer_1 : decode cX3_isSummer 1 = .ok (.getfield 33, 3) := fo_180 (fd_n 1 sr_X3_isSummer_0 rfl) rfl
theorem dX3_isSummer_4 : decode cX3_isSummer 4 = .ok (.bipush 12, 2) := fo_16 (fd_n 4 sr_X3_isSummer_0 rfl) (by decide +kernel)
theorem dX3_isSummer_6 : decode cX3_isSummer 6 = .ok (.irem, 1) := fo_112 (fd_n 6 sr_X3_isSummer_0 rfl)
theorem dX3_isSummer_7 : decode cX3_isSummer 7 = .ok (.istore_n 1, 1) := fo_60 (fd_n 7 sr_X3_isSummer_0 rfl)
theorem dX3_isSummer_8 : decode cX3_isSummer 8 = .ok (.iload_n 1, 1) := fo_27 (fd_n 8 sr_X3_isSummer_0 rfl)
theorem dX3_isSummer_9 : decode cX3_isSummer 9 = .ok (.iconst 3, 1) := fo_6 (fd_n 9 sr_X3_isSummer_0 rfl)
theorem dX3_isSummer_10 : decode cX3_isSummer 10 = .ok (.if_icmp .lt 13, 3) := fo_161 (fd_n 10 sr_X3_isSummer_0 rfl) (by decide +kernel)
theorem dX3_isSummer_13 : decode cX3_isSummer 13 = .ok (.iload_n 1, 1) := fo_27 (fd_n 13 sr_X3_isSummer_0 rfl)
theorem dX3_isSummer_14 : decode cX3_isSummer 14 = .ok (.bipush 8, 2) := fo_16 (fd_n 14 sr_X3_isSummer_0 rfl) (by decide +kernel)
theorem dX3_isSummer_16 : decode cX3_isSummer 16 = .ok (.if_icmp .gt 7, 3) := fo_163 (fd_n 16 sr_X3_isSummer_0 rfl) (by decide +kernel)
theorem dX3_isSummer_19 : decode cX3_isSummer 19 = .ok (.iconst 1, 1) := fo_4 (fd_n 19 sr_X3_isSummer_0 rfl)
theorem dX3_isSummer_20 : decode cX3_isSummer 20 = .ok (.goto 4, 3) := fo_167 (fd_n 20 sr_X3_isSummer_0 rfl) (by decide +kernel)
theorem dX3_isSummer_23 : decode cX3_isSummer 23 = .ok (.iconst 0, 1) := fo_3 (fd_n 23 sr_X3_isSummer_0 rfl)
theorem dX3_isSummer_24 : decode cX3_isSummer 24 = .ok (.ireturn, 1) := fo_172 (fd_n 24 sr_X3_isSummer_0 rfl)
noncomputable def sl_X3_standing_2 : List UInt8 := 3 :: 167 :: 0 :: 4 :: 28 :: 61 :: 167 :: 0 :: 9 :: 132 :: 2 :: 3 :: 167 :: 0 :: 3 :: 16 :: 9 :: 28 :: 184 :: 0 :: 53 :: 172 :: []
noncomputable def sl_X3_standing_1 : List UInt8 := 28 :: 42 :: 182 :: 0 :: 49 :: 153 :: 0 :: 7 :: 5 :: 167 :: 0 :: 4 :: 3 :: 96 :: 61 :: 167 :: 0 :: 28 :: 42 :: 180 :: 0 :: 33 :: 5 :: 112 :: 4 :: 160 :: 0 :: 7 :: sl_X3_standing_2
noncomputable def sl_X3_standing_0 : List UInt8 := 42 :: 180 :: 0 :: 11 :: 5 :: 50 :: 27 :: 46 :: 61 :: 42 :: 180 :: 0 :: 11 :: 3 :: 50 :: 27 :: 46 :: 170 :: 0 :: 0 :: 0 :: 0 :: 0 :: 82 :: 0 :: 0 :: 0 :: 1 :: 0 :: 0 :: 0 :: 6 :: 0 :: 0 :: 0 :: 39 :: 0 :: 0 :: 0 :: 82 :: 0 :: 0 :: 0 :: 39 :: 0 :: 0 :: 0 :: 57 :: 0 :: 0 :: 0 :: 82 :: 0 :: 0 :: 0 :: 76 :: sl_X3_standing_1
theorem sr_X3_standing_0 : fd_at cX3_standing 0 sl_X3_standing_0 := fd_base (by decide +kernel)
theorem sr_X3_standing_1 : fd_at cX3_standing 56 sl_X3_standing_1 := fd_n 56 sr_X3_standing_0 rfl
theorem sr_X3_standing_2 : fd_at cX3_standing 84 sl_X3_standing_2 := fd_n 28 sr_X3_standing_1 rfl
theorem dX3_standing_0 : decode cX3_standing 0 = .ok (.aload_n 0, 1) := fo_42 sr_X3_standing_0
theorem dX3_standing_1 : decode cX3_standing 1 = .ok (.getfield 11, 3) := fo_180 (fd_n 1 sr_X3_standing_0 rfl) rfl
theorem dX3_standing_4 : decode cX3_standing 4 = .ok (.iconst 2, 1) := fo_5 (fd_n 4 sr_X3_standing_0 rfl)
theorem dX3_standing_5 : decode cX3_standing 5 = .ok (.aaload, 1) := fo_50 (fd_n 5 sr_X3_standing_0 rfl)
theorem dX3_standing_6 : decode cX3_standing 6 = .ok (.iload_n 1, 1) := fo_27 (fd_n 6 sr_X3_standing_0 rfl)
theorem dX3_standing_7 : decode cX3_standing 7 = .ok (.iaload, 1) := fo_46 (fd_n 7 sr_X3_standing_0 rfl)
theorem dX3_standing_8 : decode cX3_standing 8 = .ok (.istore_n 2, 1) := fo_61 (fd_n 8 sr_X3_standing_0 rfl)
theorem dX3_standing_9 : decode cX3_standing 9 = .ok (.aload_n 0, 1) := fo_42 (fd_n 9 sr_X3_standing_0 rfl)
theorem dX3_standing_10 : decode cX3_standing 10 = .ok (.getfield 11, 3) := fo_180 (fd_n 10 sr_X3_standing_0 rfl) rfl
theorem dX3_standing_13 : decode cX3_standing 13 = .ok (.iconst 0, 1) := fo_3 (fd_n 13 sr_X3_standing_0 rfl)
theorem dX3_standing_14 : decode cX3_standing 14 = .ok (.aaload, 1) := fo_50 (fd_n 14 sr_X3_standing_0 rfl)
theorem dX3_standing_15 : decode cX3_standing 15 = .ok (.iload_n 1, 1) := fo_27 (fd_n 15 sr_X3_standing_0 rfl)
theorem dX3_standing_16 : decode cX3_standing 16 = .ok (.iaload, 1) := fo_46 (fd_n 16 sr_X3_standing_0 rfl)
theorem dX3_standing_56 : decode cX3_standing 56 = .ok (.iload_n 2, 1) := fo_28 sr_X3_standing_1
theorem dX3_standing_57 : decode cX3_standing 57 = .ok (.aload_n 0, 1) := fo_42 (fd_n 1 sr_X3_standing_1 rfl)
theorem dX3_standing_58 : decode cX3_standing 58 = .ok (.invokevirtual 49, 3) := fo_182 (fd_n 2 sr_X3_standing_1 rfl) rfl
theorem dX3_standing_61 : decode cX3_standing 61 = .ok (.ifCond .eq 7, 3) := fo_153 (fd_n 5 sr_X3_standing_1 rfl) (by decide +kernel)
theorem dX3_standing_64 : decode cX3_standing 64 = .ok (.iconst 2, 1) := fo_5 (fd_n 8 sr_X3_standing_1 rfl)
theorem dX3_standing_65 : decode cX3_standing 65 = .ok (.goto 4, 3) := fo_167 (fd_n 9 sr_X3_standing_1 rfl) (by decide +kernel)
theorem dX3_standing_68 : decode cX3_standing 68 = .ok (.iconst 0, 1) := fo_3 (fd_n 12 sr_X3_standing_1 rfl)
theorem dX3_standing_69 : decode cX3_standing 69 = .ok (.iadd, 1) := fo_96 (fd_n 13 sr_X3_standing_1 rfl)
theorem dX3_standing_70 : decode cX3_standing 70 = .ok (.istore_n 2, 1) := fo_61 (fd_n 14 sr_X3_standing_1 rfl)
theorem dX3_standing_71 : decode cX3_standing 71 = .ok (.goto 28, 3) := fo_167 (fd_n 15 sr_X3_standing_1 rfl) (by decide +kernel)
theorem dX3_standing_74 : decode cX3_standing 74 = .ok (.aload_n 0, 1) := fo_42 (fd_n 18 sr_X3_standing_1 rfl)
theorem dX3_standing_75 : decode cX3_standing 75 = .ok (.getfield 33, 3) := fo_180 (fd_n 19 sr_X3_standing_1 rfl) rfl
theorem dX3_standing_78 : decode cX3_standing 78 = .ok (.iconst 2, 1) := fo_5 (fd_n 22 sr_X3_standing_1 rfl)
theorem dX3_standing_79 : decode cX3_standing 79 = .ok (.irem, 1) := fo_112 (fd_n 23 sr_X3_standing_1 rfl)
theorem dX3_standing_80 : decode cX3_standing 80 = .ok (.iconst 1, 1) := fo_4 (fd_n 24 sr_X3_standing_1 rfl)
theorem dX3_standing_81 : decode cX3_standing 81 = .ok (.if_icmp .ne 7, 3) := fo_160 (fd_n 25 sr_X3_standing_1 rfl) (by decide +kernel)
theorem dX3_standing_84 : decode cX3_standing 84 = .ok (.iconst 0, 1) := fo_3 sr_X3_standing_2
theorem dX3_standing_85 : decode cX3_standing 85 = .ok (.goto 4, 3) := fo_167 (fd_n 1 sr_X3_standing_2 rfl) (by decide +kernel)
theorem dX3_standing_88 : decode cX3_standing 88 = .ok (.iload_n 2, 1) := fo_28 (fd_n 4 sr_X3_standing_2 rfl)
theorem dX3_standing_89 : decode cX3_standing 89 = .ok (.istore_n 2, 1) := fo_61 (fd_n 5 sr_X3_standing_2 rfl)
theorem dX3_standing_90 : decode cX3_standing 90 = .ok (.goto 9, 3) := fo_167 (fd_n 6 sr_X3_standing_2 rfl) (by decide +kernel)
theorem dX3_standing_93 : decode cX3_standing 93 = .ok (.iinc 2 3, 3) := fo_132 (fd_n 9 sr_X3_standing_2 rfl) rfl (by decide +kernel)
theorem dX3_standing_96 : decode cX3_standing 96 = .ok (.goto 3, 3) := fo_167 (fd_n 12 sr_X3_standing_2 rfl) (by decide +kernel)
theorem dX3_standing_99 : decode cX3_standing 99 = .ok (.bipush 9, 2) := fo_16 (fd_n 15 sr_X3_standing_2 rfl) (by decide +kernel)
theorem dX3_standing_101 : decode cX3_standing 101 = .ok (.iload_n 2, 1) := fo_28 (fd_n 17 sr_X3_standing_2 rfl)
theorem dX3_standing_102 : decode cX3_standing 102 = .ok (.invokestatic 53, 3) := fo_184 (fd_n 18 sr_X3_standing_2 rfl) rfl
theorem dX3_standing_105 : decode cX3_standing 105 = .ok (.ireturn, 1) := fo_172 (fd_n 21 sr_X3_standing_2 rfl)
theorem dX3_standing_17 : decode cX3_standing 17 = .ok (.tableswitch 82 1 6 #[39, 82, 39, 57, 82, 76], 39) := by decide +kernel
noncomputable def sl_X3_growth_2 : List UInt8 := 172 :: []
noncomputable def sl_X3_growth_1 : List UInt8 := 28 :: 6 :: 160 :: 0 :: 7 :: 4 :: 167 :: 0 :: 4 :: 3 :: 172 :: 28 :: 6 :: 159 :: 0 :: 8 :: 28 :: 4 :: 160 :: 0 :: 7 :: 4 :: 167 :: 0 :: 4 :: 3 :: 172 :: 3 :: sl_X3_growth_2
noncomputable def sl_X3_growth_0 : List UInt8 := 42 :: 180 :: 0 :: 33 :: 7 :: 112 :: 61 :: 42 :: 180 :: 0 :: 11 :: 3 :: 50 :: 27 :: 46 :: 171 :: 0 :: 0 :: 0 :: 52 :: 0 :: 0 :: 0 :: 2 :: 0 :: 0 :: 0 :: 1 :: 0 :: 0 :: 0 :: 25 :: 0 :: 0 :: 0 :: 3 :: 0 :: 0 :: 0 :: 36 :: sl_X3_growth_1
theorem sr_X3_growth_0 : fd_at cX3_growth 0 sl_X3_growth_0 := fd_base (by decide +kernel)
theorem sr_X3_growth_1 : fd_at cX3_growth 40 sl_X3_growth_1 := fd_n 40 sr_X3_growth_0 rfl
theorem sr_X3_growth_2 : fd_at cX3_growth 68 sl_X3_growth_2 := fd_n 28 sr_X3_growth_1 rfl
theorem dX3_growth_0 : decode cX3_growth 0 = .ok (.aload_n 0, 1) := fo_42 sr_X3_growth_0
theorem dX3_growth_1 : decode cX3_growth 1 = .ok (.getfield 33, 3) := fo_180 (fd_n 1 sr_X3_growth_0 rfl) rfl
theorem dX3_growth_4 : decode cX3_growth 4 = .ok (.iconst 4, 1) := fo_7 (fd_n 4 sr_X3_growth_0 rfl)
theorem dX3_growth_5 : decode cX3_growth 5 = .ok (.irem, 1) := fo_112 (fd_n 5 sr_X3_growth_0 rfl)
theorem dX3_growth_6 : decode cX3_growth 6 = .ok (.istore_n 2, 1) := fo_61 (fd_n 6 sr_X3_growth_0 rfl)
theorem dX3_growth_7 : decode cX3_growth 7 = .ok (.aload_n 0, 1) := fo_42 (fd_n 7 sr_X3_growth_0 rfl)
theorem dX3_growth_8 : decode cX3_growth 8 = .ok (.getfield 11, 3) := fo_180 (fd_n 8 sr_X3_growth_0 rfl) rfl
theorem dX3_growth_11 : decode cX3_growth 11 = .ok (.iconst 0, 1) := fo_3 (fd_n 11 sr_X3_growth_0 rfl)
theorem dX3_growth_12 : decode cX3_growth 12 = .ok (.aaload, 1) := fo_50 (fd_n 12 sr_X3_growth_0 rfl)
theorem dX3_growth_13 : decode cX3_growth 13 = .ok (.iload_n 1, 1) := fo_27 (fd_n 13 sr_X3_growth_0 rfl)
theorem dX3_growth_14 : decode cX3_growth 14 = .ok (.iaload, 1) := fo_46 (fd_n 14 sr_X3_growth_0 rfl)
theorem dX3_growth_40 : decode cX3_growth 40 = .ok (.iload_n 2, 1) := fo_28 sr_X3_growth_1
theorem dX3_growth_41 : decode cX3_growth 41 = .ok (.iconst 3, 1) := fo_6 (fd_n 1 sr_X3_growth_1 rfl)
theorem dX3_growth_42 : decode cX3_growth 42 = .ok (.if_icmp .ne 7, 3) := fo_160 (fd_n 2 sr_X3_growth_1 rfl) (by decide +kernel)
theorem dX3_growth_45 : decode cX3_growth 45 = .ok (.iconst 1, 1) := fo_4 (fd_n 5 sr_X3_growth_1 rfl)
theorem dX3_growth_46 : decode cX3_growth 46 = .ok (.goto 4, 3) := fo_167 (fd_n 6 sr_X3_growth_1 rfl) (by decide +kernel)
theorem dX3_growth_49 : decode cX3_growth 49 = .ok (.iconst 0, 1) := fo_3 (fd_n 9 sr_X3_growth_1 rfl)
theorem dX3_growth_50 : decode cX3_growth 50 = .ok (.ireturn, 1) := fo_172 (fd_n 10 sr_X3_growth_1 rfl)
theorem dX3_growth_51 : decode cX3_growth 51 = .ok (.iload_n 2, 1) := fo_28 (fd_n 11 sr_X3_growth_1 rfl)
theorem dX3_growth_52 : decode cX3_growth 52 = .ok (.iconst 3, 1) := fo_6 (fd_n 12 sr_X3_growth_1 rfl)
theorem dX3_growth_53 : decode cX3_growth 53 = .ok (.if_icmp .eq 8, 3) := fo_159 (fd_n 13 sr_X3_growth_1 rfl) (by decide +kernel)
theorem dX3_growth_56 : decode cX3_growth 56 = .ok (.iload_n 2, 1) := fo_28 (fd_n 16 sr_X3_growth_1 rfl)
theorem dX3_growth_57 : decode cX3_growth 57 = .ok (.iconst 1, 1) := fo_4 (fd_n 17 sr_X3_growth_1 rfl)
theorem dX3_growth_58 : decode cX3_growth 58 = .ok (.if_icmp .ne 7, 3) := fo_160 (fd_n 18 sr_X3_growth_1 rfl) (by decide +kernel)
theorem dX3_growth_61 : decode cX3_growth 61 = .ok (.iconst 1, 1) := fo_4 (fd_n 21 sr_X3_growth_1 rfl)
theorem dX3_growth_62 : decode cX3_growth 62 = .ok (.goto 4, 3) := fo_167 (fd_n 22 sr_X3_growth_1 rfl) (by decide +kernel)
theorem dX3_growth_65 : decode cX3_growth 65 = .ok (.iconst 0, 1) := fo_3 (fd_n 25 sr_X3_growth_1 rfl)
theorem dX3_growth_66 : decode cX3_growth 66 = .ok (.ireturn, 1) := fo_172 (fd_n 26 sr_X3_growth_1 rfl)
theorem dX3_growth_67 : decode cX3_growth 67 = .ok (.iconst 0, 1) := fo_3 (fd_n 27 sr_X3_growth_1 rfl)
theorem dX3_growth_68 : decode cX3_growth 68 = .ok (.ireturn, 1) := fo_172 sr_X3_growth_2
theorem dX3_growth_15 : decode cX3_growth 15 = .ok (.lookupswitch 52 #[(1, 25), (3, 36)], 25) := by decide +kernel
noncomputable def sl_X3_squarePrice_2 : List UInt8 := 172 :: 29 :: 172 :: []
noncomputable def sl_X3_squarePrice_1 : List UInt8 := 42 :: 182 :: 0 :: 49 :: 153 :: 0 :: 9 :: 29 :: 4 :: 96 :: 167 :: 0 :: 4 :: 29 :: 172 :: 28 :: 154 :: 0 :: 7 :: 3 :: 167 :: 0 :: 4 :: 29 :: 172 :: 5 :: 29 :: 104 :: sl_X3_squarePrice_2
noncomputable def sl_X3_squarePrice_0 : List UInt8 := 42 :: 180 :: 0 :: 11 :: 6 :: 50 :: 27 :: 46 :: 61 :: 42 :: 180 :: 0 :: 19 :: 28 :: 46 :: 62 :: 42 :: 180 :: 0 :: 11 :: 3 :: 50 :: 27 :: 46 :: 170 :: 0 :: 0 :: 0 :: 0 :: 0 :: 0 :: 69 :: 0 :: 0 :: 0 :: 1 :: 0 :: 0 :: 0 :: 6 :: 0 :: 0 :: 0 :: 40 :: 0 :: 0 :: 0 :: 55 :: 0 :: 0 :: 0 :: 40 :: 0 :: 0 :: 0 :: 55 :: 0 :: 0 :: 0 :: 65 :: 0 :: 0 :: 0 :: 65 :: sl_X3_squarePrice_1
theorem sr_X3_squarePrice_0 : fd_at cX3_squarePrice 0 sl_X3_squarePrice_0 := fd_base (by decide +kernel)
set_option maxRecDepth 100000 in
theorem sr_X3_squarePrice_1 : fd_at cX3_squarePrice 64 sl_X3_squarePrice_1 := fd_n 64 sr_X3_squarePrice_0 rfl
theorem sr_X3_squarePrice_2 : fd_at cX3_squarePrice 92 sl_X3_squarePrice_2 := fd_n 28 sr_X3_squarePrice_1 rfl
theorem dX3_squarePrice_0 : decode cX3_squarePrice 0 = .ok (.aload_n 0, 1) := fo_42 sr_X3_squarePrice_0
theorem dX3_squarePrice_1 : decode cX3_squarePrice 1 = .ok (.getfield 11, 3) := fo_180 (fd_n 1 sr_X3_squarePrice_0 rfl) rfl
theorem dX3_squarePrice_4 : decode cX3_squarePrice 4 = .ok (.iconst 3, 1) := fo_6 (fd_n 4 sr_X3_squarePrice_0 rfl)
theorem dX3_squarePrice_5 : decode cX3_squarePrice 5 = .ok (.aaload, 1) := fo_50 (fd_n 5 sr_X3_squarePrice_0 rfl)
theorem dX3_squarePrice_6 : decode cX3_squarePrice 6 = .ok (.iload_n 1, 1) := fo_27 (fd_n 6 sr_X3_squarePrice_0 rfl)
theorem dX3_squarePrice_7 : decode cX3_squarePrice 7 = .ok (.iaload, 1) := fo_46 (fd_n 7 sr_X3_squarePrice_0 rfl)
theorem dX3_squarePrice_8 : decode cX3_squarePrice 8 = .ok (.istore_n 2, 1) := fo_61 (fd_n 8 sr_X3_squarePrice_0 rfl)
theorem dX3_squarePrice_9 : decode cX3_squarePrice 9 = .ok (.aload_n 0, 1) := fo_42 (fd_n 9 sr_X3_squarePrice_0 rfl)
theorem dX3_squarePrice_10 : decode cX3_squarePrice 10 = .ok (.getfield 19, 3) := fo_180 (fd_n 10 sr_X3_squarePrice_0 rfl) rfl
theorem dX3_squarePrice_13 : decode cX3_squarePrice 13 = .ok (.iload_n 2, 1) := fo_28 (fd_n 13 sr_X3_squarePrice_0 rfl)
theorem dX3_squarePrice_14 : decode cX3_squarePrice 14 = .ok (.iaload, 1) := fo_46 (fd_n 14 sr_X3_squarePrice_0 rfl)
theorem dX3_squarePrice_15 : decode cX3_squarePrice 15 = .ok (.istore_n 3, 1) := fo_62 (fd_n 15 sr_X3_squarePrice_0 rfl)
theorem dX3_squarePrice_16 : decode cX3_squarePrice 16 = .ok (.aload_n 0, 1) := fo_42 (fd_n 16 sr_X3_squarePrice_0 rfl)
theorem dX3_squarePrice_17 : decode cX3_squarePrice 17 = .ok (.getfield 11, 3) := fo_180 (fd_n 17 sr_X3_squarePrice_0 rfl) rfl
theorem dX3_squarePrice_20 : decode cX3_squarePrice 20 = .ok (.iconst 0, 1) := fo_3 (fd_n 20 sr_X3_squarePrice_0 rfl)
theorem dX3_squarePrice_21 : decode cX3_squarePrice 21 = .ok (.aaload, 1) := fo_50 (fd_n 21 sr_X3_squarePrice_0 rfl)
theorem dX3_squarePrice_22 : decode cX3_squarePrice 22 = .ok (.iload_n 1, 1) := fo_27 (fd_n 22 sr_X3_squarePrice_0 rfl)
theorem dX3_squarePrice_23 : decode cX3_squarePrice 23 = .ok (.iaload, 1) := fo_46 (fd_n 23 sr_X3_squarePrice_0 rfl)
theorem dX3_squarePrice_64 : decode cX3_squarePrice 64 = .ok (.aload_n 0, 1) := fo_42 sr_X3_squarePrice_1
theorem dX3_squarePrice_65 : decode cX3_squarePrice 65 = .ok (.invokevirtual 49, 3) := fo_182 (fd_n 1 sr_X3_squarePrice_1 rfl) rfl
theorem dX3_squarePrice_68 : decode cX3_squarePrice 68 = .ok (.ifCond .eq 9, 3) := fo_153 (fd_n 4 sr_X3_squarePrice_1 rfl) (by decide +kernel)
theorem dX3_squarePrice_71 : decode cX3_squarePrice 71 = .ok (.iload_n 3, 1) := fo_29 (fd_n 7 sr_X3_squarePrice_1 rfl)
theorem dX3_squarePrice_72 : decode cX3_squarePrice 72 = .ok (.iconst 1, 1) := fo_4 (fd_n 8 sr_X3_squarePrice_1 rfl)
theorem dX3_squarePrice_73 : decode cX3_squarePrice 73 = .ok (.iadd, 1) := fo_96 (fd_n 9 sr_X3_squarePrice_1 rfl)
theorem dX3_squarePrice_74 : decode cX3_squarePrice 74 = .ok (.goto 4, 3) := fo_167 (fd_n 10 sr_X3_squarePrice_1 rfl) (by decide +kernel)
theorem dX3_squarePrice_77 : decode cX3_squarePrice 77 = .ok (.iload_n 3, 1) := fo_29 (fd_n 13 sr_X3_squarePrice_1 rfl)
theorem dX3_squarePrice_78 : decode cX3_squarePrice 78 = .ok (.ireturn, 1) := fo_172 (fd_n 14 sr_X3_squarePrice_1 rfl)
theorem dX3_squarePrice_79 : decode cX3_squarePrice 79 = .ok (.iload_n 2, 1) := fo_28 (fd_n 15 sr_X3_squarePrice_1 rfl)
theorem dX3_squarePrice_80 : decode cX3_squarePrice 80 = .ok (.ifCond .ne 7, 3) := fo_154 (fd_n 16 sr_X3_squarePrice_1 rfl) (by decide +kernel)
theorem dX3_squarePrice_83 : decode cX3_squarePrice 83 = .ok (.iconst 0, 1) := fo_3 (fd_n 19 sr_X3_squarePrice_1 rfl)
theorem dX3_squarePrice_84 : decode cX3_squarePrice 84 = .ok (.goto 4, 3) := fo_167 (fd_n 20 sr_X3_squarePrice_1 rfl) (by decide +kernel)
theorem dX3_squarePrice_87 : decode cX3_squarePrice 87 = .ok (.iload_n 3, 1) := fo_29 (fd_n 23 sr_X3_squarePrice_1 rfl)
theorem dX3_squarePrice_88 : decode cX3_squarePrice 88 = .ok (.ireturn, 1) := fo_172 (fd_n 24 sr_X3_squarePrice_1 rfl)
theorem dX3_squarePrice_89 : decode cX3_squarePrice 89 = .ok (.iconst 2, 1) := fo_5 (fd_n 25 sr_X3_squarePrice_1 rfl)
theorem dX3_squarePrice_90 : decode cX3_squarePrice 90 = .ok (.iload_n 3, 1) := fo_29 (fd_n 26 sr_X3_squarePrice_1 rfl)
theorem dX3_squarePrice_91 : decode cX3_squarePrice 91 = .ok (.imul, 1) := fo_104 (fd_n 27 sr_X3_squarePrice_1 rfl)
theorem dX3_squarePrice_92 : decode cX3_squarePrice 92 = .ok (.ireturn, 1) := fo_172 sr_X3_squarePrice_2
theorem dX3_squarePrice_93 : decode cX3_squarePrice 93 = .ok (.iload_n 3, 1) := fo_29 (fd_n 1 sr_X3_squarePrice_2 rfl)
theorem dX3_squarePrice_94 : decode cX3_squarePrice 94 = .ok (.ireturn, 1) := fo_172 (fd_n 2 sr_X3_squarePrice_2 rfl)
theorem dX3_squarePrice_24 : decode cX3_squarePrice 24 = .ok (.tableswitch 69 1 6 #[40, 55, 40, 55, 65, 65], 40) := by decide +kernel
noncomputable def sl_X3_growAll_2 : List UInt8 := 177 :: []
noncomputable def sl_X3_growAll_1 : List UInt8 := 5 :: 50 :: 27 :: 46 :: 42 :: 27 :: 182 :: 0 :: 59 :: 96 :: 184 :: 0 :: 53 :: 79 :: 132 :: 1 :: 1 :: 167 :: 255 :: 212 :: 42 :: 89 :: 180 :: 0 :: 33 :: 4 :: 96 :: 181 :: 0 :: 33 :: sl_X3_growAll_2
noncomputable def sl_X3_growAll_0 : List UInt8 := 3 :: 60 :: 27 :: 16 :: 25 :: 162 :: 0 :: 44 :: 42 :: 27 :: 182 :: 0 :: 45 :: 153 :: 0 :: 30 :: 42 :: 180 :: 0 :: 11 :: 5 :: 50 :: 27 :: 16 :: 9 :: 42 :: 180 :: 0 :: 11 :: sl_X3_growAll_1
theorem sr_X3_growAll_0 : fd_at cX3_growAll 0 sl_X3_growAll_0 := fd_base (by decide +kernel)
theorem sr_X3_growAll_1 : fd_at cX3_growAll 29 sl_X3_growAll_1 := fd_n 29 sr_X3_growAll_0 rfl
theorem sr_X3_growAll_2 : fd_at cX3_growAll 59 sl_X3_growAll_2 := fd_n 30 sr_X3_growAll_1 rfl
theorem dX3_growAll_0 : decode cX3_growAll 0 = .ok (.iconst 0, 1) := fo_3 sr_X3_growAll_0
theorem dX3_growAll_1 : decode cX3_growAll 1 = .ok (.istore_n 1, 1) := fo_60 (fd_n 1 sr_X3_growAll_0 rfl)
theorem dX3_growAll_2 : decode cX3_growAll 2 = .ok (.iload_n 1, 1) := fo_27 (fd_n 2 sr_X3_growAll_0 rfl)
theorem dX3_growAll_3 : decode cX3_growAll 3 = .ok (.bipush 25, 2) := fo_16 (fd_n 3 sr_X3_growAll_0 rfl) (by decide +kernel)
theorem dX3_growAll_5 : decode cX3_growAll 5 = .ok (.if_icmp .ge 44, 3) := fo_162 (fd_n 5 sr_X3_growAll_0 rfl) (by decide +kernel)
theorem dX3_growAll_8 : decode cX3_growAll 8 = .ok (.aload_n 0, 1) := fo_42 (fd_n 8 sr_X3_growAll_0 rfl)
theorem dX3_growAll_9 : decode cX3_growAll 9 = .ok (.iload_n 1, 1) := fo_27 (fd_n 9 sr_X3_growAll_0 rfl)
theorem dX3_growAll_10 : decode cX3_growAll 10 = .ok (.invokevirtual 45, 3) := fo_182 (fd_n 10 sr_X3_growAll_0 rfl) rfl
theorem dX3_growAll_13 : decode cX3_growAll 13 = .ok (.ifCond .eq 30, 3) := fo_153 (fd_n 13 sr_X3_growAll_0 rfl) (by decide +kernel)
theorem dX3_growAll_16 : decode cX3_growAll 16 = .ok (.aload_n 0, 1) := fo_42 (fd_n 16 sr_X3_growAll_0 rfl)
theorem dX3_growAll_17 : decode cX3_growAll 17 = .ok (.getfield 11, 3) := fo_180 (fd_n 17 sr_X3_growAll_0 rfl) rfl
theorem dX3_growAll_20 : decode cX3_growAll 20 = .ok (.iconst 2, 1) := fo_5 (fd_n 20 sr_X3_growAll_0 rfl)
theorem dX3_growAll_21 : decode cX3_growAll 21 = .ok (.aaload, 1) := fo_50 (fd_n 21 sr_X3_growAll_0 rfl)
theorem dX3_growAll_22 : decode cX3_growAll 22 = .ok (.iload_n 1, 1) := fo_27 (fd_n 22 sr_X3_growAll_0 rfl)
theorem dX3_growAll_23 : decode cX3_growAll 23 = .ok (.bipush 9, 2) := fo_16 (fd_n 23 sr_X3_growAll_0 rfl) (by decide +kernel)
theorem dX3_growAll_25 : decode cX3_growAll 25 = .ok (.aload_n 0, 1) := fo_42 (fd_n 25 sr_X3_growAll_0 rfl)
theorem dX3_growAll_26 : decode cX3_growAll 26 = .ok (.getfield 11, 3) := fo_180 (fd_n 26 sr_X3_growAll_0 rfl) rfl
theorem dX3_growAll_29 : decode cX3_growAll 29 = .ok (.iconst 2, 1) := fo_5 sr_X3_growAll_1
theorem dX3_growAll_30 : decode cX3_growAll 30 = .ok (.aaload, 1) := fo_50 (fd_n 1 sr_X3_growAll_1 rfl)
theorem dX3_growAll_31 : decode cX3_growAll 31 = .ok (.iload_n 1, 1) := fo_27 (fd_n 2 sr_X3_growAll_1 rfl)
theorem dX3_growAll_32 : decode cX3_growAll 32 = .ok (.iaload, 1) := fo_46 (fd_n 3 sr_X3_growAll_1 rfl)
theorem dX3_growAll_33 : decode cX3_growAll 33 = .ok (.aload_n 0, 1) := fo_42 (fd_n 4 sr_X3_growAll_1 rfl)
theorem dX3_growAll_34 : decode cX3_growAll 34 = .ok (.iload_n 1, 1) := fo_27 (fd_n 5 sr_X3_growAll_1 rfl)
theorem dX3_growAll_35 : decode cX3_growAll 35 = .ok (.invokevirtual 59, 3) := fo_182 (fd_n 6 sr_X3_growAll_1 rfl) rfl
theorem dX3_growAll_38 : decode cX3_growAll 38 = .ok (.iadd, 1) := fo_96 (fd_n 9 sr_X3_growAll_1 rfl)
theorem dX3_growAll_39 : decode cX3_growAll 39 = .ok (.invokestatic 53, 3) := fo_184 (fd_n 10 sr_X3_growAll_1 rfl) rfl
theorem dX3_growAll_42 : decode cX3_growAll 42 = .ok (.iastore, 1) := fo_79 (fd_n 13 sr_X3_growAll_1 rfl)
theorem dX3_growAll_43 : decode cX3_growAll 43 = .ok (.iinc 1 1, 3) := fo_132 (fd_n 14 sr_X3_growAll_1 rfl) rfl (by decide +kernel)
theorem dX3_growAll_46 : decode cX3_growAll 46 = .ok (.goto (-44), 3) := fo_167 (fd_n 17 sr_X3_growAll_1 rfl) (by decide +kernel)
theorem dX3_growAll_49 : decode cX3_growAll 49 = .ok (.aload_n 0, 1) := fo_42 (fd_n 20 sr_X3_growAll_1 rfl)
theorem dX3_growAll_50 : decode cX3_growAll 50 = .ok (.dup, 1) := fo_89 (fd_n 21 sr_X3_growAll_1 rfl)
theorem dX3_growAll_51 : decode cX3_growAll 51 = .ok (.getfield 33, 3) := fo_180 (fd_n 22 sr_X3_growAll_1 rfl) rfl
theorem dX3_growAll_54 : decode cX3_growAll 54 = .ok (.iconst 1, 1) := fo_4 (fd_n 25 sr_X3_growAll_1 rfl)
theorem dX3_growAll_55 : decode cX3_growAll 55 = .ok (.iadd, 1) := fo_96 (fd_n 26 sr_X3_growAll_1 rfl)
theorem dX3_growAll_56 : decode cX3_growAll 56 = .ok (.putfield 33, 3) := fo_181 (fd_n 27 sr_X3_growAll_1 rfl) rfl
theorem dX3_growAll_59 : decode cX3_growAll 59 = .ok (.return_, 1) := fo_177 sr_X3_growAll_2
noncomputable def sl_X3_draw_0 : List UInt8 := 42 :: 42 :: 180 :: 0 :: 36 :: 18 :: 63 :: 104 :: 17 :: 48 :: 57 :: 96 :: 181 :: 0 :: 36 :: 42 :: 180 :: 0 :: 36 :: 16 :: 8 :: 124 :: 172 :: []
theorem sr_X3_draw_0 : fd_at cX3_draw 0 sl_X3_draw_0 := fd_base (by decide +kernel)
theorem dX3_draw_0 : decode cX3_draw 0 = .ok (.aload_n 0, 1) := fo_42 sr_X3_draw_0
theorem dX3_draw_1 : decode cX3_draw 1 = .ok (.aload_n 0, 1) := fo_42 (fd_n 1 sr_X3_draw_0 rfl)
theorem dX3_draw_2 : decode cX3_draw 2 = .ok (.getfield 36, 3) := fo_180 (fd_n 2 sr_X3_draw_0 rfl) rfl
theorem dX3_draw_5 : decode cX3_draw 5 = .ok (.ldc 63, 2) := fo_18 (fd_n 5 sr_X3_draw_0 rfl) rfl
theorem dX3_draw_7 : decode cX3_draw 7 = .ok (.imul, 1) := fo_104 (fd_n 7 sr_X3_draw_0 rfl)
theorem dX3_draw_8 : decode cX3_draw 8 = .ok (.sipush 12345, 3) := fo_17 (fd_n 8 sr_X3_draw_0 rfl) (by decide +kernel)
theorem dX3_draw_11 : decode cX3_draw 11 = .ok (.iadd, 1) := fo_96 (fd_n 11 sr_X3_draw_0 rfl)
theorem dX3_draw_12 : decode cX3_draw 12 = .ok (.putfield 36, 3) := fo_181 (fd_n 12 sr_X3_draw_0 rfl) rfl
theorem dX3_draw_15 : decode cX3_draw 15 = .ok (.aload_n 0, 1) := fo_42 (fd_n 15 sr_X3_draw_0 rfl)
theorem dX3_draw_16 : decode cX3_draw 16 = .ok (.getfield 36, 3) := fo_180 (fd_n 16 sr_X3_draw_0 rfl) rfl
theorem dX3_draw_19 : decode cX3_draw 19 = .ok (.bipush 8, 2) := fo_16 (fd_n 19 sr_X3_draw_0 rfl) (by decide +kernel)
theorem dX3_draw_21 : decode cX3_draw 21 = .ok (.iushr, 1) := fo_124 (fd_n 21 sr_X3_draw_0 rfl)
theorem dX3_draw_22 : decode cX3_draw 22 = .ok (.ireturn, 1) := fo_172 (fd_n 22 sr_X3_draw_0 rfl)
noncomputable def sl_X3_lotOfThing_1 : List UInt8 := 167 :: 255 :: 230 :: 2 :: 172 :: []
noncomputable def sl_X3_lotOfThing_0 : List UInt8 := 27 :: 61 :: 3 :: 62 :: 29 :: 16 :: 25 :: 162 :: 0 :: 26 :: 42 :: 29 :: 182 :: 0 :: 45 :: 153 :: 0 :: 12 :: 28 :: 154 :: 0 :: 5 :: 29 :: 172 :: 132 :: 2 :: 255 :: 132 :: 3 :: 1 :: sl_X3_lotOfThing_1
theorem sr_X3_lotOfThing_0 : fd_at cX3_lotOfThing 0 sl_X3_lotOfThing_0 := fd_base (by decide +kernel)
theorem sr_X3_lotOfThing_1 : fd_at cX3_lotOfThing 30 sl_X3_lotOfThing_1 := fd_n 30 sr_X3_lotOfThing_0 rfl
theorem dX3_lotOfThing_0 : decode cX3_lotOfThing 0 = .ok (.iload_n 1, 1) := fo_27 sr_X3_lotOfThing_0
theorem dX3_lotOfThing_1 : decode cX3_lotOfThing 1 = .ok (.istore_n 2, 1) := fo_61 (fd_n 1 sr_X3_lotOfThing_0 rfl)
theorem dX3_lotOfThing_2 : decode cX3_lotOfThing 2 = .ok (.iconst 0, 1) := fo_3 (fd_n 2 sr_X3_lotOfThing_0 rfl)
theorem dX3_lotOfThing_3 : decode cX3_lotOfThing 3 = .ok (.istore_n 3, 1) := fo_62 (fd_n 3 sr_X3_lotOfThing_0 rfl)
theorem dX3_lotOfThing_4 : decode cX3_lotOfThing 4 = .ok (.iload_n 3, 1) := fo_29 (fd_n 4 sr_X3_lotOfThing_0 rfl)
theorem dX3_lotOfThing_5 : decode cX3_lotOfThing 5 = .ok (.bipush 25, 2) := fo_16 (fd_n 5 sr_X3_lotOfThing_0 rfl) (by decide +kernel)
theorem dX3_lotOfThing_7 : decode cX3_lotOfThing 7 = .ok (.if_icmp .ge 26, 3) := fo_162 (fd_n 7 sr_X3_lotOfThing_0 rfl) (by decide +kernel)
theorem dX3_lotOfThing_10 : decode cX3_lotOfThing 10 = .ok (.aload_n 0, 1) := fo_42 (fd_n 10 sr_X3_lotOfThing_0 rfl)
theorem dX3_lotOfThing_11 : decode cX3_lotOfThing 11 = .ok (.iload_n 3, 1) := fo_29 (fd_n 11 sr_X3_lotOfThing_0 rfl)
theorem dX3_lotOfThing_12 : decode cX3_lotOfThing 12 = .ok (.invokevirtual 45, 3) := fo_182 (fd_n 12 sr_X3_lotOfThing_0 rfl) rfl
theorem dX3_lotOfThing_15 : decode cX3_lotOfThing 15 = .ok (.ifCond .eq 12, 3) := fo_153 (fd_n 15 sr_X3_lotOfThing_0 rfl) (by decide +kernel)
theorem dX3_lotOfThing_18 : decode cX3_lotOfThing 18 = .ok (.iload_n 2, 1) := fo_28 (fd_n 18 sr_X3_lotOfThing_0 rfl)
theorem dX3_lotOfThing_19 : decode cX3_lotOfThing 19 = .ok (.ifCond .ne 5, 3) := fo_154 (fd_n 19 sr_X3_lotOfThing_0 rfl) (by decide +kernel)
theorem dX3_lotOfThing_22 : decode cX3_lotOfThing 22 = .ok (.iload_n 3, 1) := fo_29 (fd_n 22 sr_X3_lotOfThing_0 rfl)
theorem dX3_lotOfThing_23 : decode cX3_lotOfThing 23 = .ok (.ireturn, 1) := fo_172 (fd_n 23 sr_X3_lotOfThing_0 rfl)
theorem dX3_lotOfThing_24 : decode cX3_lotOfThing 24 = .ok (.iinc 2 (-1), 3) := fo_132 (fd_n 24 sr_X3_lotOfThing_0 rfl) rfl (by decide +kernel)
theorem dX3_lotOfThing_27 : decode cX3_lotOfThing 27 = .ok (.iinc 3 1, 3) := fo_132 (fd_n 27 sr_X3_lotOfThing_0 rfl) rfl (by decide +kernel)
theorem dX3_lotOfThing_30 : decode cX3_lotOfThing 30 = .ok (.goto (-26), 3) := fo_167 sr_X3_lotOfThing_1 (by decide +kernel)
theorem dX3_lotOfThing_33 : decode cX3_lotOfThing 33 = .ok (.iconst (-1), 1) := fo_2 (fd_n 3 sr_X3_lotOfThing_1 rfl)
theorem dX3_lotOfThing_34 : decode cX3_lotOfThing 34 = .ok (.ireturn, 1) := fo_172 (fd_n 4 sr_X3_lotOfThing_1 rfl)
noncomputable def sl_X3_thingCount_1 : List UInt8 := 167 :: 255 :: 231 :: 27 :: 172 :: []
noncomputable def sl_X3_thingCount_0 : List UInt8 := 3 :: 60 :: 3 :: 61 :: 28 :: 16 :: 25 :: 162 :: 0 :: 25 :: 27 :: 42 :: 28 :: 182 :: 0 :: 45 :: 153 :: 0 :: 7 :: 4 :: 167 :: 0 :: 4 :: 3 :: 96 :: 60 :: 132 :: 2 :: 1 :: sl_X3_thingCount_1
theorem sr_X3_thingCount_0 : fd_at cX3_thingCount 0 sl_X3_thingCount_0 := fd_base (by decide +kernel)
theorem sr_X3_thingCount_1 : fd_at cX3_thingCount 29 sl_X3_thingCount_1 := fd_n 29 sr_X3_thingCount_0 rfl
theorem dX3_thingCount_0 : decode cX3_thingCount 0 = .ok (.iconst 0, 1) := fo_3 sr_X3_thingCount_0
theorem dX3_thingCount_1 : decode cX3_thingCount 1 = .ok (.istore_n 1, 1) := fo_60 (fd_n 1 sr_X3_thingCount_0 rfl)
theorem dX3_thingCount_2 : decode cX3_thingCount 2 = .ok (.iconst 0, 1) := fo_3 (fd_n 2 sr_X3_thingCount_0 rfl)
theorem dX3_thingCount_3 : decode cX3_thingCount 3 = .ok (.istore_n 2, 1) := fo_61 (fd_n 3 sr_X3_thingCount_0 rfl)
theorem dX3_thingCount_4 : decode cX3_thingCount 4 = .ok (.iload_n 2, 1) := fo_28 (fd_n 4 sr_X3_thingCount_0 rfl)
theorem dX3_thingCount_5 : decode cX3_thingCount 5 = .ok (.bipush 25, 2) := fo_16 (fd_n 5 sr_X3_thingCount_0 rfl) (by decide +kernel)
theorem dX3_thingCount_7 : decode cX3_thingCount 7 = .ok (.if_icmp .ge 25, 3) := fo_162 (fd_n 7 sr_X3_thingCount_0 rfl) (by decide +kernel)
theorem dX3_thingCount_10 : decode cX3_thingCount 10 = .ok (.iload_n 1, 1) := fo_27 (fd_n 10 sr_X3_thingCount_0 rfl)
theorem dX3_thingCount_11 : decode cX3_thingCount 11 = .ok (.aload_n 0, 1) := fo_42 (fd_n 11 sr_X3_thingCount_0 rfl)
theorem dX3_thingCount_12 : decode cX3_thingCount 12 = .ok (.iload_n 2, 1) := fo_28 (fd_n 12 sr_X3_thingCount_0 rfl)
theorem dX3_thingCount_13 : decode cX3_thingCount 13 = .ok (.invokevirtual 45, 3) := fo_182 (fd_n 13 sr_X3_thingCount_0 rfl) rfl
theorem dX3_thingCount_16 : decode cX3_thingCount 16 = .ok (.ifCond .eq 7, 3) := fo_153 (fd_n 16 sr_X3_thingCount_0 rfl) (by decide +kernel)
theorem dX3_thingCount_19 : decode cX3_thingCount 19 = .ok (.iconst 1, 1) := fo_4 (fd_n 19 sr_X3_thingCount_0 rfl)
theorem dX3_thingCount_20 : decode cX3_thingCount 20 = .ok (.goto 4, 3) := fo_167 (fd_n 20 sr_X3_thingCount_0 rfl) (by decide +kernel)
theorem dX3_thingCount_23 : decode cX3_thingCount 23 = .ok (.iconst 0, 1) := fo_3 (fd_n 23 sr_X3_thingCount_0 rfl)
theorem dX3_thingCount_24 : decode cX3_thingCount 24 = .ok (.iadd, 1) := fo_96 (fd_n 24 sr_X3_thingCount_0 rfl)
theorem dX3_thingCount_25 : decode cX3_thingCount 25 = .ok (.istore_n 1, 1) := fo_60 (fd_n 25 sr_X3_thingCount_0 rfl)
theorem dX3_thingCount_26 : decode cX3_thingCount 26 = .ok (.iinc 2 1, 3) := fo_132 (fd_n 26 sr_X3_thingCount_0 rfl) rfl (by decide +kernel)
theorem dX3_thingCount_29 : decode cX3_thingCount 29 = .ok (.goto (-25), 3) := fo_167 sr_X3_thingCount_1 (by decide +kernel)
theorem dX3_thingCount_32 : decode cX3_thingCount 32 = .ok (.iload_n 1, 1) := fo_27 (fd_n 3 sr_X3_thingCount_1 rfl)
theorem dX3_thingCount_33 : decode cX3_thingCount 33 = .ok (.ireturn, 1) := fo_172 (fd_n 4 sr_X3_thingCount_1 rfl)
noncomputable def sl_X3_heightOfAll_1 : List UInt8 := 3 :: 96 :: 60 :: 132 :: 2 :: 1 :: 167 :: 255 :: 224 :: 27 :: 172 :: []
noncomputable def sl_X3_heightOfAll_0 : List UInt8 := 3 :: 60 :: 3 :: 61 :: 28 :: 16 :: 25 :: 162 :: 0 :: 32 :: 27 :: 42 :: 28 :: 182 :: 0 :: 45 :: 153 :: 0 :: 14 :: 42 :: 180 :: 0 :: 11 :: 5 :: 50 :: 28 :: 46 :: 167 :: 0 :: 4 :: sl_X3_heightOfAll_1
theorem sr_X3_heightOfAll_0 : fd_at cX3_heightOfAll 0 sl_X3_heightOfAll_0 := fd_base (by decide +kernel)
theorem sr_X3_heightOfAll_1 : fd_at cX3_heightOfAll 30 sl_X3_heightOfAll_1 := fd_n 30 sr_X3_heightOfAll_0 rfl
theorem dX3_heightOfAll_0 : decode cX3_heightOfAll 0 = .ok (.iconst 0, 1) := fo_3 sr_X3_heightOfAll_0
theorem dX3_heightOfAll_1 : decode cX3_heightOfAll 1 = .ok (.istore_n 1, 1) := fo_60 (fd_n 1 sr_X3_heightOfAll_0 rfl)
theorem dX3_heightOfAll_2 : decode cX3_heightOfAll 2 = .ok (.iconst 0, 1) := fo_3 (fd_n 2 sr_X3_heightOfAll_0 rfl)
theorem dX3_heightOfAll_3 : decode cX3_heightOfAll 3 = .ok (.istore_n 2, 1) := fo_61 (fd_n 3 sr_X3_heightOfAll_0 rfl)
theorem dX3_heightOfAll_4 : decode cX3_heightOfAll 4 = .ok (.iload_n 2, 1) := fo_28 (fd_n 4 sr_X3_heightOfAll_0 rfl)
theorem dX3_heightOfAll_5 : decode cX3_heightOfAll 5 = .ok (.bipush 25, 2) := fo_16 (fd_n 5 sr_X3_heightOfAll_0 rfl) (by decide +kernel)
theorem dX3_heightOfAll_7 : decode cX3_heightOfAll 7 = .ok (.if_icmp .ge 32, 3) := fo_162 (fd_n 7 sr_X3_heightOfAll_0 rfl) (by decide +kernel)
theorem dX3_heightOfAll_10 : decode cX3_heightOfAll 10 = .ok (.iload_n 1, 1) := fo_27 (fd_n 10 sr_X3_heightOfAll_0 rfl)
theorem dX3_heightOfAll_11 : decode cX3_heightOfAll 11 = .ok (.aload_n 0, 1) := fo_42 (fd_n 11 sr_X3_heightOfAll_0 rfl)
theorem dX3_heightOfAll_12 : decode cX3_heightOfAll 12 = .ok (.iload_n 2, 1) := fo_28 (fd_n 12 sr_X3_heightOfAll_0 rfl)
theorem dX3_heightOfAll_13 : decode cX3_heightOfAll 13 = .ok (.invokevirtual 45, 3) := fo_182 (fd_n 13 sr_X3_heightOfAll_0 rfl) rfl
theorem dX3_heightOfAll_16 : decode cX3_heightOfAll 16 = .ok (.ifCond .eq 14, 3) := fo_153 (fd_n 16 sr_X3_heightOfAll_0 rfl) (by decide +kernel)
theorem dX3_heightOfAll_19 : decode cX3_heightOfAll 19 = .ok (.aload_n 0, 1) := fo_42 (fd_n 19 sr_X3_heightOfAll_0 rfl)
theorem dX3_heightOfAll_20 : decode cX3_heightOfAll 20 = .ok (.getfield 11, 3) := fo_180 (fd_n 20 sr_X3_heightOfAll_0 rfl) rfl
theorem dX3_heightOfAll_23 : decode cX3_heightOfAll 23 = .ok (.iconst 2, 1) := fo_5 (fd_n 23 sr_X3_heightOfAll_0 rfl)
theorem dX3_heightOfAll_24 : decode cX3_heightOfAll 24 = .ok (.aaload, 1) := fo_50 (fd_n 24 sr_X3_heightOfAll_0 rfl)
theorem dX3_heightOfAll_25 : decode cX3_heightOfAll 25 = .ok (.iload_n 2, 1) := fo_28 (fd_n 25 sr_X3_heightOfAll_0 rfl)
theorem dX3_heightOfAll_26 : decode cX3_heightOfAll 26 = .ok (.iaload, 1) := fo_46 (fd_n 26 sr_X3_heightOfAll_0 rfl)
theorem dX3_heightOfAll_27 : decode cX3_heightOfAll 27 = .ok (.goto 4, 3) := fo_167 (fd_n 27 sr_X3_heightOfAll_0 rfl) (by decide +kernel)
theorem dX3_heightOfAll_30 : decode cX3_heightOfAll 30 = .ok (.iconst 0, 1) := fo_3 sr_X3_heightOfAll_1
theorem dX3_heightOfAll_31 : decode cX3_heightOfAll 31 = .ok (.iadd, 1) := fo_96 (fd_n 1 sr_X3_heightOfAll_1 rfl)
theorem dX3_heightOfAll_32 : decode cX3_heightOfAll 32 = .ok (.istore_n 1, 1) := fo_60 (fd_n 2 sr_X3_heightOfAll_1 rfl)
theorem dX3_heightOfAll_33 : decode cX3_heightOfAll 33 = .ok (.iinc 2 1, 3) := fo_132 (fd_n 3 sr_X3_heightOfAll_1 rfl) rfl (by decide +kernel)
theorem dX3_heightOfAll_36 : decode cX3_heightOfAll 36 = .ok (.goto (-32), 3) := fo_167 (fd_n 6 sr_X3_heightOfAll_1 rfl) (by decide +kernel)
theorem dX3_heightOfAll_39 : decode cX3_heightOfAll 39 = .ok (.iload_n 1, 1) := fo_27 (fd_n 9 sr_X3_heightOfAll_1 rfl)
theorem dX3_heightOfAll_40 : decode cX3_heightOfAll 40 = .ok (.ireturn, 1) := fo_172 (fd_n 10 sr_X3_heightOfAll_1 rfl)
noncomputable def sl_X3_contractCount_1 : List UInt8 := 3 :: 96 :: 60 :: 132 :: 2 :: 1 :: 167 :: 255 :: 226 :: 27 :: 172 :: []
noncomputable def sl_X3_contractCount_0 : List UInt8 := 3 :: 60 :: 3 :: 61 :: 28 :: 42 :: 180 :: 0 :: 29 :: 162 :: 0 :: 28 :: 27 :: 42 :: 180 :: 0 :: 16 :: 7 :: 50 :: 28 :: 46 :: 155 :: 0 :: 7 :: 4 :: 167 :: 0 :: 4 :: sl_X3_contractCount_1
theorem sr_X3_contractCount_0 : fd_at cX3_contractCount 0 sl_X3_contractCount_0 := fd_base (by decide +kernel)
theorem sr_X3_contractCount_1 : fd_at cX3_contractCount 28 sl_X3_contractCount_1 := fd_n 28 sr_X3_contractCount_0 rfl
theorem dX3_contractCount_0 : decode cX3_contractCount 0 = .ok (.iconst 0, 1) := fo_3 sr_X3_contractCount_0
theorem dX3_contractCount_1 : decode cX3_contractCount 1 = .ok (.istore_n 1, 1) := fo_60 (fd_n 1 sr_X3_contractCount_0 rfl)
theorem dX3_contractCount_2 : decode cX3_contractCount 2 = .ok (.iconst 0, 1) := fo_3 (fd_n 2 sr_X3_contractCount_0 rfl)
theorem dX3_contractCount_3 : decode cX3_contractCount 3 = .ok (.istore_n 2, 1) := fo_61 (fd_n 3 sr_X3_contractCount_0 rfl)
theorem dX3_contractCount_4 : decode cX3_contractCount 4 = .ok (.iload_n 2, 1) := fo_28 (fd_n 4 sr_X3_contractCount_0 rfl)
theorem dX3_contractCount_5 : decode cX3_contractCount 5 = .ok (.aload_n 0, 1) := fo_42 (fd_n 5 sr_X3_contractCount_0 rfl)
theorem dX3_contractCount_6 : decode cX3_contractCount 6 = .ok (.getfield 29, 3) := fo_180 (fd_n 6 sr_X3_contractCount_0 rfl) rfl
theorem dX3_contractCount_9 : decode cX3_contractCount 9 = .ok (.if_icmp .ge 28, 3) := fo_162 (fd_n 9 sr_X3_contractCount_0 rfl) (by decide +kernel)
theorem dX3_contractCount_12 : decode cX3_contractCount 12 = .ok (.iload_n 1, 1) := fo_27 (fd_n 12 sr_X3_contractCount_0 rfl)
theorem dX3_contractCount_13 : decode cX3_contractCount 13 = .ok (.aload_n 0, 1) := fo_42 (fd_n 13 sr_X3_contractCount_0 rfl)
theorem dX3_contractCount_14 : decode cX3_contractCount 14 = .ok (.getfield 16, 3) := fo_180 (fd_n 14 sr_X3_contractCount_0 rfl) rfl
theorem dX3_contractCount_17 : decode cX3_contractCount 17 = .ok (.iconst 4, 1) := fo_7 (fd_n 17 sr_X3_contractCount_0 rfl)
theorem dX3_contractCount_18 : decode cX3_contractCount 18 = .ok (.aaload, 1) := fo_50 (fd_n 18 sr_X3_contractCount_0 rfl)
theorem dX3_contractCount_19 : decode cX3_contractCount 19 = .ok (.iload_n 2, 1) := fo_28 (fd_n 19 sr_X3_contractCount_0 rfl)
theorem dX3_contractCount_20 : decode cX3_contractCount 20 = .ok (.iaload, 1) := fo_46 (fd_n 20 sr_X3_contractCount_0 rfl)
theorem dX3_contractCount_21 : decode cX3_contractCount 21 = .ok (.ifCond .lt 7, 3) := fo_155 (fd_n 21 sr_X3_contractCount_0 rfl) (by decide +kernel)
theorem dX3_contractCount_24 : decode cX3_contractCount 24 = .ok (.iconst 1, 1) := fo_4 (fd_n 24 sr_X3_contractCount_0 rfl)
theorem dX3_contractCount_25 : decode cX3_contractCount 25 = .ok (.goto 4, 3) := fo_167 (fd_n 25 sr_X3_contractCount_0 rfl) (by decide +kernel)
theorem dX3_contractCount_28 : decode cX3_contractCount 28 = .ok (.iconst 0, 1) := fo_3 sr_X3_contractCount_1
theorem dX3_contractCount_29 : decode cX3_contractCount 29 = .ok (.iadd, 1) := fo_96 (fd_n 1 sr_X3_contractCount_1 rfl)
theorem dX3_contractCount_30 : decode cX3_contractCount 30 = .ok (.istore_n 1, 1) := fo_60 (fd_n 2 sr_X3_contractCount_1 rfl)
theorem dX3_contractCount_31 : decode cX3_contractCount 31 = .ok (.iinc 2 1, 3) := fo_132 (fd_n 3 sr_X3_contractCount_1 rfl) rfl (by decide +kernel)
theorem dX3_contractCount_34 : decode cX3_contractCount 34 = .ok (.goto (-30), 3) := fo_167 (fd_n 6 sr_X3_contractCount_1 rfl) (by decide +kernel)
theorem dX3_contractCount_37 : decode cX3_contractCount 37 = .ok (.iload_n 1, 1) := fo_27 (fd_n 9 sr_X3_contractCount_1 rfl)
theorem dX3_contractCount_38 : decode cX3_contractCount 38 = .ok (.ireturn, 1) := fo_172 (fd_n 10 sr_X3_contractCount_1 rfl)
noncomputable def sl_X3_spotsInUse_1 : List UInt8 := 167 :: 255 :: 230 :: 27 :: 172 :: []
noncomputable def sl_X3_spotsInUse_0 : List UInt8 := 3 :: 60 :: 3 :: 61 :: 28 :: 16 :: 10 :: 162 :: 0 :: 26 :: 27 :: 42 :: 180 :: 0 :: 26 :: 28 :: 46 :: 155 :: 0 :: 7 :: 4 :: 167 :: 0 :: 4 :: 3 :: 96 :: 60 :: 132 :: 2 :: 1 :: sl_X3_spotsInUse_1
theorem sr_X3_spotsInUse_0 : fd_at cX3_spotsInUse 0 sl_X3_spotsInUse_0 := fd_base (by decide +kernel)
theorem sr_X3_spotsInUse_1 : fd_at cX3_spotsInUse 30 sl_X3_spotsInUse_1 := fd_n 30 sr_X3_spotsInUse_0 rfl
theorem dX3_spotsInUse_0 : decode cX3_spotsInUse 0 = .ok (.iconst 0, 1) := fo_3 sr_X3_spotsInUse_0
theorem dX3_spotsInUse_1 : decode cX3_spotsInUse 1 = .ok (.istore_n 1, 1) := fo_60 (fd_n 1 sr_X3_spotsInUse_0 rfl)
theorem dX3_spotsInUse_2 : decode cX3_spotsInUse 2 = .ok (.iconst 0, 1) := fo_3 (fd_n 2 sr_X3_spotsInUse_0 rfl)
theorem dX3_spotsInUse_3 : decode cX3_spotsInUse 3 = .ok (.istore_n 2, 1) := fo_61 (fd_n 3 sr_X3_spotsInUse_0 rfl)
theorem dX3_spotsInUse_4 : decode cX3_spotsInUse 4 = .ok (.iload_n 2, 1) := fo_28 (fd_n 4 sr_X3_spotsInUse_0 rfl)
theorem dX3_spotsInUse_5 : decode cX3_spotsInUse 5 = .ok (.bipush 10, 2) := fo_16 (fd_n 5 sr_X3_spotsInUse_0 rfl) (by decide +kernel)
theorem dX3_spotsInUse_7 : decode cX3_spotsInUse 7 = .ok (.if_icmp .ge 26, 3) := fo_162 (fd_n 7 sr_X3_spotsInUse_0 rfl) (by decide +kernel)
theorem dX3_spotsInUse_10 : decode cX3_spotsInUse 10 = .ok (.iload_n 1, 1) := fo_27 (fd_n 10 sr_X3_spotsInUse_0 rfl)
theorem dX3_spotsInUse_11 : decode cX3_spotsInUse 11 = .ok (.aload_n 0, 1) := fo_42 (fd_n 11 sr_X3_spotsInUse_0 rfl)
theorem dX3_spotsInUse_12 : decode cX3_spotsInUse 12 = .ok (.getfield 26, 3) := fo_180 (fd_n 12 sr_X3_spotsInUse_0 rfl) rfl
theorem dX3_spotsInUse_15 : decode cX3_spotsInUse 15 = .ok (.iload_n 2, 1) := fo_28 (fd_n 15 sr_X3_spotsInUse_0 rfl)
theorem dX3_spotsInUse_16 : decode cX3_spotsInUse 16 = .ok (.iaload, 1) := fo_46 (fd_n 16 sr_X3_spotsInUse_0 rfl)
theorem dX3_spotsInUse_17 : decode cX3_spotsInUse 17 = .ok (.ifCond .lt 7, 3) := fo_155 (fd_n 17 sr_X3_spotsInUse_0 rfl) (by decide +kernel)
theorem dX3_spotsInUse_20 : decode cX3_spotsInUse 20 = .ok (.iconst 1, 1) := fo_4 (fd_n 20 sr_X3_spotsInUse_0 rfl)
theorem dX3_spotsInUse_21 : decode cX3_spotsInUse 21 = .ok (.goto 4, 3) := fo_167 (fd_n 21 sr_X3_spotsInUse_0 rfl) (by decide +kernel)
theorem dX3_spotsInUse_24 : decode cX3_spotsInUse 24 = .ok (.iconst 0, 1) := fo_3 (fd_n 24 sr_X3_spotsInUse_0 rfl)
theorem dX3_spotsInUse_25 : decode cX3_spotsInUse 25 = .ok (.iadd, 1) := fo_96 (fd_n 25 sr_X3_spotsInUse_0 rfl)
theorem dX3_spotsInUse_26 : decode cX3_spotsInUse 26 = .ok (.istore_n 1, 1) := fo_60 (fd_n 26 sr_X3_spotsInUse_0 rfl)
theorem dX3_spotsInUse_27 : decode cX3_spotsInUse 27 = .ok (.iinc 2 1, 3) := fo_132 (fd_n 27 sr_X3_spotsInUse_0 rfl) rfl (by decide +kernel)
theorem dX3_spotsInUse_30 : decode cX3_spotsInUse 30 = .ok (.goto (-26), 3) := fo_167 sr_X3_spotsInUse_1 (by decide +kernel)
theorem dX3_spotsInUse_33 : decode cX3_spotsInUse 33 = .ok (.iload_n 1, 1) := fo_27 (fd_n 3 sr_X3_spotsInUse_1 rfl)
theorem dX3_spotsInUse_34 : decode cX3_spotsInUse 34 = .ok (.ireturn, 1) := fo_172 (fd_n 4 sr_X3_spotsInUse_1 rfl)
noncomputable def sl_J6_compare_7cf53_0 : List UInt8 := 26 :: 27 :: 162 :: 0 :: 7 :: 2 :: 167 :: 0 :: 13 :: 26 :: 27 :: 160 :: 0 :: 7 :: 3 :: 167 :: 0 :: 4 :: 4 :: 172 :: []
theorem sr_J6_compare_7cf53_0 : fd_at cJ6_compare_7cf53 0 sl_J6_compare_7cf53_0 := fd_base (by decide +kernel)
theorem dJ6_compare_7cf53_0 : decode cJ6_compare_7cf53 0 = .ok (.iload_n 0, 1) := fo_26 sr_J6_compare_7cf53_0
theorem dJ6_compare_7cf53_1 : decode cJ6_compare_7cf53 1 = .ok (.iload_n 1, 1) := fo_27 (fd_n 1 sr_J6_compare_7cf53_0 rfl)
theorem dJ6_compare_7cf53_2 : decode cJ6_compare_7cf53 2 = .ok (.if_icmp .ge 7, 3) := fo_162 (fd_n 2 sr_J6_compare_7cf53_0 rfl) (by decide +kernel)
theorem dJ6_compare_7cf53_5 : decode cJ6_compare_7cf53 5 = .ok (.iconst (-1), 1) := fo_2 (fd_n 5 sr_J6_compare_7cf53_0 rfl)
theorem dJ6_compare_7cf53_6 : decode cJ6_compare_7cf53 6 = .ok (.goto 13, 3) := fo_167 (fd_n 6 sr_J6_compare_7cf53_0 rfl) (by decide +kernel)
theorem dJ6_compare_7cf53_9 : decode cJ6_compare_7cf53 9 = .ok (.iload_n 0, 1) := fo_26 (fd_n 9 sr_J6_compare_7cf53_0 rfl)
theorem dJ6_compare_7cf53_10 : decode cJ6_compare_7cf53 10 = .ok (.iload_n 1, 1) := fo_27 (fd_n 10 sr_J6_compare_7cf53_0 rfl)
theorem dJ6_compare_7cf53_11 : decode cJ6_compare_7cf53 11 = .ok (.if_icmp .ne 7, 3) := fo_160 (fd_n 11 sr_J6_compare_7cf53_0 rfl) (by decide +kernel)
theorem dJ6_compare_7cf53_14 : decode cJ6_compare_7cf53 14 = .ok (.iconst 0, 1) := fo_3 (fd_n 14 sr_J6_compare_7cf53_0 rfl)
theorem dJ6_compare_7cf53_15 : decode cJ6_compare_7cf53 15 = .ok (.goto 4, 3) := fo_167 (fd_n 15 sr_J6_compare_7cf53_0 rfl) (by decide +kernel)
theorem dJ6_compare_7cf53_18 : decode cJ6_compare_7cf53 18 = .ok (.iconst 1, 1) := fo_4 (fd_n 18 sr_J6_compare_7cf53_0 rfl)
theorem dJ6_compare_7cf53_19 : decode cJ6_compare_7cf53 19 = .ok (.ireturn, 1) := fo_172 (fd_n 19 sr_J6_compare_7cf53_0 rfl)
noncomputable def sl_J6_bitCount_0f7a4_1 : List UInt8 := 96 :: 19 :: 1 :: 11 :: 126 :: 59 :: 26 :: 26 :: 16 :: 8 :: 124 :: 96 :: 59 :: 26 :: 26 :: 16 :: 16 :: 124 :: 96 :: 59 :: 26 :: 16 :: 63 :: 126 :: 172 :: []
noncomputable def sl_J6_bitCount_0f7a4_0 : List UInt8 := 26 :: 26 :: 4 :: 124 :: 19 :: 1 :: 9 :: 126 :: 100 :: 59 :: 26 :: 19 :: 1 :: 10 :: 126 :: 26 :: 5 :: 124 :: 19 :: 1 :: 10 :: 126 :: 96 :: 59 :: 26 :: 26 :: 7 :: 124 :: sl_J6_bitCount_0f7a4_1
theorem sr_J6_bitCount_0f7a4_0 : fd_at cJ6_bitCount_0f7a4 0 sl_J6_bitCount_0f7a4_0 := fd_base (by decide +kernel)
theorem sr_J6_bitCount_0f7a4_1 : fd_at cJ6_bitCount_0f7a4 28 sl_J6_bitCount_0f7a4_1 := fd_n 28 sr_J6_bitCount_0f7a4_0 rfl
theorem dJ6_bitCount_0f7a4_0 : decode cJ6_bitCount_0f7a4 0 = .ok (.iload_n 0, 1) := fo_26 sr_J6_bitCount_0f7a4_0
theorem dJ6_bitCount_0f7a4_1 : decode cJ6_bitCount_0f7a4 1 = .ok (.iload_n 0, 1) := fo_26 (fd_n 1 sr_J6_bitCount_0f7a4_0 rfl)
theorem dJ6_bitCount_0f7a4_2 : decode cJ6_bitCount_0f7a4 2 = .ok (.iconst 1, 1) := fo_4 (fd_n 2 sr_J6_bitCount_0f7a4_0 rfl)
theorem dJ6_bitCount_0f7a4_3 : decode cJ6_bitCount_0f7a4 3 = .ok (.iushr, 1) := fo_124 (fd_n 3 sr_J6_bitCount_0f7a4_0 rfl)
theorem dJ6_bitCount_0f7a4_4 : decode cJ6_bitCount_0f7a4 4 = .ok (.ldc_w 265, 3) := fo_19 (fd_n 4 sr_J6_bitCount_0f7a4_0 rfl) rfl
theorem dJ6_bitCount_0f7a4_7 : decode cJ6_bitCount_0f7a4 7 = .ok (.iand, 1) := fo_126 (fd_n 7 sr_J6_bitCount_0f7a4_0 rfl)
theorem dJ6_bitCount_0f7a4_8 : decode cJ6_bitCount_0f7a4 8 = .ok (.isub, 1) := fo_100 (fd_n 8 sr_J6_bitCount_0f7a4_0 rfl)
theorem dJ6_bitCount_0f7a4_9 : decode cJ6_bitCount_0f7a4 9 = .ok (.istore_n 0, 1) := fo_59 (fd_n 9 sr_J6_bitCount_0f7a4_0 rfl)
theorem dJ6_bitCount_0f7a4_10 : decode cJ6_bitCount_0f7a4 10 = .ok (.iload_n 0, 1) := fo_26 (fd_n 10 sr_J6_bitCount_0f7a4_0 rfl)
theorem dJ6_bitCount_0f7a4_11 : decode cJ6_bitCount_0f7a4 11 = .ok (.ldc_w 266, 3) := fo_19 (fd_n 11 sr_J6_bitCount_0f7a4_0 rfl) rfl
theorem dJ6_bitCount_0f7a4_14 : decode cJ6_bitCount_0f7a4 14 = .ok (.iand, 1) := fo_126 (fd_n 14 sr_J6_bitCount_0f7a4_0 rfl)
theorem dJ6_bitCount_0f7a4_15 : decode cJ6_bitCount_0f7a4 15 = .ok (.iload_n 0, 1) := fo_26 (fd_n 15 sr_J6_bitCount_0f7a4_0 rfl)
theorem dJ6_bitCount_0f7a4_16 : decode cJ6_bitCount_0f7a4 16 = .ok (.iconst 2, 1) := fo_5 (fd_n 16 sr_J6_bitCount_0f7a4_0 rfl)
theorem dJ6_bitCount_0f7a4_17 : decode cJ6_bitCount_0f7a4 17 = .ok (.iushr, 1) := fo_124 (fd_n 17 sr_J6_bitCount_0f7a4_0 rfl)
theorem dJ6_bitCount_0f7a4_18 : decode cJ6_bitCount_0f7a4 18 = .ok (.ldc_w 266, 3) := fo_19 (fd_n 18 sr_J6_bitCount_0f7a4_0 rfl) rfl
theorem dJ6_bitCount_0f7a4_21 : decode cJ6_bitCount_0f7a4 21 = .ok (.iand, 1) := fo_126 (fd_n 21 sr_J6_bitCount_0f7a4_0 rfl)
theorem dJ6_bitCount_0f7a4_22 : decode cJ6_bitCount_0f7a4 22 = .ok (.iadd, 1) := fo_96 (fd_n 22 sr_J6_bitCount_0f7a4_0 rfl)
theorem dJ6_bitCount_0f7a4_23 : decode cJ6_bitCount_0f7a4 23 = .ok (.istore_n 0, 1) := fo_59 (fd_n 23 sr_J6_bitCount_0f7a4_0 rfl)
theorem dJ6_bitCount_0f7a4_24 : decode cJ6_bitCount_0f7a4 24 = .ok (.iload_n 0, 1) := fo_26 (fd_n 24 sr_J6_bitCount_0f7a4_0 rfl)
theorem dJ6_bitCount_0f7a4_25 : decode cJ6_bitCount_0f7a4 25 = .ok (.iload_n 0, 1) := fo_26 (fd_n 25 sr_J6_bitCount_0f7a4_0 rfl)
theorem dJ6_bitCount_0f7a4_26 : decode cJ6_bitCount_0f7a4 26 = .ok (.iconst 4, 1) := fo_7 (fd_n 26 sr_J6_bitCount_0f7a4_0 rfl)
theorem dJ6_bitCount_0f7a4_27 : decode cJ6_bitCount_0f7a4 27 = .ok (.iushr, 1) := fo_124 (fd_n 27 sr_J6_bitCount_0f7a4_0 rfl)
theorem dJ6_bitCount_0f7a4_28 : decode cJ6_bitCount_0f7a4 28 = .ok (.iadd, 1) := fo_96 sr_J6_bitCount_0f7a4_1
theorem dJ6_bitCount_0f7a4_29 : decode cJ6_bitCount_0f7a4 29 = .ok (.ldc_w 267, 3) := fo_19 (fd_n 1 sr_J6_bitCount_0f7a4_1 rfl) rfl
theorem dJ6_bitCount_0f7a4_32 : decode cJ6_bitCount_0f7a4 32 = .ok (.iand, 1) := fo_126 (fd_n 4 sr_J6_bitCount_0f7a4_1 rfl)
theorem dJ6_bitCount_0f7a4_33 : decode cJ6_bitCount_0f7a4 33 = .ok (.istore_n 0, 1) := fo_59 (fd_n 5 sr_J6_bitCount_0f7a4_1 rfl)
theorem dJ6_bitCount_0f7a4_34 : decode cJ6_bitCount_0f7a4 34 = .ok (.iload_n 0, 1) := fo_26 (fd_n 6 sr_J6_bitCount_0f7a4_1 rfl)
theorem dJ6_bitCount_0f7a4_35 : decode cJ6_bitCount_0f7a4 35 = .ok (.iload_n 0, 1) := fo_26 (fd_n 7 sr_J6_bitCount_0f7a4_1 rfl)
theorem dJ6_bitCount_0f7a4_36 : decode cJ6_bitCount_0f7a4 36 = .ok (.bipush 8, 2) := fo_16 (fd_n 8 sr_J6_bitCount_0f7a4_1 rfl) (by decide +kernel)
theorem dJ6_bitCount_0f7a4_38 : decode cJ6_bitCount_0f7a4 38 = .ok (.iushr, 1) := fo_124 (fd_n 10 sr_J6_bitCount_0f7a4_1 rfl)
theorem dJ6_bitCount_0f7a4_39 : decode cJ6_bitCount_0f7a4 39 = .ok (.iadd, 1) := fo_96 (fd_n 11 sr_J6_bitCount_0f7a4_1 rfl)
theorem dJ6_bitCount_0f7a4_40 : decode cJ6_bitCount_0f7a4 40 = .ok (.istore_n 0, 1) := fo_59 (fd_n 12 sr_J6_bitCount_0f7a4_1 rfl)
theorem dJ6_bitCount_0f7a4_41 : decode cJ6_bitCount_0f7a4 41 = .ok (.iload_n 0, 1) := fo_26 (fd_n 13 sr_J6_bitCount_0f7a4_1 rfl)
theorem dJ6_bitCount_0f7a4_42 : decode cJ6_bitCount_0f7a4 42 = .ok (.iload_n 0, 1) := fo_26 (fd_n 14 sr_J6_bitCount_0f7a4_1 rfl)
theorem dJ6_bitCount_0f7a4_43 : decode cJ6_bitCount_0f7a4 43 = .ok (.bipush 16, 2) := fo_16 (fd_n 15 sr_J6_bitCount_0f7a4_1 rfl) (by decide +kernel)
theorem dJ6_bitCount_0f7a4_45 : decode cJ6_bitCount_0f7a4 45 = .ok (.iushr, 1) := fo_124 (fd_n 17 sr_J6_bitCount_0f7a4_1 rfl)
theorem dJ6_bitCount_0f7a4_46 : decode cJ6_bitCount_0f7a4 46 = .ok (.iadd, 1) := fo_96 (fd_n 18 sr_J6_bitCount_0f7a4_1 rfl)
theorem dJ6_bitCount_0f7a4_47 : decode cJ6_bitCount_0f7a4 47 = .ok (.istore_n 0, 1) := fo_59 (fd_n 19 sr_J6_bitCount_0f7a4_1 rfl)
theorem dJ6_bitCount_0f7a4_48 : decode cJ6_bitCount_0f7a4 48 = .ok (.iload_n 0, 1) := fo_26 (fd_n 20 sr_J6_bitCount_0f7a4_1 rfl)
theorem dJ6_bitCount_0f7a4_49 : decode cJ6_bitCount_0f7a4 49 = .ok (.bipush 63, 2) := fo_16 (fd_n 21 sr_J6_bitCount_0f7a4_1 rfl) (by decide +kernel)
theorem dJ6_bitCount_0f7a4_51 : decode cJ6_bitCount_0f7a4 51 = .ok (.iand, 1) := fo_126 (fd_n 23 sr_J6_bitCount_0f7a4_1 rfl)
theorem dJ6_bitCount_0f7a4_52 : decode cJ6_bitCount_0f7a4 52 = .ok (.ireturn, 1) := fo_172 (fd_n 24 sr_J6_bitCount_0f7a4_1 rfl)
noncomputable def sl_J9_floorDiv_7cf53_0 : List UInt8 := 26 :: 27 :: 108 :: 61 :: 26 :: 27 :: 130 :: 156 :: 0 :: 14 :: 28 :: 27 :: 104 :: 26 :: 159 :: 0 :: 7 :: 28 :: 4 :: 100 :: 172 :: 28 :: 172 :: []
theorem sr_J9_floorDiv_7cf53_0 : fd_at cJ9_floorDiv_7cf53 0 sl_J9_floorDiv_7cf53_0 := fd_base (by decide +kernel)
theorem dJ9_floorDiv_7cf53_0 : decode cJ9_floorDiv_7cf53 0 = .ok (.iload_n 0, 1) := fo_26 sr_J9_floorDiv_7cf53_0
theorem dJ9_floorDiv_7cf53_1 : decode cJ9_floorDiv_7cf53 1 = .ok (.iload_n 1, 1) := fo_27 (fd_n 1 sr_J9_floorDiv_7cf53_0 rfl)
theorem dJ9_floorDiv_7cf53_2 : decode cJ9_floorDiv_7cf53 2 = .ok (.idiv, 1) := fo_108 (fd_n 2 sr_J9_floorDiv_7cf53_0 rfl)
theorem dJ9_floorDiv_7cf53_3 : decode cJ9_floorDiv_7cf53 3 = .ok (.istore_n 2, 1) := fo_61 (fd_n 3 sr_J9_floorDiv_7cf53_0 rfl)
theorem dJ9_floorDiv_7cf53_4 : decode cJ9_floorDiv_7cf53 4 = .ok (.iload_n 0, 1) := fo_26 (fd_n 4 sr_J9_floorDiv_7cf53_0 rfl)
theorem dJ9_floorDiv_7cf53_5 : decode cJ9_floorDiv_7cf53 5 = .ok (.iload_n 1, 1) := fo_27 (fd_n 5 sr_J9_floorDiv_7cf53_0 rfl)
theorem dJ9_floorDiv_7cf53_6 : decode cJ9_floorDiv_7cf53 6 = .ok (.ixor, 1) := fo_130 (fd_n 6 sr_J9_floorDiv_7cf53_0 rfl)
theorem dJ9_floorDiv_7cf53_7 : decode cJ9_floorDiv_7cf53 7 = .ok (.ifCond .ge 14, 3) := fo_156 (fd_n 7 sr_J9_floorDiv_7cf53_0 rfl) (by decide +kernel)
theorem dJ9_floorDiv_7cf53_10 : decode cJ9_floorDiv_7cf53 10 = .ok (.iload_n 2, 1) := fo_28 (fd_n 10 sr_J9_floorDiv_7cf53_0 rfl)
theorem dJ9_floorDiv_7cf53_11 : decode cJ9_floorDiv_7cf53 11 = .ok (.iload_n 1, 1) := fo_27 (fd_n 11 sr_J9_floorDiv_7cf53_0 rfl)
theorem dJ9_floorDiv_7cf53_12 : decode cJ9_floorDiv_7cf53 12 = .ok (.imul, 1) := fo_104 (fd_n 12 sr_J9_floorDiv_7cf53_0 rfl)
theorem dJ9_floorDiv_7cf53_13 : decode cJ9_floorDiv_7cf53 13 = .ok (.iload_n 0, 1) := fo_26 (fd_n 13 sr_J9_floorDiv_7cf53_0 rfl)
theorem dJ9_floorDiv_7cf53_14 : decode cJ9_floorDiv_7cf53 14 = .ok (.if_icmp .eq 7, 3) := fo_159 (fd_n 14 sr_J9_floorDiv_7cf53_0 rfl) (by decide +kernel)
theorem dJ9_floorDiv_7cf53_17 : decode cJ9_floorDiv_7cf53 17 = .ok (.iload_n 2, 1) := fo_28 (fd_n 17 sr_J9_floorDiv_7cf53_0 rfl)
theorem dJ9_floorDiv_7cf53_18 : decode cJ9_floorDiv_7cf53 18 = .ok (.iconst 1, 1) := fo_4 (fd_n 18 sr_J9_floorDiv_7cf53_0 rfl)
theorem dJ9_floorDiv_7cf53_19 : decode cJ9_floorDiv_7cf53 19 = .ok (.isub, 1) := fo_100 (fd_n 19 sr_J9_floorDiv_7cf53_0 rfl)
theorem dJ9_floorDiv_7cf53_20 : decode cJ9_floorDiv_7cf53 20 = .ok (.ireturn, 1) := fo_172 (fd_n 20 sr_J9_floorDiv_7cf53_0 rfl)
theorem dJ9_floorDiv_7cf53_21 : decode cJ9_floorDiv_7cf53 21 = .ok (.iload_n 2, 1) := fo_28 (fd_n 21 sr_J9_floorDiv_7cf53_0 rfl)
theorem dJ9_floorDiv_7cf53_22 : decode cJ9_floorDiv_7cf53 22 = .ok (.ireturn, 1) := fo_172 (fd_n 22 sr_J9_floorDiv_7cf53_0 rfl)
noncomputable def sl_J9_max_7cf53_0 : List UInt8 := 26 :: 27 :: 161 :: 0 :: 7 :: 26 :: 167 :: 0 :: 4 :: 27 :: 172 :: []
theorem sr_J9_max_7cf53_0 : fd_at cJ9_max_7cf53 0 sl_J9_max_7cf53_0 := fd_base (by decide +kernel)
theorem dJ9_max_7cf53_0 : decode cJ9_max_7cf53 0 = .ok (.iload_n 0, 1) := fo_26 sr_J9_max_7cf53_0
theorem dJ9_max_7cf53_1 : decode cJ9_max_7cf53 1 = .ok (.iload_n 1, 1) := fo_27 (fd_n 1 sr_J9_max_7cf53_0 rfl)
theorem dJ9_max_7cf53_2 : decode cJ9_max_7cf53 2 = .ok (.if_icmp .lt 7, 3) := fo_161 (fd_n 2 sr_J9_max_7cf53_0 rfl) (by decide +kernel)
theorem dJ9_max_7cf53_5 : decode cJ9_max_7cf53 5 = .ok (.iload_n 0, 1) := fo_26 (fd_n 5 sr_J9_max_7cf53_0 rfl)
theorem dJ9_max_7cf53_6 : decode cJ9_max_7cf53 6 = .ok (.goto 4, 3) := fo_167 (fd_n 6 sr_J9_max_7cf53_0 rfl) (by decide +kernel)
theorem dJ9_max_7cf53_9 : decode cJ9_max_7cf53 9 = .ok (.iload_n 1, 1) := fo_27 (fd_n 9 sr_J9_max_7cf53_0 rfl)
theorem dJ9_max_7cf53_10 : decode cJ9_max_7cf53 10 = .ok (.ireturn, 1) := fo_172 (fd_n 10 sr_J9_max_7cf53_0 rfl)
noncomputable def sl_J9_min_7cf53_0 : List UInt8 := 26 :: 27 :: 163 :: 0 :: 7 :: 26 :: 167 :: 0 :: 4 :: 27 :: 172 :: []
theorem sr_J9_min_7cf53_0 : fd_at cJ9_min_7cf53 0 sl_J9_min_7cf53_0 := fd_base (by decide +kernel)
theorem dJ9_min_7cf53_0 : decode cJ9_min_7cf53 0 = .ok (.iload_n 0, 1) := fo_26 sr_J9_min_7cf53_0
theorem dJ9_min_7cf53_1 : decode cJ9_min_7cf53 1 = .ok (.iload_n 1, 1) := fo_27 (fd_n 1 sr_J9_min_7cf53_0 rfl)
theorem dJ9_min_7cf53_2 : decode cJ9_min_7cf53 2 = .ok (.if_icmp .gt 7, 3) := fo_163 (fd_n 2 sr_J9_min_7cf53_0 rfl) (by decide +kernel)
theorem dJ9_min_7cf53_5 : decode cJ9_min_7cf53 5 = .ok (.iload_n 0, 1) := fo_26 (fd_n 5 sr_J9_min_7cf53_0 rfl)
theorem dJ9_min_7cf53_6 : decode cJ9_min_7cf53 6 = .ok (.goto 4, 3) := fo_167 (fd_n 6 sr_J9_min_7cf53_0 rfl) (by decide +kernel)
theorem dJ9_min_7cf53_9 : decode cJ9_min_7cf53 9 = .ok (.iload_n 1, 1) := fo_27 (fd_n 9 sr_J9_min_7cf53_0 rfl)
theorem dJ9_min_7cf53_10 : decode cJ9_min_7cf53 10 = .ok (.ireturn, 1) := fo_172 (fd_n 10 sr_J9_min_7cf53_0 rfl)
noncomputable def sl_J0_length_8abf5_0 : List UInt8 := 42 :: 180 :: 0 :: 9 :: 190 :: 42 :: 182 :: 1 :: 79 :: 122 :: 172 :: []
theorem sr_J0_length_8abf5_0 : fd_at cJ0_length_8abf5 0 sl_J0_length_8abf5_0 := fd_base (by decide +kernel)
theorem dJ0_length_8abf5_0 : decode cJ0_length_8abf5 0 = .ok (.aload_n 0, 1) := fo_42 sr_J0_length_8abf5_0
theorem dJ0_length_8abf5_1 : decode cJ0_length_8abf5 1 = .ok (.getfield 9, 3) := fo_180 (fd_n 1 sr_J0_length_8abf5_0 rfl) rfl
theorem dJ0_length_8abf5_4 : decode cJ0_length_8abf5 4 = .ok (.arraylength, 1) := fo_190 (fd_n 4 sr_J0_length_8abf5_0 rfl)
theorem dJ0_length_8abf5_5 : decode cJ0_length_8abf5 5 = .ok (.aload_n 0, 1) := fo_42 (fd_n 5 sr_J0_length_8abf5_0 rfl)
theorem dJ0_length_8abf5_6 : decode cJ0_length_8abf5 6 = .ok (.invokevirtual 335, 3) := fo_182 (fd_n 6 sr_J0_length_8abf5_0 rfl) rfl
theorem dJ0_length_8abf5_9 : decode cJ0_length_8abf5 9 = .ok (.ishr, 1) := fo_122 (fd_n 9 sr_J0_length_8abf5_0 rfl)
theorem dJ0_length_8abf5_10 : decode cJ0_length_8abf5 10 = .ok (.ireturn, 1) := fo_172 (fd_n 10 sr_J0_length_8abf5_0 rfl)
noncomputable def sl_J0_charAt_5068e_0 : List UInt8 := 42 :: 182 :: 1 :: 236 :: 153 :: 0 :: 12 :: 42 :: 180 :: 0 :: 9 :: 27 :: 184 :: 1 :: 239 :: 172 :: 42 :: 180 :: 0 :: 9 :: 27 :: 184 :: 1 :: 242 :: 172 :: []
theorem sr_J0_charAt_5068e_0 : fd_at cJ0_charAt_5068e 0 sl_J0_charAt_5068e_0 := fd_base (by decide +kernel)
theorem dJ0_charAt_5068e_0 : decode cJ0_charAt_5068e 0 = .ok (.aload_n 0, 1) := fo_42 sr_J0_charAt_5068e_0
theorem dJ0_charAt_5068e_1 : decode cJ0_charAt_5068e 1 = .ok (.invokevirtual 492, 3) := fo_182 (fd_n 1 sr_J0_charAt_5068e_0 rfl) rfl
theorem dJ0_charAt_5068e_4 : decode cJ0_charAt_5068e 4 = .ok (.ifCond .eq 12, 3) := fo_153 (fd_n 4 sr_J0_charAt_5068e_0 rfl) (by decide +kernel)
theorem dJ0_charAt_5068e_7 : decode cJ0_charAt_5068e 7 = .ok (.aload_n 0, 1) := fo_42 (fd_n 7 sr_J0_charAt_5068e_0 rfl)
theorem dJ0_charAt_5068e_8 : decode cJ0_charAt_5068e 8 = .ok (.getfield 9, 3) := fo_180 (fd_n 8 sr_J0_charAt_5068e_0 rfl) rfl
theorem dJ0_charAt_5068e_11 : decode cJ0_charAt_5068e 11 = .ok (.iload_n 1, 1) := fo_27 (fd_n 11 sr_J0_charAt_5068e_0 rfl)
theorem dJ0_charAt_5068e_12 : decode cJ0_charAt_5068e 12 = .ok (.invokestatic 495, 3) := fo_184 (fd_n 12 sr_J0_charAt_5068e_0 rfl) rfl
theorem dJ0_charAt_5068e_15 : decode cJ0_charAt_5068e 15 = .ok (.ireturn, 1) := fo_172 (fd_n 15 sr_J0_charAt_5068e_0 rfl)
theorem dJ0_charAt_5068e_16 : decode cJ0_charAt_5068e 16 = .ok (.aload_n 0, 1) := fo_42 (fd_n 16 sr_J0_charAt_5068e_0 rfl)
theorem dJ0_charAt_5068e_17 : decode cJ0_charAt_5068e 17 = .ok (.getfield 9, 3) := fo_180 (fd_n 17 sr_J0_charAt_5068e_0 rfl) rfl
theorem dJ0_charAt_5068e_20 : decode cJ0_charAt_5068e 20 = .ok (.iload_n 1, 1) := fo_27 (fd_n 20 sr_J0_charAt_5068e_0 rfl)
theorem dJ0_charAt_5068e_21 : decode cJ0_charAt_5068e 21 = .ok (.invokestatic 498, 3) := fo_184 (fd_n 21 sr_J0_charAt_5068e_0 rfl) rfl
theorem dJ0_charAt_5068e_24 : decode cJ0_charAt_5068e 24 = .ok (.ireturn, 1) := fo_172 (fd_n 24 sr_J0_charAt_5068e_0 rfl)
noncomputable def sl_J0_coder_7d493_0 : List UInt8 := 178 :: 0 :: 38 :: 153 :: 0 :: 10 :: 42 :: 180 :: 0 :: 15 :: 167 :: 0 :: 4 :: 4 :: 172 :: []
theorem sr_J0_coder_7d493_0 : fd_at cJ0_coder_7d493 0 sl_J0_coder_7d493_0 := fd_base (by decide +kernel)
theorem dJ0_coder_7d493_0 : decode cJ0_coder_7d493 0 = .ok (.getstatic 38, 3) := fo_178 sr_J0_coder_7d493_0 rfl
theorem dJ0_coder_7d493_3 : decode cJ0_coder_7d493 3 = .ok (.ifCond .eq 10, 3) := fo_153 (fd_n 3 sr_J0_coder_7d493_0 rfl) (by decide +kernel)
theorem dJ0_coder_7d493_6 : decode cJ0_coder_7d493 6 = .ok (.aload_n 0, 1) := fo_42 (fd_n 6 sr_J0_coder_7d493_0 rfl)
theorem dJ0_coder_7d493_7 : decode cJ0_coder_7d493 7 = .ok (.getfield 15, 3) := fo_180 (fd_n 7 sr_J0_coder_7d493_0 rfl) rfl
theorem dJ0_coder_7d493_10 : decode cJ0_coder_7d493 10 = .ok (.goto 4, 3) := fo_167 (fd_n 10 sr_J0_coder_7d493_0 rfl) (by decide +kernel)
theorem dJ0_coder_7d493_13 : decode cJ0_coder_7d493 13 = .ok (.iconst 1, 1) := fo_4 (fd_n 13 sr_J0_coder_7d493_0 rfl)
theorem dJ0_coder_7d493_14 : decode cJ0_coder_7d493 14 = .ok (.ireturn, 1) := fo_172 (fd_n 14 sr_J0_coder_7d493_0 rfl)
noncomputable def sl_J0_isLatin1_aae02_0 : List UInt8 := 178 :: 0 :: 38 :: 153 :: 0 :: 14 :: 42 :: 180 :: 0 :: 15 :: 154 :: 0 :: 7 :: 4 :: 167 :: 0 :: 4 :: 3 :: 172 :: []
theorem sr_J0_isLatin1_aae02_0 : fd_at cJ0_isLatin1_aae02 0 sl_J0_isLatin1_aae02_0 := fd_base (by decide +kernel)
theorem dJ0_isLatin1_aae02_0 : decode cJ0_isLatin1_aae02 0 = .ok (.getstatic 38, 3) := fo_178 sr_J0_isLatin1_aae02_0 rfl
theorem dJ0_isLatin1_aae02_3 : decode cJ0_isLatin1_aae02 3 = .ok (.ifCond .eq 14, 3) := fo_153 (fd_n 3 sr_J0_isLatin1_aae02_0 rfl) (by decide +kernel)
theorem dJ0_isLatin1_aae02_6 : decode cJ0_isLatin1_aae02 6 = .ok (.aload_n 0, 1) := fo_42 (fd_n 6 sr_J0_isLatin1_aae02_0 rfl)
theorem dJ0_isLatin1_aae02_7 : decode cJ0_isLatin1_aae02 7 = .ok (.getfield 15, 3) := fo_180 (fd_n 7 sr_J0_isLatin1_aae02_0 rfl) rfl
theorem dJ0_isLatin1_aae02_10 : decode cJ0_isLatin1_aae02 10 = .ok (.ifCond .ne 7, 3) := fo_154 (fd_n 10 sr_J0_isLatin1_aae02_0 rfl) (by decide +kernel)
theorem dJ0_isLatin1_aae02_13 : decode cJ0_isLatin1_aae02 13 = .ok (.iconst 1, 1) := fo_4 (fd_n 13 sr_J0_isLatin1_aae02_0 rfl)
theorem dJ0_isLatin1_aae02_14 : decode cJ0_isLatin1_aae02 14 = .ok (.goto 4, 3) := fo_167 (fd_n 14 sr_J0_isLatin1_aae02_0 rfl) (by decide +kernel)
theorem dJ0_isLatin1_aae02_17 : decode cJ0_isLatin1_aae02 17 = .ok (.iconst 0, 1) := fo_3 (fd_n 17 sr_J0_isLatin1_aae02_0 rfl)
theorem dJ0_isLatin1_aae02_18 : decode cJ0_isLatin1_aae02 18 = .ok (.ireturn, 1) := fo_172 (fd_n 18 sr_J0_isLatin1_aae02_0 rfl)
noncomputable def sl_J0_checkIndex_df160_0 : List UInt8 := 26 :: 27 :: 178 :: 4 :: 29 :: 184 :: 4 :: 35 :: 87 :: 177 :: []
theorem sr_J0_checkIndex_df160_0 : fd_at cJ0_checkIndex_df160 0 sl_J0_checkIndex_df160_0 := fd_base (by decide +kernel)
theorem dJ0_checkIndex_df160_0 : decode cJ0_checkIndex_df160 0 = .ok (.iload_n 0, 1) := fo_26 sr_J0_checkIndex_df160_0
theorem dJ0_checkIndex_df160_1 : decode cJ0_checkIndex_df160 1 = .ok (.iload_n 1, 1) := fo_27 (fd_n 1 sr_J0_checkIndex_df160_0 rfl)
theorem dJ0_checkIndex_df160_2 : decode cJ0_checkIndex_df160 2 = .ok (.getstatic 1053, 3) := fo_178 (fd_n 2 sr_J0_checkIndex_df160_0 rfl) rfl
theorem dJ0_checkIndex_df160_5 : decode cJ0_checkIndex_df160 5 = .ok (.invokestatic 1059, 3) := fo_184 (fd_n 5 sr_J0_checkIndex_df160_0 rfl) rfl
theorem dJ0_checkIndex_df160_8 : decode cJ0_checkIndex_df160 8 = .ok (.pop, 1) := fo_87 (fd_n 8 sr_J0_checkIndex_df160_0 rfl)
theorem dJ0_checkIndex_df160_9 : decode cJ0_checkIndex_df160 9 = .ok (.return_, 1) := fo_177 (fd_n 9 sr_J0_checkIndex_df160_0 rfl)
noncomputable def sl_J1_charAt_3b067_0 : List UInt8 := 27 :: 42 :: 190 :: 184 :: 0 :: 9 :: 42 :: 27 :: 51 :: 17 :: 0 :: 255 :: 126 :: 146 :: 172 :: []
theorem sr_J1_charAt_3b067_0 : fd_at cJ1_charAt_3b067 0 sl_J1_charAt_3b067_0 := fd_base (by decide +kernel)
theorem dJ1_charAt_3b067_0 : decode cJ1_charAt_3b067 0 = .ok (.iload_n 1, 1) := fo_27 sr_J1_charAt_3b067_0
theorem dJ1_charAt_3b067_1 : decode cJ1_charAt_3b067 1 = .ok (.aload_n 0, 1) := fo_42 (fd_n 1 sr_J1_charAt_3b067_0 rfl)
theorem dJ1_charAt_3b067_2 : decode cJ1_charAt_3b067 2 = .ok (.arraylength, 1) := fo_190 (fd_n 2 sr_J1_charAt_3b067_0 rfl)
theorem dJ1_charAt_3b067_3 : decode cJ1_charAt_3b067 3 = .ok (.invokestatic 9, 3) := fo_184 (fd_n 3 sr_J1_charAt_3b067_0 rfl) rfl
theorem dJ1_charAt_3b067_6 : decode cJ1_charAt_3b067 6 = .ok (.aload_n 0, 1) := fo_42 (fd_n 6 sr_J1_charAt_3b067_0 rfl)
theorem dJ1_charAt_3b067_7 : decode cJ1_charAt_3b067 7 = .ok (.iload_n 1, 1) := fo_27 (fd_n 7 sr_J1_charAt_3b067_0 rfl)
theorem dJ1_charAt_3b067_8 : decode cJ1_charAt_3b067 8 = .ok (.baload, 1) := fo_51 (fd_n 8 sr_J1_charAt_3b067_0 rfl)
theorem dJ1_charAt_3b067_9 : decode cJ1_charAt_3b067 9 = .ok (.sipush 255, 3) := fo_17 (fd_n 9 sr_J1_charAt_3b067_0 rfl) (by decide +kernel)
theorem dJ1_charAt_3b067_12 : decode cJ1_charAt_3b067 12 = .ok (.iand, 1) := fo_126 (fd_n 12 sr_J1_charAt_3b067_0 rfl)
theorem dJ1_charAt_3b067_13 : decode cJ1_charAt_3b067 13 = .ok (.i2c, 1) := fo_146 (fd_n 13 sr_J1_charAt_3b067_0 rfl)
theorem dJ1_charAt_3b067_14 : decode cJ1_charAt_3b067 14 = .ok (.ireturn, 1) := fo_172 (fd_n 14 sr_J1_charAt_3b067_0 rfl)
noncomputable def sl_J2_getChar_3b067_2 : List UInt8 := 120 :: 128 :: 146 :: 172 :: []
noncomputable def sl_J2_getChar_3b067_1 : List UInt8 := 27 :: 4 :: 120 :: 60 :: 42 :: 27 :: 132 :: 1 :: 1 :: 51 :: 17 :: 0 :: 255 :: 126 :: 178 :: 0 :: 59 :: 120 :: 42 :: 27 :: 51 :: 17 :: 0 :: 255 :: 126 :: 178 :: 0 :: 63 :: sl_J2_getChar_3b067_2
noncomputable def sl_J2_getChar_3b067_0 : List UInt8 := 178 :: 0 :: 44 :: 154 :: 0 :: 25 :: 27 :: 155 :: 0 :: 11 :: 27 :: 42 :: 184 :: 0 :: 48 :: 161 :: 0 :: 13 :: 187 :: 0 :: 52 :: 89 :: 18 :: 54 :: 183 :: 0 :: 56 :: 191 :: sl_J2_getChar_3b067_1
theorem sr_J2_getChar_3b067_0 : fd_at cJ2_getChar_3b067 0 sl_J2_getChar_3b067_0 := fd_base (by decide +kernel)
theorem sr_J2_getChar_3b067_1 : fd_at cJ2_getChar_3b067 28 sl_J2_getChar_3b067_1 := fd_n 28 sr_J2_getChar_3b067_0 rfl
theorem sr_J2_getChar_3b067_2 : fd_at cJ2_getChar_3b067 56 sl_J2_getChar_3b067_2 := fd_n 28 sr_J2_getChar_3b067_1 rfl
theorem dJ2_getChar_3b067_0 : decode cJ2_getChar_3b067 0 = .ok (.getstatic 44, 3) := fo_178 sr_J2_getChar_3b067_0 rfl
theorem dJ2_getChar_3b067_3 : decode cJ2_getChar_3b067 3 = .ok (.ifCond .ne 25, 3) := fo_154 (fd_n 3 sr_J2_getChar_3b067_0 rfl) (by decide +kernel)
theorem dJ2_getChar_3b067_6 : decode cJ2_getChar_3b067 6 = .ok (.iload_n 1, 1) := fo_27 (fd_n 6 sr_J2_getChar_3b067_0 rfl)
theorem dJ2_getChar_3b067_7 : decode cJ2_getChar_3b067 7 = .ok (.ifCond .lt 11, 3) := fo_155 (fd_n 7 sr_J2_getChar_3b067_0 rfl) (by decide +kernel)
theorem dJ2_getChar_3b067_10 : decode cJ2_getChar_3b067 10 = .ok (.iload_n 1, 1) := fo_27 (fd_n 10 sr_J2_getChar_3b067_0 rfl)
theorem dJ2_getChar_3b067_11 : decode cJ2_getChar_3b067 11 = .ok (.aload_n 0, 1) := fo_42 (fd_n 11 sr_J2_getChar_3b067_0 rfl)
theorem dJ2_getChar_3b067_12 : decode cJ2_getChar_3b067 12 = .ok (.invokestatic 48, 3) := fo_184 (fd_n 12 sr_J2_getChar_3b067_0 rfl) rfl
theorem dJ2_getChar_3b067_15 : decode cJ2_getChar_3b067 15 = .ok (.if_icmp .lt 13, 3) := fo_161 (fd_n 15 sr_J2_getChar_3b067_0 rfl) (by decide +kernel)
theorem dJ2_getChar_3b067_18 : decode cJ2_getChar_3b067 18 = .ok (.new 52, 3) := fo_187 (fd_n 18 sr_J2_getChar_3b067_0 rfl) rfl
theorem dJ2_getChar_3b067_21 : decode cJ2_getChar_3b067 21 = .ok (.dup, 1) := fo_89 (fd_n 21 sr_J2_getChar_3b067_0 rfl)
theorem dJ2_getChar_3b067_22 : decode cJ2_getChar_3b067 22 = .ok (.ldc 54, 2) := fo_18 (fd_n 22 sr_J2_getChar_3b067_0 rfl) rfl
theorem dJ2_getChar_3b067_24 : decode cJ2_getChar_3b067 24 = .ok (.invokespecial 56, 3) := fo_183 (fd_n 24 sr_J2_getChar_3b067_0 rfl) rfl
theorem dJ2_getChar_3b067_27 : decode cJ2_getChar_3b067 27 = .ok (.athrow, 1) := fo_191 (fd_n 27 sr_J2_getChar_3b067_0 rfl)
theorem dJ2_getChar_3b067_28 : decode cJ2_getChar_3b067 28 = .ok (.iload_n 1, 1) := fo_27 sr_J2_getChar_3b067_1
theorem dJ2_getChar_3b067_29 : decode cJ2_getChar_3b067 29 = .ok (.iconst 1, 1) := fo_4 (fd_n 1 sr_J2_getChar_3b067_1 rfl)
theorem dJ2_getChar_3b067_30 : decode cJ2_getChar_3b067 30 = .ok (.ishl, 1) := fo_120 (fd_n 2 sr_J2_getChar_3b067_1 rfl)
theorem dJ2_getChar_3b067_31 : decode cJ2_getChar_3b067 31 = .ok (.istore_n 1, 1) := fo_60 (fd_n 3 sr_J2_getChar_3b067_1 rfl)
theorem dJ2_getChar_3b067_32 : decode cJ2_getChar_3b067 32 = .ok (.aload_n 0, 1) := fo_42 (fd_n 4 sr_J2_getChar_3b067_1 rfl)
theorem dJ2_getChar_3b067_33 : decode cJ2_getChar_3b067 33 = .ok (.iload_n 1, 1) := fo_27 (fd_n 5 sr_J2_getChar_3b067_1 rfl)
theorem dJ2_getChar_3b067_34 : decode cJ2_getChar_3b067 34 = .ok (.iinc 1 1, 3) := fo_132 (fd_n 6 sr_J2_getChar_3b067_1 rfl) rfl (by decide +kernel)
theorem dJ2_getChar_3b067_37 : decode cJ2_getChar_3b067 37 = .ok (.baload, 1) := fo_51 (fd_n 9 sr_J2_getChar_3b067_1 rfl)
theorem dJ2_getChar_3b067_38 : decode cJ2_getChar_3b067 38 = .ok (.sipush 255, 3) := fo_17 (fd_n 10 sr_J2_getChar_3b067_1 rfl) (by decide +kernel)
theorem dJ2_getChar_3b067_41 : decode cJ2_getChar_3b067 41 = .ok (.iand, 1) := fo_126 (fd_n 13 sr_J2_getChar_3b067_1 rfl)
theorem dJ2_getChar_3b067_42 : decode cJ2_getChar_3b067 42 = .ok (.getstatic 59, 3) := fo_178 (fd_n 14 sr_J2_getChar_3b067_1 rfl) rfl
theorem dJ2_getChar_3b067_45 : decode cJ2_getChar_3b067 45 = .ok (.ishl, 1) := fo_120 (fd_n 17 sr_J2_getChar_3b067_1 rfl)
theorem dJ2_getChar_3b067_46 : decode cJ2_getChar_3b067 46 = .ok (.aload_n 0, 1) := fo_42 (fd_n 18 sr_J2_getChar_3b067_1 rfl)
theorem dJ2_getChar_3b067_47 : decode cJ2_getChar_3b067 47 = .ok (.iload_n 1, 1) := fo_27 (fd_n 19 sr_J2_getChar_3b067_1 rfl)
theorem dJ2_getChar_3b067_48 : decode cJ2_getChar_3b067 48 = .ok (.baload, 1) := fo_51 (fd_n 20 sr_J2_getChar_3b067_1 rfl)
theorem dJ2_getChar_3b067_49 : decode cJ2_getChar_3b067 49 = .ok (.sipush 255, 3) := fo_17 (fd_n 21 sr_J2_getChar_3b067_1 rfl) (by decide +kernel)
theorem dJ2_getChar_3b067_52 : decode cJ2_getChar_3b067 52 = .ok (.iand, 1) := fo_126 (fd_n 24 sr_J2_getChar_3b067_1 rfl)
theorem dJ2_getChar_3b067_53 : decode cJ2_getChar_3b067 53 = .ok (.getstatic 63, 3) := fo_178 (fd_n 25 sr_J2_getChar_3b067_1 rfl) rfl
theorem dJ2_getChar_3b067_56 : decode cJ2_getChar_3b067 56 = .ok (.ishl, 1) := fo_120 sr_J2_getChar_3b067_2
theorem dJ2_getChar_3b067_57 : decode cJ2_getChar_3b067 57 = .ok (.ior, 1) := fo_128 (fd_n 1 sr_J2_getChar_3b067_2 rfl)
theorem dJ2_getChar_3b067_58 : decode cJ2_getChar_3b067 58 = .ok (.i2c, 1) := fo_146 (fd_n 2 sr_J2_getChar_3b067_2 rfl)
theorem dJ2_getChar_3b067_59 : decode cJ2_getChar_3b067 59 = .ok (.ireturn, 1) := fo_172 (fd_n 3 sr_J2_getChar_3b067_2 rfl)
noncomputable def sl_J2_length_9d52b_0 : List UInt8 := 42 :: 190 :: 4 :: 122 :: 172 :: []
theorem sr_J2_length_9d52b_0 : fd_at cJ2_length_9d52b 0 sl_J2_length_9d52b_0 := fd_base (by decide +kernel)
theorem dJ2_length_9d52b_0 : decode cJ2_length_9d52b 0 = .ok (.aload_n 0, 1) := fo_42 sr_J2_length_9d52b_0
theorem dJ2_length_9d52b_1 : decode cJ2_length_9d52b 1 = .ok (.arraylength, 1) := fo_190 (fd_n 1 sr_J2_length_9d52b_0 rfl)
theorem dJ2_length_9d52b_2 : decode cJ2_length_9d52b 2 = .ok (.iconst 1, 1) := fo_4 (fd_n 2 sr_J2_length_9d52b_0 rfl)
theorem dJ2_length_9d52b_3 : decode cJ2_length_9d52b 3 = .ok (.ishr, 1) := fo_122 (fd_n 3 sr_J2_length_9d52b_0 rfl)
theorem dJ2_length_9d52b_4 : decode cJ2_length_9d52b 4 = .ok (.ireturn, 1) := fo_172 (fd_n 4 sr_J2_length_9d52b_0 rfl)
noncomputable def sl_J2_charAt_3b067_0 : List UInt8 := 27 :: 42 :: 184 :: 0 :: 67 :: 42 :: 27 :: 184 :: 0 :: 71 :: 172 :: []
theorem sr_J2_charAt_3b067_0 : fd_at cJ2_charAt_3b067 0 sl_J2_charAt_3b067_0 := fd_base (by decide +kernel)
theorem dJ2_charAt_3b067_0 : decode cJ2_charAt_3b067 0 = .ok (.iload_n 1, 1) := fo_27 sr_J2_charAt_3b067_0
theorem dJ2_charAt_3b067_1 : decode cJ2_charAt_3b067 1 = .ok (.aload_n 0, 1) := fo_42 (fd_n 1 sr_J2_charAt_3b067_0 rfl)
theorem dJ2_charAt_3b067_2 : decode cJ2_charAt_3b067 2 = .ok (.invokestatic 67, 3) := fo_184 (fd_n 2 sr_J2_charAt_3b067_0 rfl) rfl
theorem dJ2_charAt_3b067_5 : decode cJ2_charAt_3b067 5 = .ok (.aload_n 0, 1) := fo_42 (fd_n 5 sr_J2_charAt_3b067_0 rfl)
theorem dJ2_charAt_3b067_6 : decode cJ2_charAt_3b067 6 = .ok (.iload_n 1, 1) := fo_27 (fd_n 6 sr_J2_charAt_3b067_0 rfl)
theorem dJ2_charAt_3b067_7 : decode cJ2_charAt_3b067 7 = .ok (.invokestatic 71, 3) := fo_184 (fd_n 7 sr_J2_charAt_3b067_0 rfl) rfl
theorem dJ2_charAt_3b067_10 : decode cJ2_charAt_3b067 10 = .ok (.ireturn, 1) := fo_172 (fd_n 10 sr_J2_charAt_3b067_0 rfl)
noncomputable def sl_J2_checkIndex_2214a_0 : List UInt8 := 26 :: 43 :: 184 :: 0 :: 48 :: 184 :: 1 :: 158 :: 177 :: []
theorem sr_J2_checkIndex_2214a_0 : fd_at cJ2_checkIndex_2214a 0 sl_J2_checkIndex_2214a_0 := fd_base (by decide +kernel)
theorem dJ2_checkIndex_2214a_0 : decode cJ2_checkIndex_2214a 0 = .ok (.iload_n 0, 1) := fo_26 sr_J2_checkIndex_2214a_0
theorem dJ2_checkIndex_2214a_1 : decode cJ2_checkIndex_2214a 1 = .ok (.aload_n 1, 1) := fo_43 (fd_n 1 sr_J2_checkIndex_2214a_0 rfl)
theorem dJ2_checkIndex_2214a_2 : decode cJ2_checkIndex_2214a 2 = .ok (.invokestatic 48, 3) := fo_184 (fd_n 2 sr_J2_checkIndex_2214a_0 rfl) rfl
theorem dJ2_checkIndex_2214a_5 : decode cJ2_checkIndex_2214a 5 = .ok (.invokestatic 414, 3) := fo_184 (fd_n 5 sr_J2_checkIndex_2214a_0 rfl) rfl
theorem dJ2_checkIndex_2214a_8 : decode cJ2_checkIndex_2214a 8 = .ok (.return_, 1) := fo_177 (fd_n 8 sr_J2_checkIndex_2214a_0 rfl)
noncomputable def sl_J3_checkIndex_8e157_0 : List UInt8 := 26 :: 155 :: 0 :: 8 :: 26 :: 27 :: 161 :: 0 :: 10 :: 44 :: 26 :: 27 :: 184 :: 0 :: 95 :: 191 :: 26 :: 172 :: []
theorem sr_J3_checkIndex_8e157_0 : fd_at cJ3_checkIndex_8e157 0 sl_J3_checkIndex_8e157_0 := fd_base (by decide +kernel)
theorem dJ3_checkIndex_8e157_0 : decode cJ3_checkIndex_8e157 0 = .ok (.iload_n 0, 1) := fo_26 sr_J3_checkIndex_8e157_0
theorem dJ3_checkIndex_8e157_1 : decode cJ3_checkIndex_8e157 1 = .ok (.ifCond .lt 8, 3) := fo_155 (fd_n 1 sr_J3_checkIndex_8e157_0 rfl) (by decide +kernel)
theorem dJ3_checkIndex_8e157_4 : decode cJ3_checkIndex_8e157 4 = .ok (.iload_n 0, 1) := fo_26 (fd_n 4 sr_J3_checkIndex_8e157_0 rfl)
theorem dJ3_checkIndex_8e157_5 : decode cJ3_checkIndex_8e157 5 = .ok (.iload_n 1, 1) := fo_27 (fd_n 5 sr_J3_checkIndex_8e157_0 rfl)
theorem dJ3_checkIndex_8e157_6 : decode cJ3_checkIndex_8e157 6 = .ok (.if_icmp .lt 10, 3) := fo_161 (fd_n 6 sr_J3_checkIndex_8e157_0 rfl) (by decide +kernel)
theorem dJ3_checkIndex_8e157_9 : decode cJ3_checkIndex_8e157 9 = .ok (.aload_n 2, 1) := fo_44 (fd_n 9 sr_J3_checkIndex_8e157_0 rfl)
theorem dJ3_checkIndex_8e157_10 : decode cJ3_checkIndex_8e157 10 = .ok (.iload_n 0, 1) := fo_26 (fd_n 10 sr_J3_checkIndex_8e157_0 rfl)
theorem dJ3_checkIndex_8e157_11 : decode cJ3_checkIndex_8e157 11 = .ok (.iload_n 1, 1) := fo_27 (fd_n 11 sr_J3_checkIndex_8e157_0 rfl)
theorem dJ3_checkIndex_8e157_12 : decode cJ3_checkIndex_8e157 12 = .ok (.invokestatic 95, 3) := fo_184 (fd_n 12 sr_J3_checkIndex_8e157_0 rfl) rfl
theorem dJ3_checkIndex_8e157_15 : decode cJ3_checkIndex_8e157 15 = .ok (.athrow, 1) := fo_191 (fd_n 15 sr_J3_checkIndex_8e157_0 rfl)
theorem dJ3_checkIndex_8e157_16 : decode cJ3_checkIndex_8e157 16 = .ok (.iload_n 0, 1) := fo_26 (fd_n 16 sr_J3_checkIndex_8e157_0 rfl)
theorem dJ3_checkIndex_8e157_17 : decode cJ3_checkIndex_8e157 17 = .ok (.ireturn, 1) := fo_172 (fd_n 17 sr_J3_checkIndex_8e157_0 rfl)
